set_option maxHeartbeats 4000000 in
set_option maxRecDepth 100000 in
theorem c_M_clause (E : vEnv) (l : Launch) (L : List Nat) (h : Nat → va_E) (o : Nat) (mw : Nat) (mk : Nat) (mt : Nat) (mr : Nat) (mki : Nat) (mso : Nat) (mst : Nat) (mpr : Nat) (msh : Nat) (mwa : Nat) (mpu : Nat) (mtx : Nat) (mor : Nat) (mbo : Nat) (tO : Nat) (tVi : Nat) (tSm : Nat) (bg : Int32) (um : Int32) (mn : Int32) (tm : Int32) (n : Nat) (MT : Nat → Int32) (F : Nat → Int32) (t : Nat) (Ti : Nat → Int32) (Re : Nat → Int32) (Ki : Nat → Int32) (So : Nat → Int32) (St : Nat → Int32) (Pr : Nat → Int32) (Sh : Nat → Int32) (Wa : Nat → Int32) (Pu : Nat → Int32) (s : LST) (c : Nat) (ht : t ≤ n) (hn : n ≤ 160) (hT : ∀ j, j < n → MT j = F j) (hH : MH2 (Ti, Re, Ki, So, St, Pr, Sh, Wa, Pu) s) (hm6 : s.2.2.1 ≤ 6) : CT E l yX11_clause cX11_clause 5 none 3 0 0 L h [(o, ob 10 [.ref mw, .ref mk, .ref mt, .ref mr, .ref mki, .ref mso, .ref mst, .ref mpr, .ref msh, .ref mwa, .ref mpu, .ref mtx, .int (nI n), .int (nI t), .int bg, .int 0, .int (nI c), .int um, .ref mor, .ref mbo, .int mn, .ref tO, .ref tVi, .ref tSm, .int tm]), (mtx, aI E 160 MT), (mt, aI E 8 Ti), (mr, aI E 8 Re), (mki, aI E 12 Ki), (mso, aI E 12 So), (mst, aI E 12 St), (mpr, aI E 12 Pr), (msh, aI E 2 Sh), (mwa, aI E 2 Wa), (mpu, aI E 2 Pu)] [.ref o] (qP L h (fun (u : MAR × Int32 × Int32 × Int32) => [(o, ob 10 [.ref mw, .ref mk, .ref mt, .ref mr, .ref mki, .ref mso, .ref mst, .ref mpr, .ref msh, .ref mwa, .ref mpu, .ref mtx, .int (nI n), .int u.2.1, .int u.2.2.1, .int u.2.2.2, .int (nI (c + 1)), .int um, .ref mor, .ref mbo, .int mn, .ref tO, .ref tVi, .ref tSm, .int tm]), (mtx, aI E 160 MT), (mt, aI E 8 u.1.1), (mr, aI E 8 u.1.2.1), (mki, aI E 12 u.1.2.2.1), (mso, aI E 12 u.1.2.2.2.1), (mst, aI E 12 u.1.2.2.2.2.1), (mpr, aI E 12 u.1.2.2.2.2.2.1), (msh, aI E 2 u.1.2.2.2.2.2.2.1), (mwa, aI E 2 u.1.2.2.2.2.2.2.2.1), (mpu, aI E 2 u.1.2.2.2.2.2.2.2.2)]) (fun u => none) (fun u => clR (clauseG F n t s.2.2.1) s (Ti, Re, Ki, So, St, Pr, Sh, Wa, Pu) u.1 u.2.1 u.2.2.1 u.2.2.2)) := by
  refine CT.ofV (by decide +kernel) (Nat.le_of_ble_eq_true rfl) ?_
  refine V.locals2 (lv2 := [(0, .ref o)]) rfl ?_
  refine V.aload_n dX11_clause_0 0 rfl ?_
  refine V.callVp (As := []) (rest := []) [0, 1] (c_M_word E l L _ o mw mk mt mr mki mso mst mpr msh mwa mpu mtx mor mbo tO tVi tSm bg 0 ((nI c)) um mn tm n MT F t (ht) (hn) (hT)) rfl (by decide) mi_X11_word 0 rfl rfl w_812 w_814 wp_11 rfl rfl (Nat.le_of_ble_eq_true rfl) ⟨by decide, by decide⟩ ⟨by decide, by decide⟩ dX11_clause_1 (vw2 := fun _ => [(o, ob 10 [.ref mw, .ref mk, .ref mt, .ref mr, .ref mki, .ref mso, .ref mst, .ref mpr, .ref msh, .ref mwa, .ref mpu, .ref mtx, .int (nI n), .int (nI (lwE F n t)), .int (nI (frT F n t)), .int 0, .int (nI c), .int um, .ref mor, .ref mbo, .int mn, .ref tO, .ref tVi, .ref tSm, .int tm]), (mtx, aI E 160 MT), (mt, aI E 8 Ti), (mr, aI E 8 Re), (mki, aI E 12 Ki), (mso, aI E 12 So), (mst, aI E 12 St), (mpr, aI E 12 Pr), (msh, aI E 2 Sh), (mwa, aI E 2 Wa), (mpu, aI E 2 Pu)]) (st2 := fun _ => [.int (wvW F (frT F n t) (lwE F n t - (frT F n t)))]) (fun _ => rfl) (fun _ => rfl) (fun _ => rfl) (fun _ _ => ?_)
  have htn : teT F n t ≤ n := teT_le ht
  rcases wordW_cases F (frT F n t) (teT F n t) with ⟨w0, hw0, hww, hs⟩ | hww
  · skip
    obtain ⟨hte, hlen, hv⟩ := word_says ht hw0 hs
    rcases (show w0 = 0 ∨ w0 = 1 ∨ w0 = 2 ∨ w0 = 3 ∨ w0 = 4 ∨ w0 = 5 ∨ w0 = 6 ∨ w0 = 7 ∨ w0 = 8 by omega) with rfl | rfl | rfl | rfl | rfl | rfl | rfl | rfl | rfl
    · skip
      refine V.topc (v := 237308) (hv.trans (by decide)) ?_
      rw [← hte]
      have hsl : sLen 0 = 4 := by decide
      have hpos : 0 < teT F n t := by rw [hte, hlen, hsl]; omega
      refine V.istore_n (lv2 := [(1, .int 237308), (0, .ref o)]) dX11_clause_4 rfl (by decide) rfl ?_
      refine V.aload_n dX11_clause_5 1 rfl ?_
      refine V.getf 0 13 rfl fa_X11_76_10 rfl dX11_clause_6 ?_
      refine V.if_le (tgt := 26) dX11_clause_9 (by decide) (fun hc => absurd hc (nI_nle hpos (by omega))) (fun _ => ?_)
      refine V.aload_n dX11_clause_12 1 rfl ?_
      refine V.getf 0 11 rfl fa_X11_44_10 rfl dX11_clause_13 ?_
      refine V.aload_n dX11_clause_16 1 rfl ?_
      refine V.getf 0 13 rfl fa_X11_76_10 rfl dX11_clause_17 ?_
      refine V.iconst (v := 1) dX11_clause_20 (by decide) ?_
      refine V.isub dX11_clause_21 ?_
      refine V.topc (v := (nI (teT F n t - 1))) (nI_subN (a := 1) hpos) ?_
      refine V.iald 1 rfl (vinI (by omega)) dX11_clause_22 ?_
      refine V.topc (v := (F (teT F n t - 1))) (by rw [nI_clamp (by omega)]; exact hT _ (by omega)) ?_
      refine V.goto (tgt := 27) dX11_clause_23 (by decide) ?_
      refine V.istore_n (lv2 := [(2, .int (F (teT F n t - 1))), (1, .int 237308), (0, .ref o)]) dX11_clause_27 rfl (by decide) rfl ?_
      refine V.aload_n dX11_clause_28 2 rfl ?_
      refine V.getf 0 14 rfl fa_X11_79_10 rfl dX11_clause_29 ?_
      refine V.istore_n (lv2 := [(3, .int (nI (frT F n t))), (2, .int (F (teT F n t - 1))), (1, .int 237308), (0, .ref o)]) dX11_clause_32 rfl (by decide) rfl ?_
      refine V.iload_n dX11_clause_33 2 rfl ?_
      refine V.iload_n dX11_clause_34 1 rfl ?_
      refine V.callSp (As := [.int 237308, .int (F (teT F n t - 1))]) (rest := []) [] (c_M_kindOf E l L _ 237308 ((F (teT F n t - 1)))) rfl (by decide) mi_X11_kindOf w_822 w_823 rfl rfl (Nat.le_of_ble_eq_true rfl) ⟨by decide, by decide⟩ ⟨by decide, by decide⟩ dX11_clause_35 (vw2 := fun _ => [(o, ob 10 [.ref mw, .ref mk, .ref mt, .ref mr, .ref mki, .ref mso, .ref mst, .ref mpr, .ref msh, .ref mwa, .ref mpu, .ref mtx, .int (nI n), .int (nI (teT F n t)), .int (nI (frT F n t)), .int 0, .int (nI c), .int um, .ref mor, .ref mbo, .int mn, .ref tO, .ref tVi, .ref tSm, .int tm]), (mtx, aI E 160 MT), (mt, aI E 8 Ti), (mr, aI E 8 Re), (mki, aI E 12 Ki), (mso, aI E 12 So), (mst, aI E 12 St), (mpr, aI E 12 Pr), (msh, aI E 2 Sh), (mwa, aI E 2 Wa), (mpu, aI E 2 Pu)]) (st2 := fun _ => [.int (kindW 237308 (F (teT F n t - 1)))]) (fun _ => rfl) (fun _ => rfl) (fun _ => rfl) (fun _ _ => ?_)
      refine V.topc (v := (-1)) (by unfold kindW; rw [if_neg (by decide), if_neg (by decide), if_neg (by decide), if_neg (fun h9 => absurd h9.1 (by decide))]) ?_
      refine V.istore (lv2 := [(4, .int (-1)), (3, .int (nI (frT F n t))), (2, .int (F (teT F n t - 1))), (1, .int 237308), (0, .ref o)]) dX11_clause_38 (by decide) rfl ?_
      refine V.iload dX11_clause_40 0 rfl ?_
      refine V.if_lt (tgt := 81) dX11_clause_42 (by decide) (fun _ => ?_) (fun hc => absurd (by decide) hc)
      refine V.iload_n dX11_clause_81 3 rfl ?_
      refine V.bipush (v := 108) dX11_clause_82 (by decide) ?_
      refine V.bipush (v := 97) dX11_clause_84 (by decide) ?_
      refine V.bipush (v := 110) dX11_clause_86 (by decide) ?_
      refine V.bipush (v := 101) dX11_clause_88 (by decide) ?_
      refine V.iconst (v := 0) dX11_clause_90 (by decide) ?_
      refine V.iconst (v := 0) dX11_clause_91 (by decide) ?_
      refine V.callSp (As := [.int 108, .int 97, .int 110, .int 101, .int 0, .int 0]) (rest := [.int 237308]) [] (c_M_wordOf E l L _ 108 97 110 101 0 0) rfl (by decide) mi_X11_wordOf w_825 w_826 rfl rfl (Nat.le_of_ble_eq_true rfl) ⟨by decide, by decide⟩ ⟨by decide, by decide⟩ dX11_clause_92 (vw2 := fun _ => [(o, ob 10 [.ref mw, .ref mk, .ref mt, .ref mr, .ref mki, .ref mso, .ref mst, .ref mpr, .ref msh, .ref mwa, .ref mpu, .ref mtx, .int (nI n), .int (nI (teT F n t)), .int (nI (frT F n t)), .int 0, .int (nI c), .int um, .ref mor, .ref mbo, .int mn, .ref tO, .ref tVi, .ref tSm, .int tm]), (mtx, aI E 160 MT), (mt, aI E 8 Ti), (mr, aI E 8 Re), (mki, aI E 12 Ki), (mso, aI E 12 So), (mst, aI E 12 St), (mpr, aI E 12 Pr), (msh, aI E 2 Sh), (mwa, aI E 2 Wa), (mpu, aI E 2 Pu)]) (st2 := fun _ => [.int (wofI 108 97 110 101 0 0), .int 237308]) (fun _ => rfl) (fun _ => rfl) (fun _ => rfl) (fun _ _ => ?_)
      refine V.topc (v := 237308) (by decide +kernel) ?_
      refine V.icmp_ne (tgt := 106) dX11_clause_95 (by decide) (fun hc => absurd (by decide) hc) (fun _ => ?_)
      refine V.aload_n dX11_clause_98 4 rfl ?_
      refine V.iconst (v := 1) dX11_clause_99 (by decide) ?_
      refine V.callVp (As := [.int 1]) (rest := []) [0, 2, 3, 8, 9, 10] (c_M_asAtFirst_1 E l L _ o mw mk mt mr mki mso mst mpr msh mwa mpu mtx mor mbo tO tVi tSm ((nI n)) ((nI (teT F n t))) ((nI (frT F n t))) 0 ((nI c)) um mn tm Ti Re Sh Wa Pu) rfl (by decide) mi_X11_asAtFirst 0 rfl rfl w_704 w_706 wp_7 rfl rfl (Nat.le_of_ble_eq_true rfl) ⟨by decide, by decide⟩ ⟨by decide, by decide⟩ dX11_clause_100 (vw2 := fun _ => [(o, ob 10 [.ref mw, .ref mk, .ref mt, .ref mr, .ref mki, .ref mso, .ref mst, .ref mpr, .ref msh, .ref mwa, .ref mpu, .ref mtx, .int (nI n), .int (nI (teT F n t)), .int (nI (frT F n t)), .int 0, .int (nI c), .int um, .ref mor, .ref mbo, .int mn, .ref tO, .ref tVi, .ref tSm, .int tm]), (mtx, aI E 160 MT), (mt, aI E 8 (putH 4 Ti 1 (fun _ => 4))), (mr, aI E 8 (putH 4 Re 1 (fun _ => 1))), (mki, aI E 12 Ki), (mso, aI E 12 So), (mst, aI E 12 St), (mpr, aI E 12 Pr), (msh, aI E 2 (upd Sh 1 0)), (mwa, aI E 2 (upd Wa 1 10)), (mpu, aI E 2 (upd Pu 1 60))]) (st2 := fun _ => []) (fun _ => rfl) (fun _ => rfl) (fun _ => rfl) (fun _ _ => ?_)
      refine V.goto (tgt := 234) dX11_clause_103 (by decide) ?_
      refine V.aload_n dX11_clause_234 4 rfl ?_
      refine V.dup dX11_clause_235 rfl ?_
      refine V.getf 0 16 rfl fa_X11_120_10 rfl dX11_clause_236 ?_
      refine V.iconst (v := 1) dX11_clause_239 (by decide) ?_
      refine V.iadd dX11_clause_240 ?_
      refine V.topc (v := (nI (c + 1))) (nI_1 c) ?_
      refine V.putf 0 16 (vw2 := [(o, ob 10 [.ref mw, .ref mk, .ref mt, .ref mr, .ref mki, .ref mso, .ref mst, .ref mpr, .ref msh, .ref mwa, .ref mpu, .ref mtx, .int (nI n), .int (nI (teT F n t)), .int (nI (frT F n t)), .int 0, .int (nI (c + 1)), .int um, .ref mor, .ref mbo, .int mn, .ref tO, .ref tVi, .ref tSm, .int tm]), (mtx, aI E 160 MT), (mt, aI E 8 (putH 4 Ti 1 (fun _ => 4))), (mr, aI E 8 (putH 4 Re 1 (fun _ => 1))), (mki, aI E 12 Ki), (mso, aI E 12 So), (mst, aI E 12 St), (mpr, aI E 12 Pr), (msh, aI E 2 (upd Sh 1 0)), (mwa, aI E 2 (upd Wa 1 10)), (mpu, aI E 2 (upd Pu 1 60))]) rfl fp_X11_120_10 rfl rfl (Nat.le_of_ble_eq_true rfl) rfl dX11_clause_241 ?_
      exact V.vret rfl dX11_clause_244 (⟨(((putH 4 Ti 1 (fun _ => 4)), (putH 4 Re 1 (fun _ => 1)), Ki, So, St, Pr, (upd Sh 1 0), (upd Wa 1 10), (upd Pu 1 60)), (nI (teT F n t)), (nI (frT F n t)), 0), rfl, rfl, rfl, clR_w (zs := []) hw0 hww (Nat.zero_le _) (tl_lane hH).1 ns_nil (fun _ _ => (tl_lane hH).2)⟩)
    · skip
      refine V.topc (v := 385418) (hv.trans (by decide)) ?_
      rw [← hte]
      have hsl : sLen 1 = 4 := by decide
      have hpos : 0 < teT F n t := by rw [hte, hlen, hsl]; omega
      refine V.istore_n (lv2 := [(1, .int 385418), (0, .ref o)]) dX11_clause_4 rfl (by decide) rfl ?_
      refine V.aload_n dX11_clause_5 1 rfl ?_
      refine V.getf 0 13 rfl fa_X11_76_10 rfl dX11_clause_6 ?_
      refine V.if_le (tgt := 26) dX11_clause_9 (by decide) (fun hc => absurd hc (nI_nle hpos (by omega))) (fun _ => ?_)
      refine V.aload_n dX11_clause_12 1 rfl ?_
      refine V.getf 0 11 rfl fa_X11_44_10 rfl dX11_clause_13 ?_
      refine V.aload_n dX11_clause_16 1 rfl ?_
      refine V.getf 0 13 rfl fa_X11_76_10 rfl dX11_clause_17 ?_
      refine V.iconst (v := 1) dX11_clause_20 (by decide) ?_
      refine V.isub dX11_clause_21 ?_
      refine V.topc (v := (nI (teT F n t - 1))) (nI_subN (a := 1) hpos) ?_
      refine V.iald 1 rfl (vinI (by omega)) dX11_clause_22 ?_
      refine V.topc (v := (F (teT F n t - 1))) (by rw [nI_clamp (by omega)]; exact hT _ (by omega)) ?_
      refine V.goto (tgt := 27) dX11_clause_23 (by decide) ?_
      refine V.istore_n (lv2 := [(2, .int (F (teT F n t - 1))), (1, .int 385418), (0, .ref o)]) dX11_clause_27 rfl (by decide) rfl ?_
      refine V.aload_n dX11_clause_28 2 rfl ?_
      refine V.getf 0 14 rfl fa_X11_79_10 rfl dX11_clause_29 ?_
      refine V.istore_n (lv2 := [(3, .int (nI (frT F n t))), (2, .int (F (teT F n t - 1))), (1, .int 385418), (0, .ref o)]) dX11_clause_32 rfl (by decide) rfl ?_
      refine V.iload_n dX11_clause_33 2 rfl ?_
      refine V.iload_n dX11_clause_34 1 rfl ?_
      refine V.callSp (As := [.int 385418, .int (F (teT F n t - 1))]) (rest := []) [] (c_M_kindOf E l L _ 385418 ((F (teT F n t - 1)))) rfl (by decide) mi_X11_kindOf w_822 w_823 rfl rfl (Nat.le_of_ble_eq_true rfl) ⟨by decide, by decide⟩ ⟨by decide, by decide⟩ dX11_clause_35 (vw2 := fun _ => [(o, ob 10 [.ref mw, .ref mk, .ref mt, .ref mr, .ref mki, .ref mso, .ref mst, .ref mpr, .ref msh, .ref mwa, .ref mpu, .ref mtx, .int (nI n), .int (nI (teT F n t)), .int (nI (frT F n t)), .int 0, .int (nI c), .int um, .ref mor, .ref mbo, .int mn, .ref tO, .ref tVi, .ref tSm, .int tm]), (mtx, aI E 160 MT), (mt, aI E 8 Ti), (mr, aI E 8 Re), (mki, aI E 12 Ki), (mso, aI E 12 So), (mst, aI E 12 St), (mpr, aI E 12 Pr), (msh, aI E 2 Sh), (mwa, aI E 2 Wa), (mpu, aI E 2 Pu)]) (st2 := fun _ => [.int (kindW 385418 (F (teT F n t - 1)))]) (fun _ => rfl) (fun _ => rfl) (fun _ => rfl) (fun _ _ => ?_)
      refine V.topc (v := (-1)) (by unfold kindW; rw [if_neg (by decide), if_neg (by decide), if_neg (by decide), if_neg (fun h9 => absurd h9.1 (by decide))]) ?_
      refine V.istore (lv2 := [(4, .int (-1)), (3, .int (nI (frT F n t))), (2, .int (F (teT F n t - 1))), (1, .int 385418), (0, .ref o)]) dX11_clause_38 (by decide) rfl ?_
      refine V.iload dX11_clause_40 0 rfl ?_
      refine V.if_lt (tgt := 81) dX11_clause_42 (by decide) (fun _ => ?_) (fun hc => absurd (by decide) hc)
      refine V.iload_n dX11_clause_81 3 rfl ?_
      refine V.bipush (v := 108) dX11_clause_82 (by decide) ?_
      refine V.bipush (v := 97) dX11_clause_84 (by decide) ?_
      refine V.bipush (v := 110) dX11_clause_86 (by decide) ?_
      refine V.bipush (v := 101) dX11_clause_88 (by decide) ?_
      refine V.iconst (v := 0) dX11_clause_90 (by decide) ?_
      refine V.iconst (v := 0) dX11_clause_91 (by decide) ?_
      refine V.callSp (As := [.int 108, .int 97, .int 110, .int 101, .int 0, .int 0]) (rest := [.int 385418]) [] (c_M_wordOf E l L _ 108 97 110 101 0 0) rfl (by decide) mi_X11_wordOf w_825 w_826 rfl rfl (Nat.le_of_ble_eq_true rfl) ⟨by decide, by decide⟩ ⟨by decide, by decide⟩ dX11_clause_92 (vw2 := fun _ => [(o, ob 10 [.ref mw, .ref mk, .ref mt, .ref mr, .ref mki, .ref mso, .ref mst, .ref mpr, .ref msh, .ref mwa, .ref mpu, .ref mtx, .int (nI n), .int (nI (teT F n t)), .int (nI (frT F n t)), .int 0, .int (nI c), .int um, .ref mor, .ref mbo, .int mn, .ref tO, .ref tVi, .ref tSm, .int tm]), (mtx, aI E 160 MT), (mt, aI E 8 Ti), (mr, aI E 8 Re), (mki, aI E 12 Ki), (mso, aI E 12 So), (mst, aI E 12 St), (mpr, aI E 12 Pr), (msh, aI E 2 Sh), (mwa, aI E 2 Wa), (mpu, aI E 2 Pu)]) (st2 := fun _ => [.int (wofI 108 97 110 101 0 0), .int 385418]) (fun _ => rfl) (fun _ => rfl) (fun _ => rfl) (fun _ _ => ?_)
      refine V.topc (v := 237308) (by decide +kernel) ?_
      refine V.icmp_ne (tgt := 106) dX11_clause_95 (by decide) (fun _ => ?_) (fun hc => absurd hc (by decide))
      refine V.iload_n dX11_clause_106 3 rfl ?_
      refine V.bipush (v := 115) dX11_clause_107 (by decide) ?_
      refine V.bipush (v := 111) dX11_clause_109 (by decide) ?_
      refine V.bipush (v := 114) dX11_clause_111 (by decide) ?_
      refine V.bipush (v := 116) dX11_clause_113 (by decide) ?_
      refine V.iconst (v := 0) dX11_clause_115 (by decide) ?_
      refine V.iconst (v := 0) dX11_clause_116 (by decide) ?_
      refine V.callSp (As := [.int 115, .int 111, .int 114, .int 116, .int 0, .int 0]) (rest := [.int 385418]) [] (c_M_wordOf E l L _ 115 111 114 116 0 0) rfl (by decide) mi_X11_wordOf w_825 w_826 rfl rfl (Nat.le_of_ble_eq_true rfl) ⟨by decide, by decide⟩ ⟨by decide, by decide⟩ dX11_clause_117 (vw2 := fun _ => [(o, ob 10 [.ref mw, .ref mk, .ref mt, .ref mr, .ref mki, .ref mso, .ref mst, .ref mpr, .ref msh, .ref mwa, .ref mpu, .ref mtx, .int (nI n), .int (nI (teT F n t)), .int (nI (frT F n t)), .int 0, .int (nI c), .int um, .ref mor, .ref mbo, .int mn, .ref tO, .ref tVi, .ref tSm, .int tm]), (mtx, aI E 160 MT), (mt, aI E 8 Ti), (mr, aI E 8 Re), (mki, aI E 12 Ki), (mso, aI E 12 So), (mst, aI E 12 St), (mpr, aI E 12 Pr), (msh, aI E 2 Sh), (mwa, aI E 2 Wa), (mpu, aI E 2 Pu)]) (st2 := fun _ => [.int (wofI 115 111 114 116 0 0), .int 385418]) (fun _ => rfl) (fun _ => rfl) (fun _ => rfl) (fun _ _ => ?_)
      refine V.topc (v := 385418) (by decide +kernel) ?_
      refine V.icmp_ne (tgt := 130) dX11_clause_120 (by decide) (fun hc => absurd (by decide) hc) (fun _ => ?_)
      refine V.aload_n dX11_clause_123 4 rfl ?_
      refine V.callVp (As := []) (rest := []) [0, 1, 2, 3] (c_M_newSort E l L _ o mw mk mt mr mki mso mst mpr msh mwa mpu mtx mor mbo tO tVi tSm ((nI (frT F n t))) ((nI c)) um mn tm n MT F ((teT F n t)) Ti Re (htn) (hn) (hT)) rfl (by decide) mi_X11_newSort 0 rfl rfl w_839 w_841 wp_15 rfl rfl (Nat.le_of_ble_eq_true rfl) ⟨by decide, by decide⟩ ⟨by decide, by decide⟩ dX11_clause_124 (vw2 := fun u124 => [(o, ob 10 [.ref mw, .ref mk, .ref mt, .ref mr, .ref mki, .ref mso, .ref mst, .ref mpr, .ref msh, .ref mwa, .ref mpu, .ref mtx, .int (nI n), .int u124.2.2.2.2.2.1, .int u124.2.2.2.2.2.2.1, .int u124.2.2.2.2.2.2.2, .int (nI c), .int um, .ref mor, .ref mbo, .int mn, .ref tO, .ref tVi, .ref tSm, .int tm]), (mtx, aI E 160 MT), (mt, aI E 8 u124.1), (mr, aI E 8 u124.2.1), (mki, aI E 12 Ki), (mso, aI E 12 So), (mst, aI E 12 St), (mpr, aI E 12 Pr), (msh, aI E 2 Sh), (mwa, aI E 2 Wa), (mpu, aI E 2 Pu)]) (st2 := fun u124 => []) (fun _ => rfl) (fun _ => rfl) (fun _ => rfl) (fun u124 hq_124 => ?_)
      refine V.goto (tgt := 234) dX11_clause_127 (by decide) ?_
      refine V.aload_n dX11_clause_234 4 rfl ?_
      refine V.dup dX11_clause_235 rfl ?_
      refine V.getf 0 16 rfl fa_X11_120_10 rfl dX11_clause_236 ?_
      refine V.iconst (v := 1) dX11_clause_239 (by decide) ?_
      refine V.iadd dX11_clause_240 ?_
      refine V.topc (v := (nI (c + 1))) (nI_1 c) ?_
      refine V.putf 0 16 (vw2 := [(o, ob 10 [.ref mw, .ref mk, .ref mt, .ref mr, .ref mki, .ref mso, .ref mst, .ref mpr, .ref msh, .ref mwa, .ref mpu, .ref mtx, .int (nI n), .int u124.2.2.2.2.2.1, .int u124.2.2.2.2.2.2.1, .int u124.2.2.2.2.2.2.2, .int (nI (c + 1)), .int um, .ref mor, .ref mbo, .int mn, .ref tO, .ref tVi, .ref tSm, .int tm]), (mtx, aI E 160 MT), (mt, aI E 8 u124.1), (mr, aI E 8 u124.2.1), (mki, aI E 12 Ki), (mso, aI E 12 So), (mst, aI E 12 St), (mpr, aI E 12 Pr), (msh, aI E 2 Sh), (mwa, aI E 2 Wa), (mpu, aI E 2 Pu)]) rfl fp_X11_120_10 rfl rfl (Nat.le_of_ble_eq_true rfl) rfl dX11_clause_241 ?_
      exact V.vret rfl dX11_clause_244 (⟨((u124.1, u124.2.1, Ki, So, St, Pr, Sh, Wa, Pu), u124.2.2.2.2.2.1, u124.2.2.2.2.2.2.1, u124.2.2.2.2.2.2.2), rfl, rfl, rfl, clR_w (zs := [u124.2.2.1, u124.2.2.2.1, u124.2.2.2.2.1]) hw0 hww hm6 (by rcases nsR_01 hq_124.1 with h0 | h0; (obtain ⟨so, hso, e1, e2, e3⟩ := hq_124.2.1 h0; rw [e2, e3]; exact tl_sort _ _); (obtain ⟨e2, e3⟩ := hq_124.2.2 h0; rw [e2, e3]; exact MH1.rf _)) hq_124.1 (fun h0 _ => by obtain ⟨so, hso, e1, e2, e3⟩ := hq_124.2.1 h0; rw [e1, e2, e3]; exact tl_sort2 hH hso _ _)⟩)
    · skip
      refine V.topc (v := 8740238) (hv.trans (by decide)) ?_
      rw [← hte]
      have hsl : sLen 2 = 5 := by decide
      have hpos : 0 < teT F n t := by rw [hte, hlen, hsl]; omega
      refine V.istore_n (lv2 := [(1, .int 8740238), (0, .ref o)]) dX11_clause_4 rfl (by decide) rfl ?_
      refine V.aload_n dX11_clause_5 1 rfl ?_
      refine V.getf 0 13 rfl fa_X11_76_10 rfl dX11_clause_6 ?_
      refine V.if_le (tgt := 26) dX11_clause_9 (by decide) (fun hc => absurd hc (nI_nle hpos (by omega))) (fun _ => ?_)
      refine V.aload_n dX11_clause_12 1 rfl ?_
      refine V.getf 0 11 rfl fa_X11_44_10 rfl dX11_clause_13 ?_
      refine V.aload_n dX11_clause_16 1 rfl ?_
      refine V.getf 0 13 rfl fa_X11_76_10 rfl dX11_clause_17 ?_
      refine V.iconst (v := 1) dX11_clause_20 (by decide) ?_
      refine V.isub dX11_clause_21 ?_
      refine V.topc (v := (nI (teT F n t - 1))) (nI_subN (a := 1) hpos) ?_
      refine V.iald 1 rfl (vinI (by omega)) dX11_clause_22 ?_
      refine V.topc (v := (F (teT F n t - 1))) (by rw [nI_clamp (by omega)]; exact hT _ (by omega)) ?_
      refine V.goto (tgt := 27) dX11_clause_23 (by decide) ?_
      refine V.istore_n (lv2 := [(2, .int (F (teT F n t - 1))), (1, .int 8740238), (0, .ref o)]) dX11_clause_27 rfl (by decide) rfl ?_
      refine V.aload_n dX11_clause_28 2 rfl ?_
      refine V.getf 0 14 rfl fa_X11_79_10 rfl dX11_clause_29 ?_
      refine V.istore_n (lv2 := [(3, .int (nI (frT F n t))), (2, .int (F (teT F n t - 1))), (1, .int 8740238), (0, .ref o)]) dX11_clause_32 rfl (by decide) rfl ?_
      refine V.iload_n dX11_clause_33 2 rfl ?_
      refine V.iload_n dX11_clause_34 1 rfl ?_
      refine V.callSp (As := [.int 8740238, .int (F (teT F n t - 1))]) (rest := []) [] (c_M_kindOf E l L _ 8740238 ((F (teT F n t - 1)))) rfl (by decide) mi_X11_kindOf w_822 w_823 rfl rfl (Nat.le_of_ble_eq_true rfl) ⟨by decide, by decide⟩ ⟨by decide, by decide⟩ dX11_clause_35 (vw2 := fun _ => [(o, ob 10 [.ref mw, .ref mk, .ref mt, .ref mr, .ref mki, .ref mso, .ref mst, .ref mpr, .ref msh, .ref mwa, .ref mpu, .ref mtx, .int (nI n), .int (nI (teT F n t)), .int (nI (frT F n t)), .int 0, .int (nI c), .int um, .ref mor, .ref mbo, .int mn, .ref tO, .ref tVi, .ref tSm, .int tm]), (mtx, aI E 160 MT), (mt, aI E 8 Ti), (mr, aI E 8 Re), (mki, aI E 12 Ki), (mso, aI E 12 So), (mst, aI E 12 St), (mpr, aI E 12 Pr), (msh, aI E 2 Sh), (mwa, aI E 2 Wa), (mpu, aI E 2 Pu)]) (st2 := fun _ => [.int (kindW 8740238 (F (teT F n t - 1)))]) (fun _ => rfl) (fun _ => rfl) (fun _ => rfl) (fun _ _ => ?_)
      refine V.topc (v := 0) (by unfold kindW; rw [if_pos rfl]) ?_
      refine V.istore (lv2 := [(4, .int 0), (3, .int (nI (frT F n t))), (2, .int (F (teT F n t - 1))), (1, .int 8740238), (0, .ref o)]) dX11_clause_38 (by decide) rfl ?_
      refine V.iload dX11_clause_40 0 rfl ?_
      refine V.if_lt (tgt := 81) dX11_clause_42 (by decide) (fun hc => absurd hc (by decide)) (fun _ => ?_)
      refine V.aload_n dX11_clause_45 4 rfl ?_
      refine V.aload_n dX11_clause_46 4 rfl ?_
      refine V.getf 0 8 rfl fa_X11_35_10 rfl dX11_clause_47 ?_
      refine V.iconst (v := 1) dX11_clause_50 (by decide) ?_
      refine V.iald 8 rfl (vin rfl) dX11_clause_51 ?_
      refine V.topc (v := (Sh 1)) (rfl) ?_
      refine V.topc (v := (nI s.2.2.1)) (hH.2.2.2.1) ?_
      refine V.bipush (v := 6) dX11_clause_52 (by decide) ?_
      refine V.icmp_ne (tgt := 61) dX11_clause_54 (by decide) (fun c1_54 => ?_) (fun c1_54 => ?_)
      · skip
        have hm5 : s.2.2.1 < 6 := by
          have h9 : s.2.2.1 ≠ 6 := fun h8 => c1_54 (by rw [h8]; rfl)
          omega
        refine V.iconst (v := 0) dX11_clause_61 (by decide) ?_
        refine V.putf 0 15 (vw2 := [(o, ob 10 [.ref mw, .ref mk, .ref mt, .ref mr, .ref mki, .ref mso, .ref mst, .ref mpr, .ref msh, .ref mwa, .ref mpu, .ref mtx, .int (nI n), .int (nI (teT F n t)), .int (nI (frT F n t)), .int 0, .int (nI c), .int um, .ref mor, .ref mbo, .int mn, .ref tO, .ref tVi, .ref tSm, .int tm]), (mtx, aI E 160 MT), (mt, aI E 8 Ti), (mr, aI E 8 Re), (mki, aI E 12 Ki), (mso, aI E 12 So), (mst, aI E 12 St), (mpr, aI E 12 Pr), (msh, aI E 2 Sh), (mwa, aI E 2 Wa), (mpu, aI E 2 Pu)]) rfl fp_X11_82_10 rfl rfl (Nat.le_of_ble_eq_true rfl) rfl dX11_clause_62 ?_
        refine V.aload_n dX11_clause_65 4 rfl ?_
        refine V.getf 0 15 rfl fa_X11_82_10 rfl dX11_clause_66 ?_
        refine V.if_ne (tgt := 234) dX11_clause_69 (by decide) (fun hc => absurd (by decide) hc) (fun _ => ?_)
        refine V.aload_n dX11_clause_72 4 rfl ?_
        refine V.iload dX11_clause_73 0 rfl ?_
        refine V.callVp (As := [.int 0]) (rest := []) [0, 1, 4, 5, 6, 7, 8] (c_M_newShop E l L _ o mw mk mt mr mki mso mst mpr msh mwa mpu mtx mor mbo tO tVi tSm ((nI (frT F n t))) ((nI c)) um mn tm n MT F ((teT F n t)) Ki So St Pr Sh s.2.2.1 0 (htn) (hn) (hT) (hH.2.2.2.1) (hm5)) rfl (by decide) mi_X11_newShop 0 rfl rfl w_828 w_830 wp_13 rfl rfl (Nat.le_of_ble_eq_true rfl) ⟨by decide, by decide⟩ ⟨by decide, by decide⟩ dX11_clause_75 (vw2 := fun u75 => [(o, ob 10 [.ref mw, .ref mk, .ref mt, .ref mr, .ref mki, .ref mso, .ref mst, .ref mpr, .ref msh, .ref mwa, .ref mpu, .ref mtx, .int (nI n), .int u75.2.2.2.1, .int u75.2.2.2.2.1, .int u75.2.2.2.2.2, .int (nI c), .int um, .ref mor, .ref mbo, .int mn, .ref tO, .ref tVi, .ref tSm, .int tm]), (mtx, aI E 160 MT), (mt, aI E 8 Ti), (mr, aI E 8 Re), (mki, aI E 12 (upd Ki (6 + s.2.2.1) 0)), (mso, aI E 12 (upd So (6 + s.2.2.1) u75.1)), (mst, aI E 12 (upd St (6 + s.2.2.1) u75.2.1)), (mpr, aI E 12 (upd Pr (6 + s.2.2.1) u75.2.2.1)), (msh, aI E 2 (upd Sh 1 (nI (s.2.2.1 + 1)))), (mwa, aI E 2 Wa), (mpu, aI E 2 Pu)]) (st2 := fun u75 => []) (fun _ => rfl) (fun _ => rfl) (fun _ => rfl) (fun u75 hq_75 => ?_)
        refine V.goto (tgt := 234) dX11_clause_78 (by decide) ?_
        refine V.aload_n dX11_clause_234 4 rfl ?_
        refine V.dup dX11_clause_235 rfl ?_
        refine V.getf 0 16 rfl fa_X11_120_10 rfl dX11_clause_236 ?_
        refine V.iconst (v := 1) dX11_clause_239 (by decide) ?_
        refine V.iadd dX11_clause_240 ?_
        refine V.topc (v := (nI (c + 1))) (nI_1 c) ?_
        refine V.putf 0 16 (vw2 := [(o, ob 10 [.ref mw, .ref mk, .ref mt, .ref mr, .ref mki, .ref mso, .ref mst, .ref mpr, .ref msh, .ref mwa, .ref mpu, .ref mtx, .int (nI n), .int u75.2.2.2.1, .int u75.2.2.2.2.1, .int u75.2.2.2.2.2, .int (nI (c + 1)), .int um, .ref mor, .ref mbo, .int mn, .ref tO, .ref tVi, .ref tSm, .int tm]), (mtx, aI E 160 MT), (mt, aI E 8 Ti), (mr, aI E 8 Re), (mki, aI E 12 (upd Ki (6 + s.2.2.1) 0)), (mso, aI E 12 (upd So (6 + s.2.2.1) u75.1)), (mst, aI E 12 (upd St (6 + s.2.2.1) u75.2.1)), (mpr, aI E 12 (upd Pr (6 + s.2.2.1) u75.2.2.1)), (msh, aI E 2 (upd Sh 1 (nI (s.2.2.1 + 1)))), (mwa, aI E 2 Wa), (mpu, aI E 2 Pu)]) rfl fp_X11_120_10 rfl rfl (Nat.le_of_ble_eq_true rfl) rfl dX11_clause_241 ?_
        exact V.vret rfl dX11_clause_244 (⟨((Ti, Re, (upd Ki (6 + s.2.2.1) 0), (upd So (6 + s.2.2.1) u75.1), (upd St (6 + s.2.2.1) u75.2.1), (upd Pr (6 + s.2.2.1) u75.2.2.1), (upd Sh 1 (nI (s.2.2.1 + 1))), Wa, Pu), u75.2.2.2.1, u75.2.2.2.2.1, u75.2.2.2.2.2), rfl, rfl, rfl, clR_w (zs := [u75.1, u75.2.1, u75.2.2.1]) hw0 hww (by show s.2.2.1 + 1 ≤ 6; omega) (tl_shop _ _ _ _ _) hq_75 (fun h0 _ => by obtain ⟨so, hso, e⟩ := nsR_so hq_75 h0; rw [e]; exact tl_shop2 (w := 2) hH (by decide) (by decide) hso _ _)⟩)
      · skip
        have hm66 : s.2.2.1 = 6 := (nI_eq (b := 6) (by omega) (by omega)).mp c1_54
        refine V.iconst (v := 1) dX11_clause_57 (by decide) ?_
        refine V.goto (tgt := 62) dX11_clause_58 (by decide) ?_
        refine V.putf 0 15 (vw2 := [(o, ob 10 [.ref mw, .ref mk, .ref mt, .ref mr, .ref mki, .ref mso, .ref mst, .ref mpr, .ref msh, .ref mwa, .ref mpu, .ref mtx, .int (nI n), .int (nI (teT F n t)), .int (nI (frT F n t)), .int 1, .int (nI c), .int um, .ref mor, .ref mbo, .int mn, .ref tO, .ref tVi, .ref tSm, .int tm]), (mtx, aI E 160 MT), (mt, aI E 8 Ti), (mr, aI E 8 Re), (mki, aI E 12 Ki), (mso, aI E 12 So), (mst, aI E 12 St), (mpr, aI E 12 Pr), (msh, aI E 2 Sh), (mwa, aI E 2 Wa), (mpu, aI E 2 Pu)]) rfl fp_X11_82_10 rfl rfl (Nat.le_of_ble_eq_true rfl) rfl dX11_clause_62 ?_
        refine V.aload_n dX11_clause_65 4 rfl ?_
        refine V.getf 0 15 rfl fa_X11_82_10 rfl dX11_clause_66 ?_
        refine V.if_ne (tgt := 234) dX11_clause_69 (by decide) (fun _ => ?_) (fun hc => absurd hc (by decide))
        refine V.aload_n dX11_clause_234 4 rfl ?_
        refine V.dup dX11_clause_235 rfl ?_
        refine V.getf 0 16 rfl fa_X11_120_10 rfl dX11_clause_236 ?_
        refine V.iconst (v := 1) dX11_clause_239 (by decide) ?_
        refine V.iadd dX11_clause_240 ?_
        refine V.topc (v := (nI (c + 1))) (nI_1 c) ?_
        refine V.putf 0 16 (vw2 := [(o, ob 10 [.ref mw, .ref mk, .ref mt, .ref mr, .ref mki, .ref mso, .ref mst, .ref mpr, .ref msh, .ref mwa, .ref mpu, .ref mtx, .int (nI n), .int (nI (teT F n t)), .int (nI (frT F n t)), .int 1, .int (nI (c + 1)), .int um, .ref mor, .ref mbo, .int mn, .ref tO, .ref tVi, .ref tSm, .int tm]), (mtx, aI E 160 MT), (mt, aI E 8 Ti), (mr, aI E 8 Re), (mki, aI E 12 Ki), (mso, aI E 12 So), (mst, aI E 12 St), (mpr, aI E 12 Pr), (msh, aI E 2 Sh), (mwa, aI E 2 Wa), (mpu, aI E 2 Pu)]) rfl fp_X11_120_10 rfl rfl (Nat.le_of_ble_eq_true rfl) rfl dX11_clause_241 ?_
        exact V.vret rfl dX11_clause_244 (⟨((Ti, Re, Ki, So, St, Pr, Sh, Wa, Pu), (nI (teT F n t)), (nI (frT F n t)), 1), rfl, rfl, rfl, clR_full hw0 hww (by show ¬ s.2.2.1 + 1 ≤ 6; omega) (MH1.rf _)⟩)
    · skip
      refine V.topc (v := 271712) (hv.trans (by decide)) ?_
      rw [← hte]
      have hsl : sLen 3 = 4 := by decide
      have hpos : 0 < teT F n t := by rw [hte, hlen, hsl]; omega
      refine V.istore_n (lv2 := [(1, .int 271712), (0, .ref o)]) dX11_clause_4 rfl (by decide) rfl ?_
      refine V.aload_n dX11_clause_5 1 rfl ?_
      refine V.getf 0 13 rfl fa_X11_76_10 rfl dX11_clause_6 ?_
      refine V.if_le (tgt := 26) dX11_clause_9 (by decide) (fun hc => absurd hc (nI_nle hpos (by omega))) (fun _ => ?_)
      refine V.aload_n dX11_clause_12 1 rfl ?_
      refine V.getf 0 11 rfl fa_X11_44_10 rfl dX11_clause_13 ?_
      refine V.aload_n dX11_clause_16 1 rfl ?_
      refine V.getf 0 13 rfl fa_X11_76_10 rfl dX11_clause_17 ?_
      refine V.iconst (v := 1) dX11_clause_20 (by decide) ?_
      refine V.isub dX11_clause_21 ?_
      refine V.topc (v := (nI (teT F n t - 1))) (nI_subN (a := 1) hpos) ?_
      refine V.iald 1 rfl (vinI (by omega)) dX11_clause_22 ?_
      refine V.topc (v := (F (teT F n t - 1))) (by rw [nI_clamp (by omega)]; exact hT _ (by omega)) ?_
      refine V.goto (tgt := 27) dX11_clause_23 (by decide) ?_
      refine V.istore_n (lv2 := [(2, .int (F (teT F n t - 1))), (1, .int 271712), (0, .ref o)]) dX11_clause_27 rfl (by decide) rfl ?_
      refine V.aload_n dX11_clause_28 2 rfl ?_
      refine V.getf 0 14 rfl fa_X11_79_10 rfl dX11_clause_29 ?_
      refine V.istore_n (lv2 := [(3, .int (nI (frT F n t))), (2, .int (F (teT F n t - 1))), (1, .int 271712), (0, .ref o)]) dX11_clause_32 rfl (by decide) rfl ?_
      refine V.iload_n dX11_clause_33 2 rfl ?_
      refine V.iload_n dX11_clause_34 1 rfl ?_
      refine V.callSp (As := [.int 271712, .int (F (teT F n t - 1))]) (rest := []) [] (c_M_kindOf E l L _ 271712 ((F (teT F n t - 1)))) rfl (by decide) mi_X11_kindOf w_822 w_823 rfl rfl (Nat.le_of_ble_eq_true rfl) ⟨by decide, by decide⟩ ⟨by decide, by decide⟩ dX11_clause_35 (vw2 := fun _ => [(o, ob 10 [.ref mw, .ref mk, .ref mt, .ref mr, .ref mki, .ref mso, .ref mst, .ref mpr, .ref msh, .ref mwa, .ref mpu, .ref mtx, .int (nI n), .int (nI (teT F n t)), .int (nI (frT F n t)), .int 0, .int (nI c), .int um, .ref mor, .ref mbo, .int mn, .ref tO, .ref tVi, .ref tSm, .int tm]), (mtx, aI E 160 MT), (mt, aI E 8 Ti), (mr, aI E 8 Re), (mki, aI E 12 Ki), (mso, aI E 12 So), (mst, aI E 12 St), (mpr, aI E 12 Pr), (msh, aI E 2 Sh), (mwa, aI E 2 Wa), (mpu, aI E 2 Pu)]) (st2 := fun _ => [.int (kindW 271712 (F (teT F n t - 1)))]) (fun _ => rfl) (fun _ => rfl) (fun _ => rfl) (fun _ _ => ?_)
      refine V.topc (v := 1) (by unfold kindW; rw [if_neg (by decide), if_pos rfl]) ?_
      refine V.istore (lv2 := [(4, .int 1), (3, .int (nI (frT F n t))), (2, .int (F (teT F n t - 1))), (1, .int 271712), (0, .ref o)]) dX11_clause_38 (by decide) rfl ?_
      refine V.iload dX11_clause_40 0 rfl ?_
      refine V.if_lt (tgt := 81) dX11_clause_42 (by decide) (fun hc => absurd hc (by decide)) (fun _ => ?_)
      refine V.aload_n dX11_clause_45 4 rfl ?_
      refine V.aload_n dX11_clause_46 4 rfl ?_
      refine V.getf 0 8 rfl fa_X11_35_10 rfl dX11_clause_47 ?_
      refine V.iconst (v := 1) dX11_clause_50 (by decide) ?_
      refine V.iald 8 rfl (vin rfl) dX11_clause_51 ?_
      refine V.topc (v := (Sh 1)) (rfl) ?_
      refine V.topc (v := (nI s.2.2.1)) (hH.2.2.2.1) ?_
      refine V.bipush (v := 6) dX11_clause_52 (by decide) ?_
      refine V.icmp_ne (tgt := 61) dX11_clause_54 (by decide) (fun c2_54 => ?_) (fun c2_54 => ?_)
      · skip
        have hm5 : s.2.2.1 < 6 := by
          have h9 : s.2.2.1 ≠ 6 := fun h8 => c2_54 (by rw [h8]; rfl)
          omega
        refine V.iconst (v := 0) dX11_clause_61 (by decide) ?_
        refine V.putf 0 15 (vw2 := [(o, ob 10 [.ref mw, .ref mk, .ref mt, .ref mr, .ref mki, .ref mso, .ref mst, .ref mpr, .ref msh, .ref mwa, .ref mpu, .ref mtx, .int (nI n), .int (nI (teT F n t)), .int (nI (frT F n t)), .int 0, .int (nI c), .int um, .ref mor, .ref mbo, .int mn, .ref tO, .ref tVi, .ref tSm, .int tm]), (mtx, aI E 160 MT), (mt, aI E 8 Ti), (mr, aI E 8 Re), (mki, aI E 12 Ki), (mso, aI E 12 So), (mst, aI E 12 St), (mpr, aI E 12 Pr), (msh, aI E 2 Sh), (mwa, aI E 2 Wa), (mpu, aI E 2 Pu)]) rfl fp_X11_82_10 rfl rfl (Nat.le_of_ble_eq_true rfl) rfl dX11_clause_62 ?_
        refine V.aload_n dX11_clause_65 4 rfl ?_
        refine V.getf 0 15 rfl fa_X11_82_10 rfl dX11_clause_66 ?_
        refine V.if_ne (tgt := 234) dX11_clause_69 (by decide) (fun hc => absurd (by decide) hc) (fun _ => ?_)
        refine V.aload_n dX11_clause_72 4 rfl ?_
        refine V.iload dX11_clause_73 0 rfl ?_
        refine V.callVp (As := [.int 1]) (rest := []) [0, 1, 4, 5, 6, 7, 8] (c_M_newShop E l L _ o mw mk mt mr mki mso mst mpr msh mwa mpu mtx mor mbo tO tVi tSm ((nI (frT F n t))) ((nI c)) um mn tm n MT F ((teT F n t)) Ki So St Pr Sh s.2.2.1 1 (htn) (hn) (hT) (hH.2.2.2.1) (hm5)) rfl (by decide) mi_X11_newShop 0 rfl rfl w_828 w_830 wp_13 rfl rfl (Nat.le_of_ble_eq_true rfl) ⟨by decide, by decide⟩ ⟨by decide, by decide⟩ dX11_clause_75 (vw2 := fun u75 => [(o, ob 10 [.ref mw, .ref mk, .ref mt, .ref mr, .ref mki, .ref mso, .ref mst, .ref mpr, .ref msh, .ref mwa, .ref mpu, .ref mtx, .int (nI n), .int u75.2.2.2.1, .int u75.2.2.2.2.1, .int u75.2.2.2.2.2, .int (nI c), .int um, .ref mor, .ref mbo, .int mn, .ref tO, .ref tVi, .ref tSm, .int tm]), (mtx, aI E 160 MT), (mt, aI E 8 Ti), (mr, aI E 8 Re), (mki, aI E 12 (upd Ki (6 + s.2.2.1) 1)), (mso, aI E 12 (upd So (6 + s.2.2.1) u75.1)), (mst, aI E 12 (upd St (6 + s.2.2.1) u75.2.1)), (mpr, aI E 12 (upd Pr (6 + s.2.2.1) u75.2.2.1)), (msh, aI E 2 (upd Sh 1 (nI (s.2.2.1 + 1)))), (mwa, aI E 2 Wa), (mpu, aI E 2 Pu)]) (st2 := fun u75 => []) (fun _ => rfl) (fun _ => rfl) (fun _ => rfl) (fun u75 hq_75 => ?_)
        refine V.goto (tgt := 234) dX11_clause_78 (by decide) ?_
        refine V.aload_n dX11_clause_234 4 rfl ?_
        refine V.dup dX11_clause_235 rfl ?_
        refine V.getf 0 16 rfl fa_X11_120_10 rfl dX11_clause_236 ?_
        refine V.iconst (v := 1) dX11_clause_239 (by decide) ?_
        refine V.iadd dX11_clause_240 ?_
        refine V.topc (v := (nI (c + 1))) (nI_1 c) ?_
        refine V.putf 0 16 (vw2 := [(o, ob 10 [.ref mw, .ref mk, .ref mt, .ref mr, .ref mki, .ref mso, .ref mst, .ref mpr, .ref msh, .ref mwa, .ref mpu, .ref mtx, .int (nI n), .int u75.2.2.2.1, .int u75.2.2.2.2.1, .int u75.2.2.2.2.2, .int (nI (c + 1)), .int um, .ref mor, .ref mbo, .int mn, .ref tO, .ref tVi, .ref tSm, .int tm]), (mtx, aI E 160 MT), (mt, aI E 8 Ti), (mr, aI E 8 Re), (mki, aI E 12 (upd Ki (6 + s.2.2.1) 1)), (mso, aI E 12 (upd So (6 + s.2.2.1) u75.1)), (mst, aI E 12 (upd St (6 + s.2.2.1) u75.2.1)), (mpr, aI E 12 (upd Pr (6 + s.2.2.1) u75.2.2.1)), (msh, aI E 2 (upd Sh 1 (nI (s.2.2.1 + 1)))), (mwa, aI E 2 Wa), (mpu, aI E 2 Pu)]) rfl fp_X11_120_10 rfl rfl (Nat.le_of_ble_eq_true rfl) rfl dX11_clause_241 ?_
        exact V.vret rfl dX11_clause_244 (⟨((Ti, Re, (upd Ki (6 + s.2.2.1) 1), (upd So (6 + s.2.2.1) u75.1), (upd St (6 + s.2.2.1) u75.2.1), (upd Pr (6 + s.2.2.1) u75.2.2.1), (upd Sh 1 (nI (s.2.2.1 + 1))), Wa, Pu), u75.2.2.2.1, u75.2.2.2.2.1, u75.2.2.2.2.2), rfl, rfl, rfl, clR_w (zs := [u75.1, u75.2.1, u75.2.2.1]) hw0 hww (by show s.2.2.1 + 1 ≤ 6; omega) (tl_shop _ _ _ _ _) (by rw [show cntW 3 = 3 from rfl, numsG_shop (w := 3) (by decide) (by decide) 3 0 _ (by decide)]; exact hq_75) (fun h0 _ => by obtain ⟨so, hso, e⟩ := nsR_so hq_75 h0; rw [e]; exact tl_shop2 (w := 3) hH (by decide) (by decide) hso _ _)⟩)
      · skip
        have hm66 : s.2.2.1 = 6 := (nI_eq (b := 6) (by omega) (by omega)).mp c2_54
        refine V.iconst (v := 1) dX11_clause_57 (by decide) ?_
        refine V.goto (tgt := 62) dX11_clause_58 (by decide) ?_
        refine V.putf 0 15 (vw2 := [(o, ob 10 [.ref mw, .ref mk, .ref mt, .ref mr, .ref mki, .ref mso, .ref mst, .ref mpr, .ref msh, .ref mwa, .ref mpu, .ref mtx, .int (nI n), .int (nI (teT F n t)), .int (nI (frT F n t)), .int 1, .int (nI c), .int um, .ref mor, .ref mbo, .int mn, .ref tO, .ref tVi, .ref tSm, .int tm]), (mtx, aI E 160 MT), (mt, aI E 8 Ti), (mr, aI E 8 Re), (mki, aI E 12 Ki), (mso, aI E 12 So), (mst, aI E 12 St), (mpr, aI E 12 Pr), (msh, aI E 2 Sh), (mwa, aI E 2 Wa), (mpu, aI E 2 Pu)]) rfl fp_X11_82_10 rfl rfl (Nat.le_of_ble_eq_true rfl) rfl dX11_clause_62 ?_
        refine V.aload_n dX11_clause_65 4 rfl ?_
        refine V.getf 0 15 rfl fa_X11_82_10 rfl dX11_clause_66 ?_
        refine V.if_ne (tgt := 234) dX11_clause_69 (by decide) (fun _ => ?_) (fun hc => absurd hc (by decide))
        refine V.aload_n dX11_clause_234 4 rfl ?_
        refine V.dup dX11_clause_235 rfl ?_
        refine V.getf 0 16 rfl fa_X11_120_10 rfl dX11_clause_236 ?_
        refine V.iconst (v := 1) dX11_clause_239 (by decide) ?_
        refine V.iadd dX11_clause_240 ?_
        refine V.topc (v := (nI (c + 1))) (nI_1 c) ?_
        refine V.putf 0 16 (vw2 := [(o, ob 10 [.ref mw, .ref mk, .ref mt, .ref mr, .ref mki, .ref mso, .ref mst, .ref mpr, .ref msh, .ref mwa, .ref mpu, .ref mtx, .int (nI n), .int (nI (teT F n t)), .int (nI (frT F n t)), .int 1, .int (nI (c + 1)), .int um, .ref mor, .ref mbo, .int mn, .ref tO, .ref tVi, .ref tSm, .int tm]), (mtx, aI E 160 MT), (mt, aI E 8 Ti), (mr, aI E 8 Re), (mki, aI E 12 Ki), (mso, aI E 12 So), (mst, aI E 12 St), (mpr, aI E 12 Pr), (msh, aI E 2 Sh), (mwa, aI E 2 Wa), (mpu, aI E 2 Pu)]) rfl fp_X11_120_10 rfl rfl (Nat.le_of_ble_eq_true rfl) rfl dX11_clause_241 ?_
        exact V.vret rfl dX11_clause_244 (⟨((Ti, Re, Ki, So, St, Pr, Sh, Wa, Pu), (nI (teT F n t)), (nI (frT F n t)), 1), rfl, rfl, rfl, clR_full hw0 hww (by show ¬ s.2.2.1 + 1 ≤ 6; omega) (MH1.rf _)⟩)
    · skip
      refine V.topc (v := 51140948) (hv.trans (by decide)) ?_
      rw [← hte]
      have hsl : sLen 4 = 6 := by decide
      have hpos : 0 < teT F n t := by rw [hte, hlen, hsl]; omega
      refine V.istore_n (lv2 := [(1, .int 51140948), (0, .ref o)]) dX11_clause_4 rfl (by decide) rfl ?_
      refine V.aload_n dX11_clause_5 1 rfl ?_
      refine V.getf 0 13 rfl fa_X11_76_10 rfl dX11_clause_6 ?_
      refine V.if_le (tgt := 26) dX11_clause_9 (by decide) (fun hc => absurd hc (nI_nle hpos (by omega))) (fun _ => ?_)
      refine V.aload_n dX11_clause_12 1 rfl ?_
      refine V.getf 0 11 rfl fa_X11_44_10 rfl dX11_clause_13 ?_
      refine V.aload_n dX11_clause_16 1 rfl ?_
      refine V.getf 0 13 rfl fa_X11_76_10 rfl dX11_clause_17 ?_
      refine V.iconst (v := 1) dX11_clause_20 (by decide) ?_
      refine V.isub dX11_clause_21 ?_
      refine V.topc (v := (nI (teT F n t - 1))) (nI_subN (a := 1) hpos) ?_
      refine V.iald 1 rfl (vinI (by omega)) dX11_clause_22 ?_
      refine V.topc (v := (F (teT F n t - 1))) (by rw [nI_clamp (by omega)]; exact hT _ (by omega)) ?_
      refine V.goto (tgt := 27) dX11_clause_23 (by decide) ?_
      refine V.istore_n (lv2 := [(2, .int (F (teT F n t - 1))), (1, .int 51140948), (0, .ref o)]) dX11_clause_27 rfl (by decide) rfl ?_
      refine V.aload_n dX11_clause_28 2 rfl ?_
      refine V.getf 0 14 rfl fa_X11_79_10 rfl dX11_clause_29 ?_
      refine V.istore_n (lv2 := [(3, .int (nI (frT F n t))), (2, .int (F (teT F n t - 1))), (1, .int 51140948), (0, .ref o)]) dX11_clause_32 rfl (by decide) rfl ?_
      refine V.iload_n dX11_clause_33 2 rfl ?_
      refine V.iload_n dX11_clause_34 1 rfl ?_
      refine V.callSp (As := [.int 51140948, .int (F (teT F n t - 1))]) (rest := []) [] (c_M_kindOf E l L _ 51140948 ((F (teT F n t - 1)))) rfl (by decide) mi_X11_kindOf w_822 w_823 rfl rfl (Nat.le_of_ble_eq_true rfl) ⟨by decide, by decide⟩ ⟨by decide, by decide⟩ dX11_clause_35 (vw2 := fun _ => [(o, ob 10 [.ref mw, .ref mk, .ref mt, .ref mr, .ref mki, .ref mso, .ref mst, .ref mpr, .ref msh, .ref mwa, .ref mpu, .ref mtx, .int (nI n), .int (nI (teT F n t)), .int (nI (frT F n t)), .int 0, .int (nI c), .int um, .ref mor, .ref mbo, .int mn, .ref tO, .ref tVi, .ref tSm, .int tm]), (mtx, aI E 160 MT), (mt, aI E 8 Ti), (mr, aI E 8 Re), (mki, aI E 12 Ki), (mso, aI E 12 So), (mst, aI E 12 St), (mpr, aI E 12 Pr), (msh, aI E 2 Sh), (mwa, aI E 2 Wa), (mpu, aI E 2 Pu)]) (st2 := fun _ => [.int (kindW 51140948 (F (teT F n t - 1)))]) (fun _ => rfl) (fun _ => rfl) (fun _ => rfl) (fun _ _ => ?_)
      refine V.topc (v := 2) (by unfold kindW; rw [if_neg (by decide), if_neg (by decide), if_pos rfl]) ?_
      refine V.istore (lv2 := [(4, .int 2), (3, .int (nI (frT F n t))), (2, .int (F (teT F n t - 1))), (1, .int 51140948), (0, .ref o)]) dX11_clause_38 (by decide) rfl ?_
      refine V.iload dX11_clause_40 0 rfl ?_
      refine V.if_lt (tgt := 81) dX11_clause_42 (by decide) (fun hc => absurd hc (by decide)) (fun _ => ?_)
      refine V.aload_n dX11_clause_45 4 rfl ?_
      refine V.aload_n dX11_clause_46 4 rfl ?_
      refine V.getf 0 8 rfl fa_X11_35_10 rfl dX11_clause_47 ?_
      refine V.iconst (v := 1) dX11_clause_50 (by decide) ?_
      refine V.iald 8 rfl (vin rfl) dX11_clause_51 ?_
      refine V.topc (v := (Sh 1)) (rfl) ?_
      refine V.topc (v := (nI s.2.2.1)) (hH.2.2.2.1) ?_
      refine V.bipush (v := 6) dX11_clause_52 (by decide) ?_
      refine V.icmp_ne (tgt := 61) dX11_clause_54 (by decide) (fun c3_54 => ?_) (fun c3_54 => ?_)
      · skip
        have hm5 : s.2.2.1 < 6 := by
          have h9 : s.2.2.1 ≠ 6 := fun h8 => c3_54 (by rw [h8]; rfl)
          omega
        refine V.iconst (v := 0) dX11_clause_61 (by decide) ?_
        refine V.putf 0 15 (vw2 := [(o, ob 10 [.ref mw, .ref mk, .ref mt, .ref mr, .ref mki, .ref mso, .ref mst, .ref mpr, .ref msh, .ref mwa, .ref mpu, .ref mtx, .int (nI n), .int (nI (teT F n t)), .int (nI (frT F n t)), .int 0, .int (nI c), .int um, .ref mor, .ref mbo, .int mn, .ref tO, .ref tVi, .ref tSm, .int tm]), (mtx, aI E 160 MT), (mt, aI E 8 Ti), (mr, aI E 8 Re), (mki, aI E 12 Ki), (mso, aI E 12 So), (mst, aI E 12 St), (mpr, aI E 12 Pr), (msh, aI E 2 Sh), (mwa, aI E 2 Wa), (mpu, aI E 2 Pu)]) rfl fp_X11_82_10 rfl rfl (Nat.le_of_ble_eq_true rfl) rfl dX11_clause_62 ?_
        refine V.aload_n dX11_clause_65 4 rfl ?_
        refine V.getf 0 15 rfl fa_X11_82_10 rfl dX11_clause_66 ?_
        refine V.if_ne (tgt := 234) dX11_clause_69 (by decide) (fun hc => absurd (by decide) hc) (fun _ => ?_)
        refine V.aload_n dX11_clause_72 4 rfl ?_
        refine V.iload dX11_clause_73 0 rfl ?_
        refine V.callVp (As := [.int 2]) (rest := []) [0, 1, 4, 5, 6, 7, 8] (c_M_newShop E l L _ o mw mk mt mr mki mso mst mpr msh mwa mpu mtx mor mbo tO tVi tSm ((nI (frT F n t))) ((nI c)) um mn tm n MT F ((teT F n t)) Ki So St Pr Sh s.2.2.1 2 (htn) (hn) (hT) (hH.2.2.2.1) (hm5)) rfl (by decide) mi_X11_newShop 0 rfl rfl w_828 w_830 wp_13 rfl rfl (Nat.le_of_ble_eq_true rfl) ⟨by decide, by decide⟩ ⟨by decide, by decide⟩ dX11_clause_75 (vw2 := fun u75 => [(o, ob 10 [.ref mw, .ref mk, .ref mt, .ref mr, .ref mki, .ref mso, .ref mst, .ref mpr, .ref msh, .ref mwa, .ref mpu, .ref mtx, .int (nI n), .int u75.2.2.2.1, .int u75.2.2.2.2.1, .int u75.2.2.2.2.2, .int (nI c), .int um, .ref mor, .ref mbo, .int mn, .ref tO, .ref tVi, .ref tSm, .int tm]), (mtx, aI E 160 MT), (mt, aI E 8 Ti), (mr, aI E 8 Re), (mki, aI E 12 (upd Ki (6 + s.2.2.1) 2)), (mso, aI E 12 (upd So (6 + s.2.2.1) u75.1)), (mst, aI E 12 (upd St (6 + s.2.2.1) u75.2.1)), (mpr, aI E 12 (upd Pr (6 + s.2.2.1) u75.2.2.1)), (msh, aI E 2 (upd Sh 1 (nI (s.2.2.1 + 1)))), (mwa, aI E 2 Wa), (mpu, aI E 2 Pu)]) (st2 := fun u75 => []) (fun _ => rfl) (fun _ => rfl) (fun _ => rfl) (fun u75 hq_75 => ?_)
        refine V.goto (tgt := 234) dX11_clause_78 (by decide) ?_
        refine V.aload_n dX11_clause_234 4 rfl ?_
        refine V.dup dX11_clause_235 rfl ?_
        refine V.getf 0 16 rfl fa_X11_120_10 rfl dX11_clause_236 ?_
        refine V.iconst (v := 1) dX11_clause_239 (by decide) ?_
        refine V.iadd dX11_clause_240 ?_
        refine V.topc (v := (nI (c + 1))) (nI_1 c) ?_
        refine V.putf 0 16 (vw2 := [(o, ob 10 [.ref mw, .ref mk, .ref mt, .ref mr, .ref mki, .ref mso, .ref mst, .ref mpr, .ref msh, .ref mwa, .ref mpu, .ref mtx, .int (nI n), .int u75.2.2.2.1, .int u75.2.2.2.2.1, .int u75.2.2.2.2.2, .int (nI (c + 1)), .int um, .ref mor, .ref mbo, .int mn, .ref tO, .ref tVi, .ref tSm, .int tm]), (mtx, aI E 160 MT), (mt, aI E 8 Ti), (mr, aI E 8 Re), (mki, aI E 12 (upd Ki (6 + s.2.2.1) 2)), (mso, aI E 12 (upd So (6 + s.2.2.1) u75.1)), (mst, aI E 12 (upd St (6 + s.2.2.1) u75.2.1)), (mpr, aI E 12 (upd Pr (6 + s.2.2.1) u75.2.2.1)), (msh, aI E 2 (upd Sh 1 (nI (s.2.2.1 + 1)))), (mwa, aI E 2 Wa), (mpu, aI E 2 Pu)]) rfl fp_X11_120_10 rfl rfl (Nat.le_of_ble_eq_true rfl) rfl dX11_clause_241 ?_
        exact V.vret rfl dX11_clause_244 (⟨((Ti, Re, (upd Ki (6 + s.2.2.1) 2), (upd So (6 + s.2.2.1) u75.1), (upd St (6 + s.2.2.1) u75.2.1), (upd Pr (6 + s.2.2.1) u75.2.2.1), (upd Sh 1 (nI (s.2.2.1 + 1))), Wa, Pu), u75.2.2.2.1, u75.2.2.2.2.1, u75.2.2.2.2.2), rfl, rfl, rfl, clR_w (zs := [u75.1, u75.2.1, u75.2.2.1]) hw0 hww (by show s.2.2.1 + 1 ≤ 6; omega) (tl_shop _ _ _ _ _) (by rw [show cntW 4 = 3 from rfl, numsG_shop (w := 4) (by decide) (by decide) 3 0 _ (by decide)]; exact hq_75) (fun h0 _ => by obtain ⟨so, hso, e⟩ := nsR_so hq_75 h0; rw [e]; exact tl_shop2 (w := 4) hH (by decide) (by decide) hso _ _)⟩)
      · skip
        have hm66 : s.2.2.1 = 6 := (nI_eq (b := 6) (by omega) (by omega)).mp c3_54
        refine V.iconst (v := 1) dX11_clause_57 (by decide) ?_
        refine V.goto (tgt := 62) dX11_clause_58 (by decide) ?_
        refine V.putf 0 15 (vw2 := [(o, ob 10 [.ref mw, .ref mk, .ref mt, .ref mr, .ref mki, .ref mso, .ref mst, .ref mpr, .ref msh, .ref mwa, .ref mpu, .ref mtx, .int (nI n), .int (nI (teT F n t)), .int (nI (frT F n t)), .int 1, .int (nI c), .int um, .ref mor, .ref mbo, .int mn, .ref tO, .ref tVi, .ref tSm, .int tm]), (mtx, aI E 160 MT), (mt, aI E 8 Ti), (mr, aI E 8 Re), (mki, aI E 12 Ki), (mso, aI E 12 So), (mst, aI E 12 St), (mpr, aI E 12 Pr), (msh, aI E 2 Sh), (mwa, aI E 2 Wa), (mpu, aI E 2 Pu)]) rfl fp_X11_82_10 rfl rfl (Nat.le_of_ble_eq_true rfl) rfl dX11_clause_62 ?_
        refine V.aload_n dX11_clause_65 4 rfl ?_
        refine V.getf 0 15 rfl fa_X11_82_10 rfl dX11_clause_66 ?_
        refine V.if_ne (tgt := 234) dX11_clause_69 (by decide) (fun _ => ?_) (fun hc => absurd hc (by decide))
        refine V.aload_n dX11_clause_234 4 rfl ?_
        refine V.dup dX11_clause_235 rfl ?_
        refine V.getf 0 16 rfl fa_X11_120_10 rfl dX11_clause_236 ?_
        refine V.iconst (v := 1) dX11_clause_239 (by decide) ?_
        refine V.iadd dX11_clause_240 ?_
        refine V.topc (v := (nI (c + 1))) (nI_1 c) ?_
        refine V.putf 0 16 (vw2 := [(o, ob 10 [.ref mw, .ref mk, .ref mt, .ref mr, .ref mki, .ref mso, .ref mst, .ref mpr, .ref msh, .ref mwa, .ref mpu, .ref mtx, .int (nI n), .int (nI (teT F n t)), .int (nI (frT F n t)), .int 1, .int (nI (c + 1)), .int um, .ref mor, .ref mbo, .int mn, .ref tO, .ref tVi, .ref tSm, .int tm]), (mtx, aI E 160 MT), (mt, aI E 8 Ti), (mr, aI E 8 Re), (mki, aI E 12 Ki), (mso, aI E 12 So), (mst, aI E 12 St), (mpr, aI E 12 Pr), (msh, aI E 2 Sh), (mwa, aI E 2 Wa), (mpu, aI E 2 Pu)]) rfl fp_X11_120_10 rfl rfl (Nat.le_of_ble_eq_true rfl) rfl dX11_clause_241 ?_
        exact V.vret rfl dX11_clause_244 (⟨((Ti, Re, Ki, So, St, Pr, Sh, Wa, Pu), (nI (teT F n t)), (nI (frT F n t)), 1), rfl, rfl, rfl, clR_full hw0 hww (by show ¬ s.2.2.1 + 1 ≤ 6; omega) (MH1.rf _)⟩)
    · skip
      refine V.topc (v := (-209256062)) (hv.trans (by decide)) ?_
      rw [← hte]
      have hsl : sLen 5 = 7 := by decide
      have hpos : 0 < teT F n t := by rw [hte, hlen, hsl]; omega
      have hz : F (teT F n t - 1) = 103 := by rw [hte, hlen, hsl, show frT F n t + 7 - 1 = frT F n t + 6 by omega]; exact (hs.2 6 (by decide)).trans (by decide)
      refine V.istore_n (lv2 := [(1, .int (-209256062)), (0, .ref o)]) dX11_clause_4 rfl (by decide) rfl ?_
      refine V.aload_n dX11_clause_5 1 rfl ?_
      refine V.getf 0 13 rfl fa_X11_76_10 rfl dX11_clause_6 ?_
      refine V.if_le (tgt := 26) dX11_clause_9 (by decide) (fun hc => absurd hc (nI_nle hpos (by omega))) (fun _ => ?_)
      refine V.aload_n dX11_clause_12 1 rfl ?_
      refine V.getf 0 11 rfl fa_X11_44_10 rfl dX11_clause_13 ?_
      refine V.aload_n dX11_clause_16 1 rfl ?_
      refine V.getf 0 13 rfl fa_X11_76_10 rfl dX11_clause_17 ?_
      refine V.iconst (v := 1) dX11_clause_20 (by decide) ?_
      refine V.isub dX11_clause_21 ?_
      refine V.topc (v := (nI (teT F n t - 1))) (nI_subN (a := 1) hpos) ?_
      refine V.iald 1 rfl (vinI (by omega)) dX11_clause_22 ?_
      refine V.topc (v := (F (teT F n t - 1))) (by rw [nI_clamp (by omega)]; exact hT _ (by omega)) ?_
      refine V.goto (tgt := 27) dX11_clause_23 (by decide) ?_
      refine V.istore_n (lv2 := [(2, .int (F (teT F n t - 1))), (1, .int (-209256062)), (0, .ref o)]) dX11_clause_27 rfl (by decide) rfl ?_
      refine V.aload_n dX11_clause_28 2 rfl ?_
      refine V.getf 0 14 rfl fa_X11_79_10 rfl dX11_clause_29 ?_
      refine V.istore_n (lv2 := [(3, .int (nI (frT F n t))), (2, .int (F (teT F n t - 1))), (1, .int (-209256062)), (0, .ref o)]) dX11_clause_32 rfl (by decide) rfl ?_
      refine V.iload_n dX11_clause_33 2 rfl ?_
      refine V.iload_n dX11_clause_34 1 rfl ?_
      refine V.callSp (As := [.int (-209256062), .int (F (teT F n t - 1))]) (rest := []) [] (c_M_kindOf E l L _ ((-209256062)) ((F (teT F n t - 1)))) rfl (by decide) mi_X11_kindOf w_822 w_823 rfl rfl (Nat.le_of_ble_eq_true rfl) ⟨by decide, by decide⟩ ⟨by decide, by decide⟩ dX11_clause_35 (vw2 := fun _ => [(o, ob 10 [.ref mw, .ref mk, .ref mt, .ref mr, .ref mki, .ref mso, .ref mst, .ref mpr, .ref msh, .ref mwa, .ref mpu, .ref mtx, .int (nI n), .int (nI (teT F n t)), .int (nI (frT F n t)), .int 0, .int (nI c), .int um, .ref mor, .ref mbo, .int mn, .ref tO, .ref tVi, .ref tSm, .int tm]), (mtx, aI E 160 MT), (mt, aI E 8 Ti), (mr, aI E 8 Re), (mki, aI E 12 Ki), (mso, aI E 12 So), (mst, aI E 12 St), (mpr, aI E 12 Pr), (msh, aI E 2 Sh), (mwa, aI E 2 Wa), (mpu, aI E 2 Pu)]) (st2 := fun _ => [.int (kindW (-209256062) (F (teT F n t - 1)))]) (fun _ => rfl) (fun _ => rfl) (fun _ => rfl) (fun _ _ => ?_)
      refine V.topc (v := 3) (by unfold kindW; rw [if_neg (by decide), if_neg (by decide), if_neg (by decide), if_pos ⟨rfl, hz⟩]) ?_
      refine V.istore (lv2 := [(4, .int 3), (3, .int (nI (frT F n t))), (2, .int (F (teT F n t - 1))), (1, .int (-209256062)), (0, .ref o)]) dX11_clause_38 (by decide) rfl ?_
      refine V.iload dX11_clause_40 0 rfl ?_
      refine V.if_lt (tgt := 81) dX11_clause_42 (by decide) (fun hc => absurd hc (by decide)) (fun _ => ?_)
      refine V.aload_n dX11_clause_45 4 rfl ?_
      refine V.aload_n dX11_clause_46 4 rfl ?_
      refine V.getf 0 8 rfl fa_X11_35_10 rfl dX11_clause_47 ?_
      refine V.iconst (v := 1) dX11_clause_50 (by decide) ?_
      refine V.iald 8 rfl (vin rfl) dX11_clause_51 ?_
      refine V.topc (v := (Sh 1)) (rfl) ?_
      refine V.topc (v := (nI s.2.2.1)) (hH.2.2.2.1) ?_
      refine V.bipush (v := 6) dX11_clause_52 (by decide) ?_
      refine V.icmp_ne (tgt := 61) dX11_clause_54 (by decide) (fun c4_54 => ?_) (fun c4_54 => ?_)
      · skip
        have hm5 : s.2.2.1 < 6 := by
          have h9 : s.2.2.1 ≠ 6 := fun h8 => c4_54 (by rw [h8]; rfl)
          omega
        refine V.iconst (v := 0) dX11_clause_61 (by decide) ?_
        refine V.putf 0 15 (vw2 := [(o, ob 10 [.ref mw, .ref mk, .ref mt, .ref mr, .ref mki, .ref mso, .ref mst, .ref mpr, .ref msh, .ref mwa, .ref mpu, .ref mtx, .int (nI n), .int (nI (teT F n t)), .int (nI (frT F n t)), .int 0, .int (nI c), .int um, .ref mor, .ref mbo, .int mn, .ref tO, .ref tVi, .ref tSm, .int tm]), (mtx, aI E 160 MT), (mt, aI E 8 Ti), (mr, aI E 8 Re), (mki, aI E 12 Ki), (mso, aI E 12 So), (mst, aI E 12 St), (mpr, aI E 12 Pr), (msh, aI E 2 Sh), (mwa, aI E 2 Wa), (mpu, aI E 2 Pu)]) rfl fp_X11_82_10 rfl rfl (Nat.le_of_ble_eq_true rfl) rfl dX11_clause_62 ?_
        refine V.aload_n dX11_clause_65 4 rfl ?_
        refine V.getf 0 15 rfl fa_X11_82_10 rfl dX11_clause_66 ?_
        refine V.if_ne (tgt := 234) dX11_clause_69 (by decide) (fun hc => absurd (by decide) hc) (fun _ => ?_)
        refine V.aload_n dX11_clause_72 4 rfl ?_
        refine V.iload dX11_clause_73 0 rfl ?_
        refine V.callVp (As := [.int 3]) (rest := []) [0, 1, 4, 5, 6, 7, 8] (c_M_newShop E l L _ o mw mk mt mr mki mso mst mpr msh mwa mpu mtx mor mbo tO tVi tSm ((nI (frT F n t))) ((nI c)) um mn tm n MT F ((teT F n t)) Ki So St Pr Sh s.2.2.1 3 (htn) (hn) (hT) (hH.2.2.2.1) (hm5)) rfl (by decide) mi_X11_newShop 0 rfl rfl w_828 w_830 wp_13 rfl rfl (Nat.le_of_ble_eq_true rfl) ⟨by decide, by decide⟩ ⟨by decide, by decide⟩ dX11_clause_75 (vw2 := fun u75 => [(o, ob 10 [.ref mw, .ref mk, .ref mt, .ref mr, .ref mki, .ref mso, .ref mst, .ref mpr, .ref msh, .ref mwa, .ref mpu, .ref mtx, .int (nI n), .int u75.2.2.2.1, .int u75.2.2.2.2.1, .int u75.2.2.2.2.2, .int (nI c), .int um, .ref mor, .ref mbo, .int mn, .ref tO, .ref tVi, .ref tSm, .int tm]), (mtx, aI E 160 MT), (mt, aI E 8 Ti), (mr, aI E 8 Re), (mki, aI E 12 (upd Ki (6 + s.2.2.1) 3)), (mso, aI E 12 (upd So (6 + s.2.2.1) u75.1)), (mst, aI E 12 (upd St (6 + s.2.2.1) u75.2.1)), (mpr, aI E 12 (upd Pr (6 + s.2.2.1) u75.2.2.1)), (msh, aI E 2 (upd Sh 1 (nI (s.2.2.1 + 1)))), (mwa, aI E 2 Wa), (mpu, aI E 2 Pu)]) (st2 := fun u75 => []) (fun _ => rfl) (fun _ => rfl) (fun _ => rfl) (fun u75 hq_75 => ?_)
        refine V.goto (tgt := 234) dX11_clause_78 (by decide) ?_
        refine V.aload_n dX11_clause_234 4 rfl ?_
        refine V.dup dX11_clause_235 rfl ?_
        refine V.getf 0 16 rfl fa_X11_120_10 rfl dX11_clause_236 ?_
        refine V.iconst (v := 1) dX11_clause_239 (by decide) ?_
        refine V.iadd dX11_clause_240 ?_
        refine V.topc (v := (nI (c + 1))) (nI_1 c) ?_
        refine V.putf 0 16 (vw2 := [(o, ob 10 [.ref mw, .ref mk, .ref mt, .ref mr, .ref mki, .ref mso, .ref mst, .ref mpr, .ref msh, .ref mwa, .ref mpu, .ref mtx, .int (nI n), .int u75.2.2.2.1, .int u75.2.2.2.2.1, .int u75.2.2.2.2.2, .int (nI (c + 1)), .int um, .ref mor, .ref mbo, .int mn, .ref tO, .ref tVi, .ref tSm, .int tm]), (mtx, aI E 160 MT), (mt, aI E 8 Ti), (mr, aI E 8 Re), (mki, aI E 12 (upd Ki (6 + s.2.2.1) 3)), (mso, aI E 12 (upd So (6 + s.2.2.1) u75.1)), (mst, aI E 12 (upd St (6 + s.2.2.1) u75.2.1)), (mpr, aI E 12 (upd Pr (6 + s.2.2.1) u75.2.2.1)), (msh, aI E 2 (upd Sh 1 (nI (s.2.2.1 + 1)))), (mwa, aI E 2 Wa), (mpu, aI E 2 Pu)]) rfl fp_X11_120_10 rfl rfl (Nat.le_of_ble_eq_true rfl) rfl dX11_clause_241 ?_
        exact V.vret rfl dX11_clause_244 (⟨((Ti, Re, (upd Ki (6 + s.2.2.1) 3), (upd So (6 + s.2.2.1) u75.1), (upd St (6 + s.2.2.1) u75.2.1), (upd Pr (6 + s.2.2.1) u75.2.2.1), (upd Sh 1 (nI (s.2.2.1 + 1))), Wa, Pu), u75.2.2.2.1, u75.2.2.2.2.1, u75.2.2.2.2.2), rfl, rfl, rfl, clR_w (zs := [u75.1, u75.2.1, u75.2.2.1]) hw0 hww (by show s.2.2.1 + 1 ≤ 6; omega) (tl_shop _ _ _ _ _) (by rw [show cntW 5 = 3 from rfl, numsG_shop (w := 5) (by decide) (by decide) 3 0 _ (by decide)]; exact hq_75) (fun h0 _ => by obtain ⟨so, hso, e⟩ := nsR_so hq_75 h0; rw [e]; exact tl_shop2 (w := 5) hH (by decide) (by decide) hso _ _)⟩)
      · skip
        have hm66 : s.2.2.1 = 6 := (nI_eq (b := 6) (by omega) (by omega)).mp c4_54
        refine V.iconst (v := 1) dX11_clause_57 (by decide) ?_
        refine V.goto (tgt := 62) dX11_clause_58 (by decide) ?_
        refine V.putf 0 15 (vw2 := [(o, ob 10 [.ref mw, .ref mk, .ref mt, .ref mr, .ref mki, .ref mso, .ref mst, .ref mpr, .ref msh, .ref mwa, .ref mpu, .ref mtx, .int (nI n), .int (nI (teT F n t)), .int (nI (frT F n t)), .int 1, .int (nI c), .int um, .ref mor, .ref mbo, .int mn, .ref tO, .ref tVi, .ref tSm, .int tm]), (mtx, aI E 160 MT), (mt, aI E 8 Ti), (mr, aI E 8 Re), (mki, aI E 12 Ki), (mso, aI E 12 So), (mst, aI E 12 St), (mpr, aI E 12 Pr), (msh, aI E 2 Sh), (mwa, aI E 2 Wa), (mpu, aI E 2 Pu)]) rfl fp_X11_82_10 rfl rfl (Nat.le_of_ble_eq_true rfl) rfl dX11_clause_62 ?_
        refine V.aload_n dX11_clause_65 4 rfl ?_
        refine V.getf 0 15 rfl fa_X11_82_10 rfl dX11_clause_66 ?_
        refine V.if_ne (tgt := 234) dX11_clause_69 (by decide) (fun _ => ?_) (fun hc => absurd hc (by decide))
        refine V.aload_n dX11_clause_234 4 rfl ?_
        refine V.dup dX11_clause_235 rfl ?_
        refine V.getf 0 16 rfl fa_X11_120_10 rfl dX11_clause_236 ?_
        refine V.iconst (v := 1) dX11_clause_239 (by decide) ?_
        refine V.iadd dX11_clause_240 ?_
        refine V.topc (v := (nI (c + 1))) (nI_1 c) ?_
        refine V.putf 0 16 (vw2 := [(o, ob 10 [.ref mw, .ref mk, .ref mt, .ref mr, .ref mki, .ref mso, .ref mst, .ref mpr, .ref msh, .ref mwa, .ref mpu, .ref mtx, .int (nI n), .int (nI (teT F n t)), .int (nI (frT F n t)), .int 1, .int (nI (c + 1)), .int um, .ref mor, .ref mbo, .int mn, .ref tO, .ref tVi, .ref tSm, .int tm]), (mtx, aI E 160 MT), (mt, aI E 8 Ti), (mr, aI E 8 Re), (mki, aI E 12 Ki), (mso, aI E 12 So), (mst, aI E 12 St), (mpr, aI E 12 Pr), (msh, aI E 2 Sh), (mwa, aI E 2 Wa), (mpu, aI E 2 Pu)]) rfl fp_X11_120_10 rfl rfl (Nat.le_of_ble_eq_true rfl) rfl dX11_clause_241 ?_
        exact V.vret rfl dX11_clause_244 (⟨((Ti, Re, Ki, So, St, Pr, Sh, Wa, Pu), (nI (teT F n t)), (nI (frT F n t)), 1), rfl, rfl, rfl, clR_full hw0 hww (by show ¬ s.2.2.1 + 1 ≤ 6; omega) (MH1.rf _)⟩)
    · skip
      refine V.topc (v := 453836) (hv.trans (by decide)) ?_
      rw [← hte]
      have hsl : sLen 6 = 4 := by decide
      have hpos : 0 < teT F n t := by rw [hte, hlen, hsl]; omega
      refine V.istore_n (lv2 := [(1, .int 453836), (0, .ref o)]) dX11_clause_4 rfl (by decide) rfl ?_
      refine V.aload_n dX11_clause_5 1 rfl ?_
      refine V.getf 0 13 rfl fa_X11_76_10 rfl dX11_clause_6 ?_
      refine V.if_le (tgt := 26) dX11_clause_9 (by decide) (fun hc => absurd hc (nI_nle hpos (by omega))) (fun _ => ?_)
      refine V.aload_n dX11_clause_12 1 rfl ?_
      refine V.getf 0 11 rfl fa_X11_44_10 rfl dX11_clause_13 ?_
      refine V.aload_n dX11_clause_16 1 rfl ?_
      refine V.getf 0 13 rfl fa_X11_76_10 rfl dX11_clause_17 ?_
      refine V.iconst (v := 1) dX11_clause_20 (by decide) ?_
      refine V.isub dX11_clause_21 ?_
      refine V.topc (v := (nI (teT F n t - 1))) (nI_subN (a := 1) hpos) ?_
      refine V.iald 1 rfl (vinI (by omega)) dX11_clause_22 ?_
      refine V.topc (v := (F (teT F n t - 1))) (by rw [nI_clamp (by omega)]; exact hT _ (by omega)) ?_
      refine V.goto (tgt := 27) dX11_clause_23 (by decide) ?_
      refine V.istore_n (lv2 := [(2, .int (F (teT F n t - 1))), (1, .int 453836), (0, .ref o)]) dX11_clause_27 rfl (by decide) rfl ?_
      refine V.aload_n dX11_clause_28 2 rfl ?_
      refine V.getf 0 14 rfl fa_X11_79_10 rfl dX11_clause_29 ?_
      refine V.istore_n (lv2 := [(3, .int (nI (frT F n t))), (2, .int (F (teT F n t - 1))), (1, .int 453836), (0, .ref o)]) dX11_clause_32 rfl (by decide) rfl ?_
      refine V.iload_n dX11_clause_33 2 rfl ?_
      refine V.iload_n dX11_clause_34 1 rfl ?_
      refine V.callSp (As := [.int 453836, .int (F (teT F n t - 1))]) (rest := []) [] (c_M_kindOf E l L _ 453836 ((F (teT F n t - 1)))) rfl (by decide) mi_X11_kindOf w_822 w_823 rfl rfl (Nat.le_of_ble_eq_true rfl) ⟨by decide, by decide⟩ ⟨by decide, by decide⟩ dX11_clause_35 (vw2 := fun _ => [(o, ob 10 [.ref mw, .ref mk, .ref mt, .ref mr, .ref mki, .ref mso, .ref mst, .ref mpr, .ref msh, .ref mwa, .ref mpu, .ref mtx, .int (nI n), .int (nI (teT F n t)), .int (nI (frT F n t)), .int 0, .int (nI c), .int um, .ref mor, .ref mbo, .int mn, .ref tO, .ref tVi, .ref tSm, .int tm]), (mtx, aI E 160 MT), (mt, aI E 8 Ti), (mr, aI E 8 Re), (mki, aI E 12 Ki), (mso, aI E 12 So), (mst, aI E 12 St), (mpr, aI E 12 Pr), (msh, aI E 2 Sh), (mwa, aI E 2 Wa), (mpu, aI E 2 Pu)]) (st2 := fun _ => [.int (kindW 453836 (F (teT F n t - 1)))]) (fun _ => rfl) (fun _ => rfl) (fun _ => rfl) (fun _ _ => ?_)
      refine V.topc (v := (-1)) (by unfold kindW; rw [if_neg (by decide), if_neg (by decide), if_neg (by decide), if_neg (fun h9 => absurd h9.1 (by decide))]) ?_
      refine V.istore (lv2 := [(4, .int (-1)), (3, .int (nI (frT F n t))), (2, .int (F (teT F n t - 1))), (1, .int 453836), (0, .ref o)]) dX11_clause_38 (by decide) rfl ?_
      refine V.iload dX11_clause_40 0 rfl ?_
      refine V.if_lt (tgt := 81) dX11_clause_42 (by decide) (fun _ => ?_) (fun hc => absurd (by decide) hc)
      refine V.iload_n dX11_clause_81 3 rfl ?_
      refine V.bipush (v := 108) dX11_clause_82 (by decide) ?_
      refine V.bipush (v := 97) dX11_clause_84 (by decide) ?_
      refine V.bipush (v := 110) dX11_clause_86 (by decide) ?_
      refine V.bipush (v := 101) dX11_clause_88 (by decide) ?_
      refine V.iconst (v := 0) dX11_clause_90 (by decide) ?_
      refine V.iconst (v := 0) dX11_clause_91 (by decide) ?_
      refine V.callSp (As := [.int 108, .int 97, .int 110, .int 101, .int 0, .int 0]) (rest := [.int 453836]) [] (c_M_wordOf E l L _ 108 97 110 101 0 0) rfl (by decide) mi_X11_wordOf w_825 w_826 rfl rfl (Nat.le_of_ble_eq_true rfl) ⟨by decide, by decide⟩ ⟨by decide, by decide⟩ dX11_clause_92 (vw2 := fun _ => [(o, ob 10 [.ref mw, .ref mk, .ref mt, .ref mr, .ref mki, .ref mso, .ref mst, .ref mpr, .ref msh, .ref mwa, .ref mpu, .ref mtx, .int (nI n), .int (nI (teT F n t)), .int (nI (frT F n t)), .int 0, .int (nI c), .int um, .ref mor, .ref mbo, .int mn, .ref tO, .ref tVi, .ref tSm, .int tm]), (mtx, aI E 160 MT), (mt, aI E 8 Ti), (mr, aI E 8 Re), (mki, aI E 12 Ki), (mso, aI E 12 So), (mst, aI E 12 St), (mpr, aI E 12 Pr), (msh, aI E 2 Sh), (mwa, aI E 2 Wa), (mpu, aI E 2 Pu)]) (st2 := fun _ => [.int (wofI 108 97 110 101 0 0), .int 453836]) (fun _ => rfl) (fun _ => rfl) (fun _ => rfl) (fun _ _ => ?_)
      refine V.topc (v := 237308) (by decide +kernel) ?_
      refine V.icmp_ne (tgt := 106) dX11_clause_95 (by decide) (fun _ => ?_) (fun hc => absurd hc (by decide))
      refine V.iload_n dX11_clause_106 3 rfl ?_
      refine V.bipush (v := 115) dX11_clause_107 (by decide) ?_
      refine V.bipush (v := 111) dX11_clause_109 (by decide) ?_
      refine V.bipush (v := 114) dX11_clause_111 (by decide) ?_
      refine V.bipush (v := 116) dX11_clause_113 (by decide) ?_
      refine V.iconst (v := 0) dX11_clause_115 (by decide) ?_
      refine V.iconst (v := 0) dX11_clause_116 (by decide) ?_
      refine V.callSp (As := [.int 115, .int 111, .int 114, .int 116, .int 0, .int 0]) (rest := [.int 453836]) [] (c_M_wordOf E l L _ 115 111 114 116 0 0) rfl (by decide) mi_X11_wordOf w_825 w_826 rfl rfl (Nat.le_of_ble_eq_true rfl) ⟨by decide, by decide⟩ ⟨by decide, by decide⟩ dX11_clause_117 (vw2 := fun _ => [(o, ob 10 [.ref mw, .ref mk, .ref mt, .ref mr, .ref mki, .ref mso, .ref mst, .ref mpr, .ref msh, .ref mwa, .ref mpu, .ref mtx, .int (nI n), .int (nI (teT F n t)), .int (nI (frT F n t)), .int 0, .int (nI c), .int um, .ref mor, .ref mbo, .int mn, .ref tO, .ref tVi, .ref tSm, .int tm]), (mtx, aI E 160 MT), (mt, aI E 8 Ti), (mr, aI E 8 Re), (mki, aI E 12 Ki), (mso, aI E 12 So), (mst, aI E 12 St), (mpr, aI E 12 Pr), (msh, aI E 2 Sh), (mwa, aI E 2 Wa), (mpu, aI E 2 Pu)]) (st2 := fun _ => [.int (wofI 115 111 114 116 0 0), .int 453836]) (fun _ => rfl) (fun _ => rfl) (fun _ => rfl) (fun _ _ => ?_)
      refine V.topc (v := 385418) (by decide +kernel) ?_
      refine V.icmp_ne (tgt := 130) dX11_clause_120 (by decide) (fun _ => ?_) (fun hc => absurd hc (by decide))
      refine V.iload_n dX11_clause_130 3 rfl ?_
      refine V.bipush (v := 119) dX11_clause_131 (by decide) ?_
      refine V.bipush (v := 97) dX11_clause_133 (by decide) ?_
      refine V.bipush (v := 110) dX11_clause_135 (by decide) ?_
      refine V.bipush (v := 116) dX11_clause_137 (by decide) ?_
      refine V.iconst (v := 0) dX11_clause_139 (by decide) ?_
      refine V.iconst (v := 0) dX11_clause_140 (by decide) ?_
      refine V.callSp (As := [.int 119, .int 97, .int 110, .int 116, .int 0, .int 0]) (rest := [.int 453836]) [] (c_M_wordOf E l L _ 119 97 110 116 0 0) rfl (by decide) mi_X11_wordOf w_825 w_826 rfl rfl (Nat.le_of_ble_eq_true rfl) ⟨by decide, by decide⟩ ⟨by decide, by decide⟩ dX11_clause_141 (vw2 := fun _ => [(o, ob 10 [.ref mw, .ref mk, .ref mt, .ref mr, .ref mki, .ref mso, .ref mst, .ref mpr, .ref msh, .ref mwa, .ref mpu, .ref mtx, .int (nI n), .int (nI (teT F n t)), .int (nI (frT F n t)), .int 0, .int (nI c), .int um, .ref mor, .ref mbo, .int mn, .ref tO, .ref tVi, .ref tSm, .int tm]), (mtx, aI E 160 MT), (mt, aI E 8 Ti), (mr, aI E 8 Re), (mki, aI E 12 Ki), (mso, aI E 12 So), (mst, aI E 12 St), (mpr, aI E 12 Pr), (msh, aI E 2 Sh), (mwa, aI E 2 Wa), (mpu, aI E 2 Pu)]) (st2 := fun _ => [.int (wofI 119 97 110 116 0 0), .int 453836]) (fun _ => rfl) (fun _ => rfl) (fun _ => rfl) (fun _ _ => ?_)
      refine V.topc (v := 453836) (by decide +kernel) ?_
      refine V.icmp_ne (tgt := 163) dX11_clause_144 (by decide) (fun hc => absurd (by decide) hc) (fun _ => ?_)
      refine V.aload_n dX11_clause_147 4 rfl ?_
      refine V.getf 0 9 rfl fa_X11_38_10 rfl dX11_clause_148 ?_
      refine V.iconst (v := 1) dX11_clause_151 (by decide) ?_
      refine V.aload_n dX11_clause_152 4 rfl ?_
      refine V.iconst (v := 1) dX11_clause_153 (by decide) ?_
      refine V.bipush (v := 30) dX11_clause_154 (by decide) ?_
      refine V.callVp (As := [.int 1, .int 30]) (rest := [.int 1, .ref mwa]) [0, 1] (c_M_take E l L _ o mw mk mt mr mki mso mst mpr msh mwa mpu mtx mor mbo tO tVi tSm ((nI (frT F n t))) ((nI c)) um mn tm n MT F ((teT F n t)) 1 30 (teT_le ht) (hn) (hT) (by omega)) rfl (by decide) mi_X11_take 0 rfl rfl w_832 w_834 wp_14 rfl rfl (Nat.le_of_ble_eq_true rfl) ⟨by decide, by decide⟩ ⟨by decide, by decide⟩ dX11_clause_156 (vw2 := fun z9 => [(o, ob 10 [.ref mw, .ref mk, .ref mt, .ref mr, .ref mki, .ref mso, .ref mst, .ref mpr, .ref msh, .ref mwa, .ref mpu, .ref mtx, .int (nI n), .int (nI (dgE F n (teT F n t))), .int (nI (frT F n (teT F n t))), .int (badW F n (teT F n t) 1 30), .int (nI c), .int um, .ref mor, .ref mbo, .int mn, .ref tO, .ref tVi, .ref tSm, .int tm]), (mtx, aI E 160 MT), (mt, aI E 8 Ti), (mr, aI E 8 Re), (mki, aI E 12 Ki), (mso, aI E 12 So), (mst, aI E 12 St), (mpr, aI E 12 Pr), (msh, aI E 2 Sh), (mwa, aI E 2 Wa), (mpu, aI E 2 Pu)]) (st2 := fun z9 => [.int z9, .int 1, .ref mwa]) (fun _ => rfl) (fun _ => rfl) (fun _ => rfl) (fun z9 hq_156 => ?_)
      rcases withinI_01 (numT F n (teT F n t)) (nI 1) 30 with hb156 | hb156
      · skip
        have e156 : badW F n (teT F n t) 1 30 = 1 := if_neg (by rw [show withinI (numW F (frT F n (teT F n t)) (teT F n (teT F n t))) (nI 1) 30 = 0 from hb156]; decide)
        rw [e156]
        refine V.view (vw2 := [(o, ob 10 [.ref mw, .ref mk, .ref mt, .ref mr, .ref mki, .ref mso, .ref mst, .ref mpr, .ref msh, .ref mwa, .ref mpu, .ref mtx, .int (nI n), .int (nI (dgE F n (teT F n t))), .int (nI (frT F n (teT F n t))), .int 1, .int (nI c), .int um, .ref mor, .ref mbo, .int mn, .ref tO, .ref tVi, .ref tSm, .int tm]), (mtx, aI E 160 MT), (mt, aI E 8 Ti), (mr, aI E 8 Re), (mki, aI E 12 Ki), (mso, aI E 12 So), (mst, aI E 12 St), (mpr, aI E 12 Pr), (msh, aI E 2 Sh), (mwa, aI E 2 Wa), (mpu, aI E 2 Pu)]) (L2 := L) rfl rfl ?_
        refine V.iast (vw2 := [(o, ob 10 [.ref mw, .ref mk, .ref mt, .ref mr, .ref mki, .ref mso, .ref mst, .ref mpr, .ref msh, .ref mwa, .ref mpu, .ref mtx, .int (nI n), .int (nI (dgE F n (teT F n t))), .int (nI (frT F n (teT F n t))), .int 1, .int (nI c), .int um, .ref mor, .ref mbo, .int mn, .ref tO, .ref tVi, .ref tSm, .int tm]), (mtx, aI E 160 MT), (mt, aI E 8 Ti), (mr, aI E 8 Re), (mki, aI E 12 Ki), (mso, aI E 12 So), (mst, aI E 12 St), (mpr, aI E 12 Pr), (msh, aI E 2 Sh), (mwa, aI E 2 (upd Wa 1 z9)), (mpu, aI E 2 Pu)]) 9 rfl (vin rfl) (rfl) dX11_clause_159 ?_
        refine V.goto (tgt := 234) dX11_clause_160 (by decide) ?_
        refine V.aload_n dX11_clause_234 4 rfl ?_
        refine V.dup dX11_clause_235 rfl ?_
        refine V.getf 0 16 rfl fa_X11_120_10 rfl dX11_clause_236 ?_
        refine V.iconst (v := 1) dX11_clause_239 (by decide) ?_
        refine V.iadd dX11_clause_240 ?_
        refine V.topc (v := (nI (c + 1))) (nI_1 c) ?_
        refine V.putf 0 16 (vw2 := [(o, ob 10 [.ref mw, .ref mk, .ref mt, .ref mr, .ref mki, .ref mso, .ref mst, .ref mpr, .ref msh, .ref mwa, .ref mpu, .ref mtx, .int (nI n), .int (nI (dgE F n (teT F n t))), .int (nI (frT F n (teT F n t))), .int 1, .int (nI (c + 1)), .int um, .ref mor, .ref mbo, .int mn, .ref tO, .ref tVi, .ref tSm, .int tm]), (mtx, aI E 160 MT), (mt, aI E 8 Ti), (mr, aI E 8 Re), (mki, aI E 12 Ki), (mso, aI E 12 So), (mst, aI E 12 St), (mpr, aI E 12 Pr), (msh, aI E 2 Sh), (mwa, aI E 2 (upd Wa 1 z9)), (mpu, aI E 2 Pu)]) rfl fp_X11_120_10 rfl rfl (Nat.le_of_ble_eq_true rfl) rfl dX11_clause_241 ?_
        exact V.vret rfl dX11_clause_244 (⟨((Ti, Re, Ki, So, St, Pr, Sh, (upd Wa 1 z9), Pu), (nI (dgE F n (teT F n t))), (nI (frT F n (teT F n t))), 1), rfl, rfl, rfl, clR_w (zs := []) hw0 hww hm6 (tl_want _) (ns_want_0 hb156) (fun h9 => absurd (show (1 : Int32) = 0 from h9) (by decide))⟩)
      · skip
        have e156 : badW F n (teT F n t) 1 30 = 0 := if_pos hb156
        obtain ⟨ez156, et156⟩ := hq_156 hb156
        rw [e156, ← et156]
        refine V.view (vw2 := [(o, ob 10 [.ref mw, .ref mk, .ref mt, .ref mr, .ref mki, .ref mso, .ref mst, .ref mpr, .ref msh, .ref mwa, .ref mpu, .ref mtx, .int (nI n), .int (nI (teT F n (teT F n t))), .int (nI (frT F n (teT F n t))), .int 0, .int (nI c), .int um, .ref mor, .ref mbo, .int mn, .ref tO, .ref tVi, .ref tSm, .int tm]), (mtx, aI E 160 MT), (mt, aI E 8 Ti), (mr, aI E 8 Re), (mki, aI E 12 Ki), (mso, aI E 12 So), (mst, aI E 12 St), (mpr, aI E 12 Pr), (msh, aI E 2 Sh), (mwa, aI E 2 Wa), (mpu, aI E 2 Pu)]) (L2 := L) rfl rfl ?_
        refine V.iast (vw2 := [(o, ob 10 [.ref mw, .ref mk, .ref mt, .ref mr, .ref mki, .ref mso, .ref mst, .ref mpr, .ref msh, .ref mwa, .ref mpu, .ref mtx, .int (nI n), .int (nI (teT F n (teT F n t))), .int (nI (frT F n (teT F n t))), .int 0, .int (nI c), .int um, .ref mor, .ref mbo, .int mn, .ref tO, .ref tVi, .ref tSm, .int tm]), (mtx, aI E 160 MT), (mt, aI E 8 Ti), (mr, aI E 8 Re), (mki, aI E 12 Ki), (mso, aI E 12 So), (mst, aI E 12 St), (mpr, aI E 12 Pr), (msh, aI E 2 Sh), (mwa, aI E 2 (upd Wa 1 z9)), (mpu, aI E 2 Pu)]) 9 rfl (vin rfl) (rfl) dX11_clause_159 ?_
        refine V.goto (tgt := 234) dX11_clause_160 (by decide) ?_
        refine V.aload_n dX11_clause_234 4 rfl ?_
        refine V.dup dX11_clause_235 rfl ?_
        refine V.getf 0 16 rfl fa_X11_120_10 rfl dX11_clause_236 ?_
        refine V.iconst (v := 1) dX11_clause_239 (by decide) ?_
        refine V.iadd dX11_clause_240 ?_
        refine V.topc (v := (nI (c + 1))) (nI_1 c) ?_
        refine V.putf 0 16 (vw2 := [(o, ob 10 [.ref mw, .ref mk, .ref mt, .ref mr, .ref mki, .ref mso, .ref mst, .ref mpr, .ref msh, .ref mwa, .ref mpu, .ref mtx, .int (nI n), .int (nI (teT F n (teT F n t))), .int (nI (frT F n (teT F n t))), .int 0, .int (nI (c + 1)), .int um, .ref mor, .ref mbo, .int mn, .ref tO, .ref tVi, .ref tSm, .int tm]), (mtx, aI E 160 MT), (mt, aI E 8 Ti), (mr, aI E 8 Re), (mki, aI E 12 Ki), (mso, aI E 12 So), (mst, aI E 12 St), (mpr, aI E 12 Pr), (msh, aI E 2 Sh), (mwa, aI E 2 (upd Wa 1 z9)), (mpu, aI E 2 Pu)]) rfl fp_X11_120_10 rfl rfl (Nat.le_of_ble_eq_true rfl) rfl dX11_clause_241 ?_
        exact V.vret rfl dX11_clause_244 (⟨((Ti, Re, Ki, So, St, Pr, Sh, (upd Wa 1 z9), Pu), (nI (teT F n (teT F n t))), (nI (frT F n (teT F n t))), 0), rfl, rfl, rfl, clR_w (zs := [z9]) hw0 hww hm6 (tl_want _) (by rw [ez156]; exact ns_want_1 hb156) (fun _ _ => tl_want2 hH _)⟩)
    · skip
      refine V.topc (v := 8930039) (hv.trans (by decide)) ?_
      rw [← hte]
      have hsl : sLen 7 = 5 := by decide
      have hpos : 0 < teT F n t := by rw [hte, hlen, hsl]; omega
      refine V.istore_n (lv2 := [(1, .int 8930039), (0, .ref o)]) dX11_clause_4 rfl (by decide) rfl ?_
      refine V.aload_n dX11_clause_5 1 rfl ?_
      refine V.getf 0 13 rfl fa_X11_76_10 rfl dX11_clause_6 ?_
      refine V.if_le (tgt := 26) dX11_clause_9 (by decide) (fun hc => absurd hc (nI_nle hpos (by omega))) (fun _ => ?_)
      refine V.aload_n dX11_clause_12 1 rfl ?_
      refine V.getf 0 11 rfl fa_X11_44_10 rfl dX11_clause_13 ?_
      refine V.aload_n dX11_clause_16 1 rfl ?_
      refine V.getf 0 13 rfl fa_X11_76_10 rfl dX11_clause_17 ?_
      refine V.iconst (v := 1) dX11_clause_20 (by decide) ?_
      refine V.isub dX11_clause_21 ?_
      refine V.topc (v := (nI (teT F n t - 1))) (nI_subN (a := 1) hpos) ?_
      refine V.iald 1 rfl (vinI (by omega)) dX11_clause_22 ?_
      refine V.topc (v := (F (teT F n t - 1))) (by rw [nI_clamp (by omega)]; exact hT _ (by omega)) ?_
      refine V.goto (tgt := 27) dX11_clause_23 (by decide) ?_
      refine V.istore_n (lv2 := [(2, .int (F (teT F n t - 1))), (1, .int 8930039), (0, .ref o)]) dX11_clause_27 rfl (by decide) rfl ?_
      refine V.aload_n dX11_clause_28 2 rfl ?_
      refine V.getf 0 14 rfl fa_X11_79_10 rfl dX11_clause_29 ?_
      refine V.istore_n (lv2 := [(3, .int (nI (frT F n t))), (2, .int (F (teT F n t - 1))), (1, .int 8930039), (0, .ref o)]) dX11_clause_32 rfl (by decide) rfl ?_
      refine V.iload_n dX11_clause_33 2 rfl ?_
      refine V.iload_n dX11_clause_34 1 rfl ?_
      refine V.callSp (As := [.int 8930039, .int (F (teT F n t - 1))]) (rest := []) [] (c_M_kindOf E l L _ 8930039 ((F (teT F n t - 1)))) rfl (by decide) mi_X11_kindOf w_822 w_823 rfl rfl (Nat.le_of_ble_eq_true rfl) ⟨by decide, by decide⟩ ⟨by decide, by decide⟩ dX11_clause_35 (vw2 := fun _ => [(o, ob 10 [.ref mw, .ref mk, .ref mt, .ref mr, .ref mki, .ref mso, .ref mst, .ref mpr, .ref msh, .ref mwa, .ref mpu, .ref mtx, .int (nI n), .int (nI (teT F n t)), .int (nI (frT F n t)), .int 0, .int (nI c), .int um, .ref mor, .ref mbo, .int mn, .ref tO, .ref tVi, .ref tSm, .int tm]), (mtx, aI E 160 MT), (mt, aI E 8 Ti), (mr, aI E 8 Re), (mki, aI E 12 Ki), (mso, aI E 12 So), (mst, aI E 12 St), (mpr, aI E 12 Pr), (msh, aI E 2 Sh), (mwa, aI E 2 Wa), (mpu, aI E 2 Pu)]) (st2 := fun _ => [.int (kindW 8930039 (F (teT F n t - 1)))]) (fun _ => rfl) (fun _ => rfl) (fun _ => rfl) (fun _ _ => ?_)
      refine V.topc (v := (-1)) (by unfold kindW; rw [if_neg (by decide), if_neg (by decide), if_neg (by decide), if_neg (fun h9 => absurd h9.1 (by decide))]) ?_
      refine V.istore (lv2 := [(4, .int (-1)), (3, .int (nI (frT F n t))), (2, .int (F (teT F n t - 1))), (1, .int 8930039), (0, .ref o)]) dX11_clause_38 (by decide) rfl ?_
      refine V.iload dX11_clause_40 0 rfl ?_
      refine V.if_lt (tgt := 81) dX11_clause_42 (by decide) (fun _ => ?_) (fun hc => absurd (by decide) hc)
      refine V.iload_n dX11_clause_81 3 rfl ?_
      refine V.bipush (v := 108) dX11_clause_82 (by decide) ?_
      refine V.bipush (v := 97) dX11_clause_84 (by decide) ?_
      refine V.bipush (v := 110) dX11_clause_86 (by decide) ?_
      refine V.bipush (v := 101) dX11_clause_88 (by decide) ?_
      refine V.iconst (v := 0) dX11_clause_90 (by decide) ?_
      refine V.iconst (v := 0) dX11_clause_91 (by decide) ?_
      refine V.callSp (As := [.int 108, .int 97, .int 110, .int 101, .int 0, .int 0]) (rest := [.int 8930039]) [] (c_M_wordOf E l L _ 108 97 110 101 0 0) rfl (by decide) mi_X11_wordOf w_825 w_826 rfl rfl (Nat.le_of_ble_eq_true rfl) ⟨by decide, by decide⟩ ⟨by decide, by decide⟩ dX11_clause_92 (vw2 := fun _ => [(o, ob 10 [.ref mw, .ref mk, .ref mt, .ref mr, .ref mki, .ref mso, .ref mst, .ref mpr, .ref msh, .ref mwa, .ref mpu, .ref mtx, .int (nI n), .int (nI (teT F n t)), .int (nI (frT F n t)), .int 0, .int (nI c), .int um, .ref mor, .ref mbo, .int mn, .ref tO, .ref tVi, .ref tSm, .int tm]), (mtx, aI E 160 MT), (mt, aI E 8 Ti), (mr, aI E 8 Re), (mki, aI E 12 Ki), (mso, aI E 12 So), (mst, aI E 12 St), (mpr, aI E 12 Pr), (msh, aI E 2 Sh), (mwa, aI E 2 Wa), (mpu, aI E 2 Pu)]) (st2 := fun _ => [.int (wofI 108 97 110 101 0 0), .int 8930039]) (fun _ => rfl) (fun _ => rfl) (fun _ => rfl) (fun _ _ => ?_)
      refine V.topc (v := 237308) (by decide +kernel) ?_
      refine V.icmp_ne (tgt := 106) dX11_clause_95 (by decide) (fun _ => ?_) (fun hc => absurd hc (by decide))
      refine V.iload_n dX11_clause_106 3 rfl ?_
      refine V.bipush (v := 115) dX11_clause_107 (by decide) ?_
      refine V.bipush (v := 111) dX11_clause_109 (by decide) ?_
      refine V.bipush (v := 114) dX11_clause_111 (by decide) ?_
      refine V.bipush (v := 116) dX11_clause_113 (by decide) ?_
      refine V.iconst (v := 0) dX11_clause_115 (by decide) ?_
      refine V.iconst (v := 0) dX11_clause_116 (by decide) ?_
      refine V.callSp (As := [.int 115, .int 111, .int 114, .int 116, .int 0, .int 0]) (rest := [.int 8930039]) [] (c_M_wordOf E l L _ 115 111 114 116 0 0) rfl (by decide) mi_X11_wordOf w_825 w_826 rfl rfl (Nat.le_of_ble_eq_true rfl) ⟨by decide, by decide⟩ ⟨by decide, by decide⟩ dX11_clause_117 (vw2 := fun _ => [(o, ob 10 [.ref mw, .ref mk, .ref mt, .ref mr, .ref mki, .ref mso, .ref mst, .ref mpr, .ref msh, .ref mwa, .ref mpu, .ref mtx, .int (nI n), .int (nI (teT F n t)), .int (nI (frT F n t)), .int 0, .int (nI c), .int um, .ref mor, .ref mbo, .int mn, .ref tO, .ref tVi, .ref tSm, .int tm]), (mtx, aI E 160 MT), (mt, aI E 8 Ti), (mr, aI E 8 Re), (mki, aI E 12 Ki), (mso, aI E 12 So), (mst, aI E 12 St), (mpr, aI E 12 Pr), (msh, aI E 2 Sh), (mwa, aI E 2 Wa), (mpu, aI E 2 Pu)]) (st2 := fun _ => [.int (wofI 115 111 114 116 0 0), .int 8930039]) (fun _ => rfl) (fun _ => rfl) (fun _ => rfl) (fun _ _ => ?_)
      refine V.topc (v := 385418) (by decide +kernel) ?_
      refine V.icmp_ne (tgt := 130) dX11_clause_120 (by decide) (fun _ => ?_) (fun hc => absurd hc (by decide))
      refine V.iload_n dX11_clause_130 3 rfl ?_
      refine V.bipush (v := 119) dX11_clause_131 (by decide) ?_
      refine V.bipush (v := 97) dX11_clause_133 (by decide) ?_
      refine V.bipush (v := 110) dX11_clause_135 (by decide) ?_
      refine V.bipush (v := 116) dX11_clause_137 (by decide) ?_
      refine V.iconst (v := 0) dX11_clause_139 (by decide) ?_
      refine V.iconst (v := 0) dX11_clause_140 (by decide) ?_
      refine V.callSp (As := [.int 119, .int 97, .int 110, .int 116, .int 0, .int 0]) (rest := [.int 8930039]) [] (c_M_wordOf E l L _ 119 97 110 116 0 0) rfl (by decide) mi_X11_wordOf w_825 w_826 rfl rfl (Nat.le_of_ble_eq_true rfl) ⟨by decide, by decide⟩ ⟨by decide, by decide⟩ dX11_clause_141 (vw2 := fun _ => [(o, ob 10 [.ref mw, .ref mk, .ref mt, .ref mr, .ref mki, .ref mso, .ref mst, .ref mpr, .ref msh, .ref mwa, .ref mpu, .ref mtx, .int (nI n), .int (nI (teT F n t)), .int (nI (frT F n t)), .int 0, .int (nI c), .int um, .ref mor, .ref mbo, .int mn, .ref tO, .ref tVi, .ref tSm, .int tm]), (mtx, aI E 160 MT), (mt, aI E 8 Ti), (mr, aI E 8 Re), (mki, aI E 12 Ki), (mso, aI E 12 So), (mst, aI E 12 St), (mpr, aI E 12 Pr), (msh, aI E 2 Sh), (mwa, aI E 2 Wa), (mpu, aI E 2 Pu)]) (st2 := fun _ => [.int (wofI 119 97 110 116 0 0), .int 8930039]) (fun _ => rfl) (fun _ => rfl) (fun _ => rfl) (fun _ _ => ?_)
      refine V.topc (v := 453836) (by decide +kernel) ?_
      refine V.icmp_ne (tgt := 163) dX11_clause_144 (by decide) (fun _ => ?_) (fun hc => absurd hc (by decide))
      refine V.iload_n dX11_clause_163 3 rfl ?_
      refine V.bipush (v := 112) dX11_clause_164 (by decide) ?_
      refine V.bipush (v := 117) dX11_clause_166 (by decide) ?_
      refine V.bipush (v := 114) dX11_clause_168 (by decide) ?_
      refine V.bipush (v := 115) dX11_clause_170 (by decide) ?_
      refine V.bipush (v := 101) dX11_clause_172 (by decide) ?_
      refine V.iconst (v := 0) dX11_clause_174 (by decide) ?_
      refine V.callSp (As := [.int 112, .int 117, .int 114, .int 115, .int 101, .int 0]) (rest := [.int 8930039]) [] (c_M_wordOf E l L _ 112 117 114 115 101 0) rfl (by decide) mi_X11_wordOf w_825 w_826 rfl rfl (Nat.le_of_ble_eq_true rfl) ⟨by decide, by decide⟩ ⟨by decide, by decide⟩ dX11_clause_175 (vw2 := fun _ => [(o, ob 10 [.ref mw, .ref mk, .ref mt, .ref mr, .ref mki, .ref mso, .ref mst, .ref mpr, .ref msh, .ref mwa, .ref mpu, .ref mtx, .int (nI n), .int (nI (teT F n t)), .int (nI (frT F n t)), .int 0, .int (nI c), .int um, .ref mor, .ref mbo, .int mn, .ref tO, .ref tVi, .ref tSm, .int tm]), (mtx, aI E 160 MT), (mt, aI E 8 Ti), (mr, aI E 8 Re), (mki, aI E 12 Ki), (mso, aI E 12 So), (mst, aI E 12 St), (mpr, aI E 12 Pr), (msh, aI E 2 Sh), (mwa, aI E 2 Wa), (mpu, aI E 2 Pu)]) (st2 := fun _ => [.int (wofI 112 117 114 115 101 0), .int 8930039]) (fun _ => rfl) (fun _ => rfl) (fun _ => rfl) (fun _ _ => ?_)
      refine V.topc (v := 8930039) (by decide +kernel) ?_
      refine V.icmp_ne (tgt := 197) dX11_clause_178 (by decide) (fun hc => absurd (by decide) hc) (fun _ => ?_)
      refine V.aload_n dX11_clause_181 4 rfl ?_
      refine V.getf 0 10 rfl fa_X11_41_10 rfl dX11_clause_182 ?_
      refine V.iconst (v := 1) dX11_clause_185 (by decide) ?_
      refine V.aload_n dX11_clause_186 4 rfl ?_
      refine V.iconst (v := 0) dX11_clause_187 (by decide) ?_
      refine V.bipush (v := 99) dX11_clause_188 (by decide) ?_
      refine V.callVp (As := [.int 0, .int 99]) (rest := [.int 1, .ref mpu]) [0, 1] (c_M_take E l L _ o mw mk mt mr mki mso mst mpr msh mwa mpu mtx mor mbo tO tVi tSm ((nI (frT F n t))) ((nI c)) um mn tm n MT F ((teT F n t)) 0 99 (teT_le ht) (hn) (hT) (by omega)) rfl (by decide) mi_X11_take 0 rfl rfl w_832 w_834 wp_14 rfl rfl (Nat.le_of_ble_eq_true rfl) ⟨by decide, by decide⟩ ⟨by decide, by decide⟩ dX11_clause_190 (vw2 := fun z9 => [(o, ob 10 [.ref mw, .ref mk, .ref mt, .ref mr, .ref mki, .ref mso, .ref mst, .ref mpr, .ref msh, .ref mwa, .ref mpu, .ref mtx, .int (nI n), .int (nI (dgE F n (teT F n t))), .int (nI (frT F n (teT F n t))), .int (badW F n (teT F n t) 0 99), .int (nI c), .int um, .ref mor, .ref mbo, .int mn, .ref tO, .ref tVi, .ref tSm, .int tm]), (mtx, aI E 160 MT), (mt, aI E 8 Ti), (mr, aI E 8 Re), (mki, aI E 12 Ki), (mso, aI E 12 So), (mst, aI E 12 St), (mpr, aI E 12 Pr), (msh, aI E 2 Sh), (mwa, aI E 2 Wa), (mpu, aI E 2 Pu)]) (st2 := fun z9 => [.int z9, .int 1, .ref mpu]) (fun _ => rfl) (fun _ => rfl) (fun _ => rfl) (fun z9 hq_190 => ?_)
      rcases withinI_01 (numT F n (teT F n t)) (nI 0) 99 with hb190 | hb190
      · skip
        have e190 : badW F n (teT F n t) 0 99 = 1 := if_neg (by rw [show withinI (numW F (frT F n (teT F n t)) (teT F n (teT F n t))) (nI 0) 99 = 0 from hb190]; decide)
        rw [e190]
        refine V.view (vw2 := [(o, ob 10 [.ref mw, .ref mk, .ref mt, .ref mr, .ref mki, .ref mso, .ref mst, .ref mpr, .ref msh, .ref mwa, .ref mpu, .ref mtx, .int (nI n), .int (nI (dgE F n (teT F n t))), .int (nI (frT F n (teT F n t))), .int 1, .int (nI c), .int um, .ref mor, .ref mbo, .int mn, .ref tO, .ref tVi, .ref tSm, .int tm]), (mtx, aI E 160 MT), (mt, aI E 8 Ti), (mr, aI E 8 Re), (mki, aI E 12 Ki), (mso, aI E 12 So), (mst, aI E 12 St), (mpr, aI E 12 Pr), (msh, aI E 2 Sh), (mwa, aI E 2 Wa), (mpu, aI E 2 Pu)]) (L2 := L) rfl rfl ?_
        refine V.iast (vw2 := [(o, ob 10 [.ref mw, .ref mk, .ref mt, .ref mr, .ref mki, .ref mso, .ref mst, .ref mpr, .ref msh, .ref mwa, .ref mpu, .ref mtx, .int (nI n), .int (nI (dgE F n (teT F n t))), .int (nI (frT F n (teT F n t))), .int 1, .int (nI c), .int um, .ref mor, .ref mbo, .int mn, .ref tO, .ref tVi, .ref tSm, .int tm]), (mtx, aI E 160 MT), (mt, aI E 8 Ti), (mr, aI E 8 Re), (mki, aI E 12 Ki), (mso, aI E 12 So), (mst, aI E 12 St), (mpr, aI E 12 Pr), (msh, aI E 2 Sh), (mwa, aI E 2 Wa), (mpu, aI E 2 (upd Pu 1 z9))]) 10 rfl (vin rfl) (rfl) dX11_clause_193 ?_
        refine V.goto (tgt := 234) dX11_clause_194 (by decide) ?_
        refine V.aload_n dX11_clause_234 4 rfl ?_
        refine V.dup dX11_clause_235 rfl ?_
        refine V.getf 0 16 rfl fa_X11_120_10 rfl dX11_clause_236 ?_
        refine V.iconst (v := 1) dX11_clause_239 (by decide) ?_
        refine V.iadd dX11_clause_240 ?_
        refine V.topc (v := (nI (c + 1))) (nI_1 c) ?_
        refine V.putf 0 16 (vw2 := [(o, ob 10 [.ref mw, .ref mk, .ref mt, .ref mr, .ref mki, .ref mso, .ref mst, .ref mpr, .ref msh, .ref mwa, .ref mpu, .ref mtx, .int (nI n), .int (nI (dgE F n (teT F n t))), .int (nI (frT F n (teT F n t))), .int 1, .int (nI (c + 1)), .int um, .ref mor, .ref mbo, .int mn, .ref tO, .ref tVi, .ref tSm, .int tm]), (mtx, aI E 160 MT), (mt, aI E 8 Ti), (mr, aI E 8 Re), (mki, aI E 12 Ki), (mso, aI E 12 So), (mst, aI E 12 St), (mpr, aI E 12 Pr), (msh, aI E 2 Sh), (mwa, aI E 2 Wa), (mpu, aI E 2 (upd Pu 1 z9))]) rfl fp_X11_120_10 rfl rfl (Nat.le_of_ble_eq_true rfl) rfl dX11_clause_241 ?_
        exact V.vret rfl dX11_clause_244 (⟨((Ti, Re, Ki, So, St, Pr, Sh, Wa, (upd Pu 1 z9)), (nI (dgE F n (teT F n t))), (nI (frT F n (teT F n t))), 1), rfl, rfl, rfl, clR_w (zs := []) hw0 hww hm6 (tl_purse _) (ns_purse_0 hb190) (fun h9 => absurd (show (1 : Int32) = 0 from h9) (by decide))⟩)
      · skip
        have e190 : badW F n (teT F n t) 0 99 = 0 := if_pos hb190
        obtain ⟨ez190, et190⟩ := hq_190 hb190
        rw [e190, ← et190]
        refine V.view (vw2 := [(o, ob 10 [.ref mw, .ref mk, .ref mt, .ref mr, .ref mki, .ref mso, .ref mst, .ref mpr, .ref msh, .ref mwa, .ref mpu, .ref mtx, .int (nI n), .int (nI (teT F n (teT F n t))), .int (nI (frT F n (teT F n t))), .int 0, .int (nI c), .int um, .ref mor, .ref mbo, .int mn, .ref tO, .ref tVi, .ref tSm, .int tm]), (mtx, aI E 160 MT), (mt, aI E 8 Ti), (mr, aI E 8 Re), (mki, aI E 12 Ki), (mso, aI E 12 So), (mst, aI E 12 St), (mpr, aI E 12 Pr), (msh, aI E 2 Sh), (mwa, aI E 2 Wa), (mpu, aI E 2 Pu)]) (L2 := L) rfl rfl ?_
        refine V.iast (vw2 := [(o, ob 10 [.ref mw, .ref mk, .ref mt, .ref mr, .ref mki, .ref mso, .ref mst, .ref mpr, .ref msh, .ref mwa, .ref mpu, .ref mtx, .int (nI n), .int (nI (teT F n (teT F n t))), .int (nI (frT F n (teT F n t))), .int 0, .int (nI c), .int um, .ref mor, .ref mbo, .int mn, .ref tO, .ref tVi, .ref tSm, .int tm]), (mtx, aI E 160 MT), (mt, aI E 8 Ti), (mr, aI E 8 Re), (mki, aI E 12 Ki), (mso, aI E 12 So), (mst, aI E 12 St), (mpr, aI E 12 Pr), (msh, aI E 2 Sh), (mwa, aI E 2 Wa), (mpu, aI E 2 (upd Pu 1 z9))]) 10 rfl (vin rfl) (rfl) dX11_clause_193 ?_
        refine V.goto (tgt := 234) dX11_clause_194 (by decide) ?_
        refine V.aload_n dX11_clause_234 4 rfl ?_
        refine V.dup dX11_clause_235 rfl ?_
        refine V.getf 0 16 rfl fa_X11_120_10 rfl dX11_clause_236 ?_
        refine V.iconst (v := 1) dX11_clause_239 (by decide) ?_
        refine V.iadd dX11_clause_240 ?_
        refine V.topc (v := (nI (c + 1))) (nI_1 c) ?_
        refine V.putf 0 16 (vw2 := [(o, ob 10 [.ref mw, .ref mk, .ref mt, .ref mr, .ref mki, .ref mso, .ref mst, .ref mpr, .ref msh, .ref mwa, .ref mpu, .ref mtx, .int (nI n), .int (nI (teT F n (teT F n t))), .int (nI (frT F n (teT F n t))), .int 0, .int (nI (c + 1)), .int um, .ref mor, .ref mbo, .int mn, .ref tO, .ref tVi, .ref tSm, .int tm]), (mtx, aI E 160 MT), (mt, aI E 8 Ti), (mr, aI E 8 Re), (mki, aI E 12 Ki), (mso, aI E 12 So), (mst, aI E 12 St), (mpr, aI E 12 Pr), (msh, aI E 2 Sh), (mwa, aI E 2 Wa), (mpu, aI E 2 (upd Pu 1 z9))]) rfl fp_X11_120_10 rfl rfl (Nat.le_of_ble_eq_true rfl) rfl dX11_clause_241 ?_
        exact V.vret rfl dX11_clause_244 (⟨((Ti, Re, Ki, So, St, Pr, Sh, Wa, (upd Pu 1 z9)), (nI (teT F n (teT F n t))), (nI (frT F n (teT F n t))), 0), rfl, rfl, rfl, clR_w (zs := [z9]) hw0 hww hm6 (tl_purse _) (by rw [ez190]; exact ns_purse_1 hb190) (fun _ _ => tl_purse2 hH _)⟩)
    · skip
      refine V.topc (v := 380396) (hv.trans (by decide)) ?_
      rw [← hte]
      have hsl : sLen 8 = 4 := by decide
      have hpos : 0 < teT F n t := by rw [hte, hlen, hsl]; omega
      refine V.istore_n (lv2 := [(1, .int 380396), (0, .ref o)]) dX11_clause_4 rfl (by decide) rfl ?_
      refine V.aload_n dX11_clause_5 1 rfl ?_
      refine V.getf 0 13 rfl fa_X11_76_10 rfl dX11_clause_6 ?_
      refine V.if_le (tgt := 26) dX11_clause_9 (by decide) (fun hc => absurd hc (nI_nle hpos (by omega))) (fun _ => ?_)
      refine V.aload_n dX11_clause_12 1 rfl ?_
      refine V.getf 0 11 rfl fa_X11_44_10 rfl dX11_clause_13 ?_
      refine V.aload_n dX11_clause_16 1 rfl ?_
      refine V.getf 0 13 rfl fa_X11_76_10 rfl dX11_clause_17 ?_
      refine V.iconst (v := 1) dX11_clause_20 (by decide) ?_
      refine V.isub dX11_clause_21 ?_
      refine V.topc (v := (nI (teT F n t - 1))) (nI_subN (a := 1) hpos) ?_
      refine V.iald 1 rfl (vinI (by omega)) dX11_clause_22 ?_
      refine V.topc (v := (F (teT F n t - 1))) (by rw [nI_clamp (by omega)]; exact hT _ (by omega)) ?_
      refine V.goto (tgt := 27) dX11_clause_23 (by decide) ?_
      refine V.istore_n (lv2 := [(2, .int (F (teT F n t - 1))), (1, .int 380396), (0, .ref o)]) dX11_clause_27 rfl (by decide) rfl ?_
      refine V.aload_n dX11_clause_28 2 rfl ?_
      refine V.getf 0 14 rfl fa_X11_79_10 rfl dX11_clause_29 ?_
      refine V.istore_n (lv2 := [(3, .int (nI (frT F n t))), (2, .int (F (teT F n t - 1))), (1, .int 380396), (0, .ref o)]) dX11_clause_32 rfl (by decide) rfl ?_
      refine V.iload_n dX11_clause_33 2 rfl ?_
      refine V.iload_n dX11_clause_34 1 rfl ?_
      refine V.callSp (As := [.int 380396, .int (F (teT F n t - 1))]) (rest := []) [] (c_M_kindOf E l L _ 380396 ((F (teT F n t - 1)))) rfl (by decide) mi_X11_kindOf w_822 w_823 rfl rfl (Nat.le_of_ble_eq_true rfl) ⟨by decide, by decide⟩ ⟨by decide, by decide⟩ dX11_clause_35 (vw2 := fun _ => [(o, ob 10 [.ref mw, .ref mk, .ref mt, .ref mr, .ref mki, .ref mso, .ref mst, .ref mpr, .ref msh, .ref mwa, .ref mpu, .ref mtx, .int (nI n), .int (nI (teT F n t)), .int (nI (frT F n t)), .int 0, .int (nI c), .int um, .ref mor, .ref mbo, .int mn, .ref tO, .ref tVi, .ref tSm, .int tm]), (mtx, aI E 160 MT), (mt, aI E 8 Ti), (mr, aI E 8 Re), (mki, aI E 12 Ki), (mso, aI E 12 So), (mst, aI E 12 St), (mpr, aI E 12 Pr), (msh, aI E 2 Sh), (mwa, aI E 2 Wa), (mpu, aI E 2 Pu)]) (st2 := fun _ => [.int (kindW 380396 (F (teT F n t - 1)))]) (fun _ => rfl) (fun _ => rfl) (fun _ => rfl) (fun _ _ => ?_)
      refine V.topc (v := (-1)) (by unfold kindW; rw [if_neg (by decide), if_neg (by decide), if_neg (by decide), if_neg (fun h9 => absurd h9.1 (by decide))]) ?_
      refine V.istore (lv2 := [(4, .int (-1)), (3, .int (nI (frT F n t))), (2, .int (F (teT F n t - 1))), (1, .int 380396), (0, .ref o)]) dX11_clause_38 (by decide) rfl ?_
      refine V.iload dX11_clause_40 0 rfl ?_
      refine V.if_lt (tgt := 81) dX11_clause_42 (by decide) (fun _ => ?_) (fun hc => absurd (by decide) hc)
      refine V.iload_n dX11_clause_81 3 rfl ?_
      refine V.bipush (v := 108) dX11_clause_82 (by decide) ?_
      refine V.bipush (v := 97) dX11_clause_84 (by decide) ?_
      refine V.bipush (v := 110) dX11_clause_86 (by decide) ?_
      refine V.bipush (v := 101) dX11_clause_88 (by decide) ?_
      refine V.iconst (v := 0) dX11_clause_90 (by decide) ?_
      refine V.iconst (v := 0) dX11_clause_91 (by decide) ?_
      refine V.callSp (As := [.int 108, .int 97, .int 110, .int 101, .int 0, .int 0]) (rest := [.int 380396]) [] (c_M_wordOf E l L _ 108 97 110 101 0 0) rfl (by decide) mi_X11_wordOf w_825 w_826 rfl rfl (Nat.le_of_ble_eq_true rfl) ⟨by decide, by decide⟩ ⟨by decide, by decide⟩ dX11_clause_92 (vw2 := fun _ => [(o, ob 10 [.ref mw, .ref mk, .ref mt, .ref mr, .ref mki, .ref mso, .ref mst, .ref mpr, .ref msh, .ref mwa, .ref mpu, .ref mtx, .int (nI n), .int (nI (teT F n t)), .int (nI (frT F n t)), .int 0, .int (nI c), .int um, .ref mor, .ref mbo, .int mn, .ref tO, .ref tVi, .ref tSm, .int tm]), (mtx, aI E 160 MT), (mt, aI E 8 Ti), (mr, aI E 8 Re), (mki, aI E 12 Ki), (mso, aI E 12 So), (mst, aI E 12 St), (mpr, aI E 12 Pr), (msh, aI E 2 Sh), (mwa, aI E 2 Wa), (mpu, aI E 2 Pu)]) (st2 := fun _ => [.int (wofI 108 97 110 101 0 0), .int 380396]) (fun _ => rfl) (fun _ => rfl) (fun _ => rfl) (fun _ _ => ?_)
      refine V.topc (v := 237308) (by decide +kernel) ?_
      refine V.icmp_ne (tgt := 106) dX11_clause_95 (by decide) (fun _ => ?_) (fun hc => absurd hc (by decide))
      refine V.iload_n dX11_clause_106 3 rfl ?_
      refine V.bipush (v := 115) dX11_clause_107 (by decide) ?_
      refine V.bipush (v := 111) dX11_clause_109 (by decide) ?_
      refine V.bipush (v := 114) dX11_clause_111 (by decide) ?_
      refine V.bipush (v := 116) dX11_clause_113 (by decide) ?_
      refine V.iconst (v := 0) dX11_clause_115 (by decide) ?_
      refine V.iconst (v := 0) dX11_clause_116 (by decide) ?_
      refine V.callSp (As := [.int 115, .int 111, .int 114, .int 116, .int 0, .int 0]) (rest := [.int 380396]) [] (c_M_wordOf E l L _ 115 111 114 116 0 0) rfl (by decide) mi_X11_wordOf w_825 w_826 rfl rfl (Nat.le_of_ble_eq_true rfl) ⟨by decide, by decide⟩ ⟨by decide, by decide⟩ dX11_clause_117 (vw2 := fun _ => [(o, ob 10 [.ref mw, .ref mk, .ref mt, .ref mr, .ref mki, .ref mso, .ref mst, .ref mpr, .ref msh, .ref mwa, .ref mpu, .ref mtx, .int (nI n), .int (nI (teT F n t)), .int (nI (frT F n t)), .int 0, .int (nI c), .int um, .ref mor, .ref mbo, .int mn, .ref tO, .ref tVi, .ref tSm, .int tm]), (mtx, aI E 160 MT), (mt, aI E 8 Ti), (mr, aI E 8 Re), (mki, aI E 12 Ki), (mso, aI E 12 So), (mst, aI E 12 St), (mpr, aI E 12 Pr), (msh, aI E 2 Sh), (mwa, aI E 2 Wa), (mpu, aI E 2 Pu)]) (st2 := fun _ => [.int (wofI 115 111 114 116 0 0), .int 380396]) (fun _ => rfl) (fun _ => rfl) (fun _ => rfl) (fun _ _ => ?_)
      refine V.topc (v := 385418) (by decide +kernel) ?_
      refine V.icmp_ne (tgt := 130) dX11_clause_120 (by decide) (fun _ => ?_) (fun hc => absurd hc (by decide))
      refine V.iload_n dX11_clause_130 3 rfl ?_
      refine V.bipush (v := 119) dX11_clause_131 (by decide) ?_
      refine V.bipush (v := 97) dX11_clause_133 (by decide) ?_
      refine V.bipush (v := 110) dX11_clause_135 (by decide) ?_
      refine V.bipush (v := 116) dX11_clause_137 (by decide) ?_
      refine V.iconst (v := 0) dX11_clause_139 (by decide) ?_
      refine V.iconst (v := 0) dX11_clause_140 (by decide) ?_
      refine V.callSp (As := [.int 119, .int 97, .int 110, .int 116, .int 0, .int 0]) (rest := [.int 380396]) [] (c_M_wordOf E l L _ 119 97 110 116 0 0) rfl (by decide) mi_X11_wordOf w_825 w_826 rfl rfl (Nat.le_of_ble_eq_true rfl) ⟨by decide, by decide⟩ ⟨by decide, by decide⟩ dX11_clause_141 (vw2 := fun _ => [(o, ob 10 [.ref mw, .ref mk, .ref mt, .ref mr, .ref mki, .ref mso, .ref mst, .ref mpr, .ref msh, .ref mwa, .ref mpu, .ref mtx, .int (nI n), .int (nI (teT F n t)), .int (nI (frT F n t)), .int 0, .int (nI c), .int um, .ref mor, .ref mbo, .int mn, .ref tO, .ref tVi, .ref tSm, .int tm]), (mtx, aI E 160 MT), (mt, aI E 8 Ti), (mr, aI E 8 Re), (mki, aI E 12 Ki), (mso, aI E 12 So), (mst, aI E 12 St), (mpr, aI E 12 Pr), (msh, aI E 2 Sh), (mwa, aI E 2 Wa), (mpu, aI E 2 Pu)]) (st2 := fun _ => [.int (wofI 119 97 110 116 0 0), .int 380396]) (fun _ => rfl) (fun _ => rfl) (fun _ => rfl) (fun _ _ => ?_)
      refine V.topc (v := 453836) (by decide +kernel) ?_
      refine V.icmp_ne (tgt := 163) dX11_clause_144 (by decide) (fun _ => ?_) (fun hc => absurd hc (by decide))
      refine V.iload_n dX11_clause_163 3 rfl ?_
      refine V.bipush (v := 112) dX11_clause_164 (by decide) ?_
      refine V.bipush (v := 117) dX11_clause_166 (by decide) ?_
      refine V.bipush (v := 114) dX11_clause_168 (by decide) ?_
      refine V.bipush (v := 115) dX11_clause_170 (by decide) ?_
      refine V.bipush (v := 101) dX11_clause_172 (by decide) ?_
      refine V.iconst (v := 0) dX11_clause_174 (by decide) ?_
      refine V.callSp (As := [.int 112, .int 117, .int 114, .int 115, .int 101, .int 0]) (rest := [.int 380396]) [] (c_M_wordOf E l L _ 112 117 114 115 101 0) rfl (by decide) mi_X11_wordOf w_825 w_826 rfl rfl (Nat.le_of_ble_eq_true rfl) ⟨by decide, by decide⟩ ⟨by decide, by decide⟩ dX11_clause_175 (vw2 := fun _ => [(o, ob 10 [.ref mw, .ref mk, .ref mt, .ref mr, .ref mki, .ref mso, .ref mst, .ref mpr, .ref msh, .ref mwa, .ref mpu, .ref mtx, .int (nI n), .int (nI (teT F n t)), .int (nI (frT F n t)), .int 0, .int (nI c), .int um, .ref mor, .ref mbo, .int mn, .ref tO, .ref tVi, .ref tSm, .int tm]), (mtx, aI E 160 MT), (mt, aI E 8 Ti), (mr, aI E 8 Re), (mki, aI E 12 Ki), (mso, aI E 12 So), (mst, aI E 12 St), (mpr, aI E 12 Pr), (msh, aI E 2 Sh), (mwa, aI E 2 Wa), (mpu, aI E 2 Pu)]) (st2 := fun _ => [.int (wofI 112 117 114 115 101 0), .int 380396]) (fun _ => rfl) (fun _ => rfl) (fun _ => rfl) (fun _ _ => ?_)
      refine V.topc (v := 8930039) (by decide +kernel) ?_
      refine V.icmp_ne (tgt := 197) dX11_clause_178 (by decide) (fun _ => ?_) (fun hc => absurd hc (by decide))
      refine V.iload_n dX11_clause_197 3 rfl ?_
      refine V.bipush (v := 115) dX11_clause_198 (by decide) ?_
      refine V.bipush (v := 104) dX11_clause_200 (by decide) ?_
      refine V.bipush (v := 117) dX11_clause_202 (by decide) ?_
      refine V.bipush (v := 116) dX11_clause_204 (by decide) ?_
      refine V.iconst (v := 0) dX11_clause_206 (by decide) ?_
      refine V.iconst (v := 0) dX11_clause_207 (by decide) ?_
      refine V.callSp (As := [.int 115, .int 104, .int 117, .int 116, .int 0, .int 0]) (rest := [.int 380396]) [] (c_M_wordOf E l L _ 115 104 117 116 0 0) rfl (by decide) mi_X11_wordOf w_825 w_826 rfl rfl (Nat.le_of_ble_eq_true rfl) ⟨by decide, by decide⟩ ⟨by decide, by decide⟩ dX11_clause_208 (vw2 := fun _ => [(o, ob 10 [.ref mw, .ref mk, .ref mt, .ref mr, .ref mki, .ref mso, .ref mst, .ref mpr, .ref msh, .ref mwa, .ref mpu, .ref mtx, .int (nI n), .int (nI (teT F n t)), .int (nI (frT F n t)), .int 0, .int (nI c), .int um, .ref mor, .ref mbo, .int mn, .ref tO, .ref tVi, .ref tSm, .int tm]), (mtx, aI E 160 MT), (mt, aI E 8 Ti), (mr, aI E 8 Re), (mki, aI E 12 Ki), (mso, aI E 12 So), (mst, aI E 12 St), (mpr, aI E 12 Pr), (msh, aI E 2 Sh), (mwa, aI E 2 Wa), (mpu, aI E 2 Pu)]) (st2 := fun _ => [.int (wofI 115 104 117 116 0 0), .int 380396]) (fun _ => rfl) (fun _ => rfl) (fun _ => rfl) (fun _ _ => ?_)
      refine V.topc (v := 380396) (by decide +kernel) ?_
      refine V.icmp_ne (tgt := 224) dX11_clause_211 (by decide) (fun hc => absurd (by decide) hc) (fun _ => ?_)
      refine V.aload_n dX11_clause_214 4 rfl ?_
      refine V.getf 0 8 rfl fa_X11_35_10 rfl dX11_clause_215 ?_
      refine V.iconst (v := 1) dX11_clause_218 (by decide) ?_
      refine V.iconst (v := 0) dX11_clause_219 (by decide) ?_
      refine V.iast (vw2 := [(o, ob 10 [.ref mw, .ref mk, .ref mt, .ref mr, .ref mki, .ref mso, .ref mst, .ref mpr, .ref msh, .ref mwa, .ref mpu, .ref mtx, .int (nI n), .int (nI (teT F n t)), .int (nI (frT F n t)), .int 0, .int (nI c), .int um, .ref mor, .ref mbo, .int mn, .ref tO, .ref tVi, .ref tSm, .int tm]), (mtx, aI E 160 MT), (mt, aI E 8 Ti), (mr, aI E 8 Re), (mki, aI E 12 Ki), (mso, aI E 12 So), (mst, aI E 12 St), (mpr, aI E 12 Pr), (msh, aI E 2 (upd Sh 1 0)), (mwa, aI E 2 Wa), (mpu, aI E 2 Pu)]) 8 rfl (vin rfl) (rfl) dX11_clause_220 ?_
      refine V.goto (tgt := 234) dX11_clause_221 (by decide) ?_
      refine V.aload_n dX11_clause_234 4 rfl ?_
      refine V.dup dX11_clause_235 rfl ?_
      refine V.getf 0 16 rfl fa_X11_120_10 rfl dX11_clause_236 ?_
      refine V.iconst (v := 1) dX11_clause_239 (by decide) ?_
      refine V.iadd dX11_clause_240 ?_
      refine V.topc (v := (nI (c + 1))) (nI_1 c) ?_
      refine V.putf 0 16 (vw2 := [(o, ob 10 [.ref mw, .ref mk, .ref mt, .ref mr, .ref mki, .ref mso, .ref mst, .ref mpr, .ref msh, .ref mwa, .ref mpu, .ref mtx, .int (nI n), .int (nI (teT F n t)), .int (nI (frT F n t)), .int 0, .int (nI (c + 1)), .int um, .ref mor, .ref mbo, .int mn, .ref tO, .ref tVi, .ref tSm, .int tm]), (mtx, aI E 160 MT), (mt, aI E 8 Ti), (mr, aI E 8 Re), (mki, aI E 12 Ki), (mso, aI E 12 So), (mst, aI E 12 St), (mpr, aI E 12 Pr), (msh, aI E 2 (upd Sh 1 0)), (mwa, aI E 2 Wa), (mpu, aI E 2 Pu)]) rfl fp_X11_120_10 rfl rfl (Nat.le_of_ble_eq_true rfl) rfl dX11_clause_241 ?_
      exact V.vret rfl dX11_clause_244 (⟨((Ti, Re, Ki, So, St, Pr, (upd Sh 1 0), Wa, Pu), (nI (teT F n t)), (nI (frT F n t)), 0), rfl, rfl, rfl, clR_w (zs := []) hw0 hww (Nat.zero_le _) (tl_shut hH).1 ns_nil (fun _ _ => (tl_shut hH).2)⟩)
  · skip
    have hno := word_none ht (wordW_none hww)
    have hlwn := lwE_le (F := F) ht
    refine V.istore_n (lv2 := [(1, .int (wvW F (frT F n t) (lwE F n t - (frT F n t)))), (0, .ref o)]) dX11_clause_4 rfl (by decide) rfl ?_
    refine V.aload_n dX11_clause_5 1 rfl ?_
    refine V.getf 0 13 rfl fa_X11_76_10 rfl dX11_clause_6 ?_
    refine V.if_le (tgt := 26) dX11_clause_9 (by decide) (fun c5_9 => ?_) (fun c5_9 => ?_)
    · skip
      refine V.iconst (v := 0) dX11_clause_26 (by decide) ?_
      refine V.istore_n (lv2 := [(2, .int 0), (1, .int (wvW F (frT F n t) (lwE F n t - (frT F n t)))), (0, .ref o)]) dX11_clause_27 rfl (by decide) rfl ?_
      refine V.aload_n dX11_clause_28 2 rfl ?_
      refine V.getf 0 14 rfl fa_X11_79_10 rfl dX11_clause_29 ?_
      refine V.istore_n (lv2 := [(3, .int (nI (frT F n t))), (2, .int 0), (1, .int (wvW F (frT F n t) (lwE F n t - (frT F n t)))), (0, .ref o)]) dX11_clause_32 rfl (by decide) rfl ?_
      refine V.iload_n dX11_clause_33 2 rfl ?_
      refine V.iload_n dX11_clause_34 1 rfl ?_
      refine V.callSp (As := [.int (wvW F (frT F n t) (lwE F n t - (frT F n t))), .int 0]) (rest := []) [] (c_M_kindOf E l L _ ((wvW F (frT F n t) (lwE F n t - (frT F n t)))) 0) rfl (by decide) mi_X11_kindOf w_822 w_823 rfl rfl (Nat.le_of_ble_eq_true rfl) ⟨by decide, by decide⟩ ⟨by decide, by decide⟩ dX11_clause_35 (vw2 := fun _ => [(o, ob 10 [.ref mw, .ref mk, .ref mt, .ref mr, .ref mki, .ref mso, .ref mst, .ref mpr, .ref msh, .ref mwa, .ref mpu, .ref mtx, .int (nI n), .int (nI (lwE F n t)), .int (nI (frT F n t)), .int 0, .int (nI c), .int um, .ref mor, .ref mbo, .int mn, .ref tO, .ref tVi, .ref tSm, .int tm]), (mtx, aI E 160 MT), (mt, aI E 8 Ti), (mr, aI E 8 Re), (mki, aI E 12 Ki), (mso, aI E 12 So), (mst, aI E 12 St), (mpr, aI E 12 Pr), (msh, aI E 2 Sh), (mwa, aI E 2 Wa), (mpu, aI E 2 Pu)]) (st2 := fun _ => [.int (kindW (wvW F (frT F n t) (lwE F n t - (frT F n t))) 0)]) (fun _ => rfl) (fun _ => rfl) (fun _ => rfl) (fun _ _ => ?_)
      refine V.topc (v := (-1)) (by unfold kindW; rw [if_neg (show ¬ (wvW F (frT F n t) (lwE F n t - (frT F n t))) = 8740238 from hno.1 2 (by decide) (by decide)), if_neg (show ¬ (wvW F (frT F n t) (lwE F n t - (frT F n t))) = 271712 from hno.1 3 (by decide) (by decide)), if_neg (show ¬ (wvW F (frT F n t) (lwE F n t - (frT F n t))) = 51140948 from hno.1 4 (by decide) (by decide)), if_neg (fun h9 => absurd h9.2 (by decide))]) ?_
      refine V.istore (lv2 := [(4, .int (-1)), (3, .int (nI (frT F n t))), (2, .int 0), (1, .int (wvW F (frT F n t) (lwE F n t - (frT F n t)))), (0, .ref o)]) dX11_clause_38 (by decide) rfl ?_
      refine V.iload dX11_clause_40 0 rfl ?_
      refine V.if_lt (tgt := 81) dX11_clause_42 (by decide) (fun _ => ?_) (fun hc => absurd (by decide) hc)
      refine V.iload_n dX11_clause_81 3 rfl ?_
      refine V.bipush (v := 108) dX11_clause_82 (by decide) ?_
      refine V.bipush (v := 97) dX11_clause_84 (by decide) ?_
      refine V.bipush (v := 110) dX11_clause_86 (by decide) ?_
      refine V.bipush (v := 101) dX11_clause_88 (by decide) ?_
      refine V.iconst (v := 0) dX11_clause_90 (by decide) ?_
      refine V.iconst (v := 0) dX11_clause_91 (by decide) ?_
      refine V.callSp (As := [.int 108, .int 97, .int 110, .int 101, .int 0, .int 0]) (rest := [.int (wvW F (frT F n t) (lwE F n t - (frT F n t)))]) [] (c_M_wordOf E l L _ 108 97 110 101 0 0) rfl (by decide) mi_X11_wordOf w_825 w_826 rfl rfl (Nat.le_of_ble_eq_true rfl) ⟨by decide, by decide⟩ ⟨by decide, by decide⟩ dX11_clause_92 (vw2 := fun _ => [(o, ob 10 [.ref mw, .ref mk, .ref mt, .ref mr, .ref mki, .ref mso, .ref mst, .ref mpr, .ref msh, .ref mwa, .ref mpu, .ref mtx, .int (nI n), .int (nI (lwE F n t)), .int (nI (frT F n t)), .int 0, .int (nI c), .int um, .ref mor, .ref mbo, .int mn, .ref tO, .ref tVi, .ref tSm, .int tm]), (mtx, aI E 160 MT), (mt, aI E 8 Ti), (mr, aI E 8 Re), (mki, aI E 12 Ki), (mso, aI E 12 So), (mst, aI E 12 St), (mpr, aI E 12 Pr), (msh, aI E 2 Sh), (mwa, aI E 2 Wa), (mpu, aI E 2 Pu)]) (st2 := fun _ => [.int (wofI 108 97 110 101 0 0), .int (wvW F (frT F n t) (lwE F n t - (frT F n t)))]) (fun _ => rfl) (fun _ => rfl) (fun _ => rfl) (fun _ _ => ?_)
      refine V.topc (v := 237308) (by decide +kernel) ?_
      refine V.icmp_ne (tgt := 106) dX11_clause_95 (by decide) (fun _ => ?_) (fun hc => absurd hc (hno.1 0 (by decide) (by decide)))
      refine V.iload_n dX11_clause_106 3 rfl ?_
      refine V.bipush (v := 115) dX11_clause_107 (by decide) ?_
      refine V.bipush (v := 111) dX11_clause_109 (by decide) ?_
      refine V.bipush (v := 114) dX11_clause_111 (by decide) ?_
      refine V.bipush (v := 116) dX11_clause_113 (by decide) ?_
      refine V.iconst (v := 0) dX11_clause_115 (by decide) ?_
      refine V.iconst (v := 0) dX11_clause_116 (by decide) ?_
      refine V.callSp (As := [.int 115, .int 111, .int 114, .int 116, .int 0, .int 0]) (rest := [.int (wvW F (frT F n t) (lwE F n t - (frT F n t)))]) [] (c_M_wordOf E l L _ 115 111 114 116 0 0) rfl (by decide) mi_X11_wordOf w_825 w_826 rfl rfl (Nat.le_of_ble_eq_true rfl) ⟨by decide, by decide⟩ ⟨by decide, by decide⟩ dX11_clause_117 (vw2 := fun _ => [(o, ob 10 [.ref mw, .ref mk, .ref mt, .ref mr, .ref mki, .ref mso, .ref mst, .ref mpr, .ref msh, .ref mwa, .ref mpu, .ref mtx, .int (nI n), .int (nI (lwE F n t)), .int (nI (frT F n t)), .int 0, .int (nI c), .int um, .ref mor, .ref mbo, .int mn, .ref tO, .ref tVi, .ref tSm, .int tm]), (mtx, aI E 160 MT), (mt, aI E 8 Ti), (mr, aI E 8 Re), (mki, aI E 12 Ki), (mso, aI E 12 So), (mst, aI E 12 St), (mpr, aI E 12 Pr), (msh, aI E 2 Sh), (mwa, aI E 2 Wa), (mpu, aI E 2 Pu)]) (st2 := fun _ => [.int (wofI 115 111 114 116 0 0), .int (wvW F (frT F n t) (lwE F n t - (frT F n t)))]) (fun _ => rfl) (fun _ => rfl) (fun _ => rfl) (fun _ _ => ?_)
      refine V.topc (v := 385418) (by decide +kernel) ?_
      refine V.icmp_ne (tgt := 130) dX11_clause_120 (by decide) (fun _ => ?_) (fun hc => absurd hc (hno.1 1 (by decide) (by decide)))
      refine V.iload_n dX11_clause_130 3 rfl ?_
      refine V.bipush (v := 119) dX11_clause_131 (by decide) ?_
      refine V.bipush (v := 97) dX11_clause_133 (by decide) ?_
      refine V.bipush (v := 110) dX11_clause_135 (by decide) ?_
      refine V.bipush (v := 116) dX11_clause_137 (by decide) ?_
      refine V.iconst (v := 0) dX11_clause_139 (by decide) ?_
      refine V.iconst (v := 0) dX11_clause_140 (by decide) ?_
      refine V.callSp (As := [.int 119, .int 97, .int 110, .int 116, .int 0, .int 0]) (rest := [.int (wvW F (frT F n t) (lwE F n t - (frT F n t)))]) [] (c_M_wordOf E l L _ 119 97 110 116 0 0) rfl (by decide) mi_X11_wordOf w_825 w_826 rfl rfl (Nat.le_of_ble_eq_true rfl) ⟨by decide, by decide⟩ ⟨by decide, by decide⟩ dX11_clause_141 (vw2 := fun _ => [(o, ob 10 [.ref mw, .ref mk, .ref mt, .ref mr, .ref mki, .ref mso, .ref mst, .ref mpr, .ref msh, .ref mwa, .ref mpu, .ref mtx, .int (nI n), .int (nI (lwE F n t)), .int (nI (frT F n t)), .int 0, .int (nI c), .int um, .ref mor, .ref mbo, .int mn, .ref tO, .ref tVi, .ref tSm, .int tm]), (mtx, aI E 160 MT), (mt, aI E 8 Ti), (mr, aI E 8 Re), (mki, aI E 12 Ki), (mso, aI E 12 So), (mst, aI E 12 St), (mpr, aI E 12 Pr), (msh, aI E 2 Sh), (mwa, aI E 2 Wa), (mpu, aI E 2 Pu)]) (st2 := fun _ => [.int (wofI 119 97 110 116 0 0), .int (wvW F (frT F n t) (lwE F n t - (frT F n t)))]) (fun _ => rfl) (fun _ => rfl) (fun _ => rfl) (fun _ _ => ?_)
      refine V.topc (v := 453836) (by decide +kernel) ?_
      refine V.icmp_ne (tgt := 163) dX11_clause_144 (by decide) (fun _ => ?_) (fun hc => absurd hc (hno.1 6 (by decide) (by decide)))
      refine V.iload_n dX11_clause_163 3 rfl ?_
      refine V.bipush (v := 112) dX11_clause_164 (by decide) ?_
      refine V.bipush (v := 117) dX11_clause_166 (by decide) ?_
      refine V.bipush (v := 114) dX11_clause_168 (by decide) ?_
      refine V.bipush (v := 115) dX11_clause_170 (by decide) ?_
      refine V.bipush (v := 101) dX11_clause_172 (by decide) ?_
      refine V.iconst (v := 0) dX11_clause_174 (by decide) ?_
      refine V.callSp (As := [.int 112, .int 117, .int 114, .int 115, .int 101, .int 0]) (rest := [.int (wvW F (frT F n t) (lwE F n t - (frT F n t)))]) [] (c_M_wordOf E l L _ 112 117 114 115 101 0) rfl (by decide) mi_X11_wordOf w_825 w_826 rfl rfl (Nat.le_of_ble_eq_true rfl) ⟨by decide, by decide⟩ ⟨by decide, by decide⟩ dX11_clause_175 (vw2 := fun _ => [(o, ob 10 [.ref mw, .ref mk, .ref mt, .ref mr, .ref mki, .ref mso, .ref mst, .ref mpr, .ref msh, .ref mwa, .ref mpu, .ref mtx, .int (nI n), .int (nI (lwE F n t)), .int (nI (frT F n t)), .int 0, .int (nI c), .int um, .ref mor, .ref mbo, .int mn, .ref tO, .ref tVi, .ref tSm, .int tm]), (mtx, aI E 160 MT), (mt, aI E 8 Ti), (mr, aI E 8 Re), (mki, aI E 12 Ki), (mso, aI E 12 So), (mst, aI E 12 St), (mpr, aI E 12 Pr), (msh, aI E 2 Sh), (mwa, aI E 2 Wa), (mpu, aI E 2 Pu)]) (st2 := fun _ => [.int (wofI 112 117 114 115 101 0), .int (wvW F (frT F n t) (lwE F n t - (frT F n t)))]) (fun _ => rfl) (fun _ => rfl) (fun _ => rfl) (fun _ _ => ?_)
      refine V.topc (v := 8930039) (by decide +kernel) ?_
      refine V.icmp_ne (tgt := 197) dX11_clause_178 (by decide) (fun _ => ?_) (fun hc => absurd hc (hno.1 7 (by decide) (by decide)))
      refine V.iload_n dX11_clause_197 3 rfl ?_
      refine V.bipush (v := 115) dX11_clause_198 (by decide) ?_
      refine V.bipush (v := 104) dX11_clause_200 (by decide) ?_
      refine V.bipush (v := 117) dX11_clause_202 (by decide) ?_
      refine V.bipush (v := 116) dX11_clause_204 (by decide) ?_
      refine V.iconst (v := 0) dX11_clause_206 (by decide) ?_
      refine V.iconst (v := 0) dX11_clause_207 (by decide) ?_
      refine V.callSp (As := [.int 115, .int 104, .int 117, .int 116, .int 0, .int 0]) (rest := [.int (wvW F (frT F n t) (lwE F n t - (frT F n t)))]) [] (c_M_wordOf E l L _ 115 104 117 116 0 0) rfl (by decide) mi_X11_wordOf w_825 w_826 rfl rfl (Nat.le_of_ble_eq_true rfl) ⟨by decide, by decide⟩ ⟨by decide, by decide⟩ dX11_clause_208 (vw2 := fun _ => [(o, ob 10 [.ref mw, .ref mk, .ref mt, .ref mr, .ref mki, .ref mso, .ref mst, .ref mpr, .ref msh, .ref mwa, .ref mpu, .ref mtx, .int (nI n), .int (nI (lwE F n t)), .int (nI (frT F n t)), .int 0, .int (nI c), .int um, .ref mor, .ref mbo, .int mn, .ref tO, .ref tVi, .ref tSm, .int tm]), (mtx, aI E 160 MT), (mt, aI E 8 Ti), (mr, aI E 8 Re), (mki, aI E 12 Ki), (mso, aI E 12 So), (mst, aI E 12 St), (mpr, aI E 12 Pr), (msh, aI E 2 Sh), (mwa, aI E 2 Wa), (mpu, aI E 2 Pu)]) (st2 := fun _ => [.int (wofI 115 104 117 116 0 0), .int (wvW F (frT F n t) (lwE F n t - (frT F n t)))]) (fun _ => rfl) (fun _ => rfl) (fun _ => rfl) (fun _ _ => ?_)
      refine V.topc (v := 380396) (by decide +kernel) ?_
      refine V.icmp_ne (tgt := 224) dX11_clause_211 (by decide) (fun _ => ?_) (fun hc => absurd hc (hno.1 8 (by decide) (by decide)))
      refine V.aload_n dX11_clause_224 4 rfl ?_
      refine V.iconst (v := 1) dX11_clause_225 (by decide) ?_
      refine V.putf 0 15 (vw2 := [(o, ob 10 [.ref mw, .ref mk, .ref mt, .ref mr, .ref mki, .ref mso, .ref mst, .ref mpr, .ref msh, .ref mwa, .ref mpu, .ref mtx, .int (nI n), .int (nI (lwE F n t)), .int (nI (frT F n t)), .int 1, .int (nI c), .int um, .ref mor, .ref mbo, .int mn, .ref tO, .ref tVi, .ref tSm, .int tm]), (mtx, aI E 160 MT), (mt, aI E 8 Ti), (mr, aI E 8 Re), (mki, aI E 12 Ki), (mso, aI E 12 So), (mst, aI E 12 St), (mpr, aI E 12 Pr), (msh, aI E 2 Sh), (mwa, aI E 2 Wa), (mpu, aI E 2 Pu)]) rfl fp_X11_82_10 rfl rfl (Nat.le_of_ble_eq_true rfl) rfl dX11_clause_226 ?_
      refine V.aload_n dX11_clause_229 4 rfl ?_
      refine V.iload_n dX11_clause_230 1 rfl ?_
      refine V.putf 0 14 (vw2 := [(o, ob 10 [.ref mw, .ref mk, .ref mt, .ref mr, .ref mki, .ref mso, .ref mst, .ref mpr, .ref msh, .ref mwa, .ref mpu, .ref mtx, .int (nI n), .int (nI (lwE F n t)), .int (nI (frT F n t)), .int 1, .int (nI c), .int um, .ref mor, .ref mbo, .int mn, .ref tO, .ref tVi, .ref tSm, .int tm]), (mtx, aI E 160 MT), (mt, aI E 8 Ti), (mr, aI E 8 Re), (mki, aI E 12 Ki), (mso, aI E 12 So), (mst, aI E 12 St), (mpr, aI E 12 Pr), (msh, aI E 2 Sh), (mwa, aI E 2 Wa), (mpu, aI E 2 Pu)]) rfl fp_X11_79_10 rfl rfl (Nat.le_of_ble_eq_true rfl) rfl dX11_clause_231 ?_
      refine V.aload_n dX11_clause_234 4 rfl ?_
      refine V.dup dX11_clause_235 rfl ?_
      refine V.getf 0 16 rfl fa_X11_120_10 rfl dX11_clause_236 ?_
      refine V.iconst (v := 1) dX11_clause_239 (by decide) ?_
      refine V.iadd dX11_clause_240 ?_
      refine V.topc (v := (nI (c + 1))) (nI_1 c) ?_
      refine V.putf 0 16 (vw2 := [(o, ob 10 [.ref mw, .ref mk, .ref mt, .ref mr, .ref mki, .ref mso, .ref mst, .ref mpr, .ref msh, .ref mwa, .ref mpu, .ref mtx, .int (nI n), .int (nI (lwE F n t)), .int (nI (frT F n t)), .int 1, .int (nI (c + 1)), .int um, .ref mor, .ref mbo, .int mn, .ref tO, .ref tVi, .ref tSm, .int tm]), (mtx, aI E 160 MT), (mt, aI E 8 Ti), (mr, aI E 8 Re), (mki, aI E 12 Ki), (mso, aI E 12 So), (mst, aI E 12 St), (mpr, aI E 12 Pr), (msh, aI E 2 Sh), (mwa, aI E 2 Wa), (mpu, aI E 2 Pu)]) rfl fp_X11_120_10 rfl rfl (Nat.le_of_ble_eq_true rfl) rfl dX11_clause_241 ?_
      exact V.vret rfl dX11_clause_244 (⟨((Ti, Re, Ki, So, St, Pr, Sh, Wa, Pu), (nI (lwE F n t)), (nI (frT F n t)), 1), rfl, rfl, rfl, clR_none hww (MH1.rf _)⟩)
    · skip
      have hpos : 0 < lwE F n t := Nat.pos_of_ne_zero (fun h9 => c5_9 (by rw [h9]; exact Int32.le_refl _))
      refine V.aload_n dX11_clause_12 1 rfl ?_
      refine V.getf 0 11 rfl fa_X11_44_10 rfl dX11_clause_13 ?_
      refine V.aload_n dX11_clause_16 1 rfl ?_
      refine V.getf 0 13 rfl fa_X11_76_10 rfl dX11_clause_17 ?_
      refine V.iconst (v := 1) dX11_clause_20 (by decide) ?_
      refine V.isub dX11_clause_21 ?_
      refine V.topc (v := (nI (lwE F n t - 1))) (nI_subN (a := 1) hpos) ?_
      refine V.iald 1 rfl (vinI (by omega)) dX11_clause_22 ?_
      refine V.topc (v := (F (lwE F n t - 1))) (by rw [nI_clamp (by omega)]; exact hT _ (by omega)) ?_
      refine V.goto (tgt := 27) dX11_clause_23 (by decide) ?_
      refine V.istore_n (lv2 := [(2, .int (F (lwE F n t - 1))), (1, .int (wvW F (frT F n t) (lwE F n t - (frT F n t)))), (0, .ref o)]) dX11_clause_27 rfl (by decide) rfl ?_
      refine V.aload_n dX11_clause_28 2 rfl ?_
      refine V.getf 0 14 rfl fa_X11_79_10 rfl dX11_clause_29 ?_
      refine V.istore_n (lv2 := [(3, .int (nI (frT F n t))), (2, .int (F (lwE F n t - 1))), (1, .int (wvW F (frT F n t) (lwE F n t - (frT F n t)))), (0, .ref o)]) dX11_clause_32 rfl (by decide) rfl ?_
      refine V.iload_n dX11_clause_33 2 rfl ?_
      refine V.iload_n dX11_clause_34 1 rfl ?_
      refine V.callSp (As := [.int (wvW F (frT F n t) (lwE F n t - (frT F n t))), .int (F (lwE F n t - 1))]) (rest := []) [] (c_M_kindOf E l L _ ((wvW F (frT F n t) (lwE F n t - (frT F n t)))) ((F (lwE F n t - 1)))) rfl (by decide) mi_X11_kindOf w_822 w_823 rfl rfl (Nat.le_of_ble_eq_true rfl) ⟨by decide, by decide⟩ ⟨by decide, by decide⟩ dX11_clause_35 (vw2 := fun _ => [(o, ob 10 [.ref mw, .ref mk, .ref mt, .ref mr, .ref mki, .ref mso, .ref mst, .ref mpr, .ref msh, .ref mwa, .ref mpu, .ref mtx, .int (nI n), .int (nI (lwE F n t)), .int (nI (frT F n t)), .int 0, .int (nI c), .int um, .ref mor, .ref mbo, .int mn, .ref tO, .ref tVi, .ref tSm, .int tm]), (mtx, aI E 160 MT), (mt, aI E 8 Ti), (mr, aI E 8 Re), (mki, aI E 12 Ki), (mso, aI E 12 So), (mst, aI E 12 St), (mpr, aI E 12 Pr), (msh, aI E 2 Sh), (mwa, aI E 2 Wa), (mpu, aI E 2 Pu)]) (st2 := fun _ => [.int (kindW (wvW F (frT F n t) (lwE F n t - (frT F n t))) (F (lwE F n t - 1)))]) (fun _ => rfl) (fun _ => rfl) (fun _ => rfl) (fun _ _ => ?_)
      refine V.topc (v := (-1)) (by unfold kindW; rw [if_neg (show ¬ (wvW F (frT F n t) (lwE F n t - (frT F n t))) = 8740238 from hno.1 2 (by decide) (by decide)), if_neg (show ¬ (wvW F (frT F n t) (lwE F n t - (frT F n t))) = 271712 from hno.1 3 (by decide) (by decide)), if_neg (show ¬ (wvW F (frT F n t) (lwE F n t - (frT F n t))) = 51140948 from hno.1 4 (by decide) (by decide)), if_neg (fun h9 => hno.2 h9.1 h9.2)]) ?_
      refine V.istore (lv2 := [(4, .int (-1)), (3, .int (nI (frT F n t))), (2, .int (F (lwE F n t - 1))), (1, .int (wvW F (frT F n t) (lwE F n t - (frT F n t)))), (0, .ref o)]) dX11_clause_38 (by decide) rfl ?_
      refine V.iload dX11_clause_40 0 rfl ?_
      refine V.if_lt (tgt := 81) dX11_clause_42 (by decide) (fun _ => ?_) (fun hc => absurd (by decide) hc)
      refine V.iload_n dX11_clause_81 3 rfl ?_
      refine V.bipush (v := 108) dX11_clause_82 (by decide) ?_
      refine V.bipush (v := 97) dX11_clause_84 (by decide) ?_
      refine V.bipush (v := 110) dX11_clause_86 (by decide) ?_
      refine V.bipush (v := 101) dX11_clause_88 (by decide) ?_
      refine V.iconst (v := 0) dX11_clause_90 (by decide) ?_
      refine V.iconst (v := 0) dX11_clause_91 (by decide) ?_
      refine V.callSp (As := [.int 108, .int 97, .int 110, .int 101, .int 0, .int 0]) (rest := [.int (wvW F (frT F n t) (lwE F n t - (frT F n t)))]) [] (c_M_wordOf E l L _ 108 97 110 101 0 0) rfl (by decide) mi_X11_wordOf w_825 w_826 rfl rfl (Nat.le_of_ble_eq_true rfl) ⟨by decide, by decide⟩ ⟨by decide, by decide⟩ dX11_clause_92 (vw2 := fun _ => [(o, ob 10 [.ref mw, .ref mk, .ref mt, .ref mr, .ref mki, .ref mso, .ref mst, .ref mpr, .ref msh, .ref mwa, .ref mpu, .ref mtx, .int (nI n), .int (nI (lwE F n t)), .int (nI (frT F n t)), .int 0, .int (nI c), .int um, .ref mor, .ref mbo, .int mn, .ref tO, .ref tVi, .ref tSm, .int tm]), (mtx, aI E 160 MT), (mt, aI E 8 Ti), (mr, aI E 8 Re), (mki, aI E 12 Ki), (mso, aI E 12 So), (mst, aI E 12 St), (mpr, aI E 12 Pr), (msh, aI E 2 Sh), (mwa, aI E 2 Wa), (mpu, aI E 2 Pu)]) (st2 := fun _ => [.int (wofI 108 97 110 101 0 0), .int (wvW F (frT F n t) (lwE F n t - (frT F n t)))]) (fun _ => rfl) (fun _ => rfl) (fun _ => rfl) (fun _ _ => ?_)
      refine V.topc (v := 237308) (by decide +kernel) ?_
      refine V.icmp_ne (tgt := 106) dX11_clause_95 (by decide) (fun _ => ?_) (fun hc => absurd hc (hno.1 0 (by decide) (by decide)))
      refine V.iload_n dX11_clause_106 3 rfl ?_
      refine V.bipush (v := 115) dX11_clause_107 (by decide) ?_
      refine V.bipush (v := 111) dX11_clause_109 (by decide) ?_
      refine V.bipush (v := 114) dX11_clause_111 (by decide) ?_
      refine V.bipush (v := 116) dX11_clause_113 (by decide) ?_
      refine V.iconst (v := 0) dX11_clause_115 (by decide) ?_
      refine V.iconst (v := 0) dX11_clause_116 (by decide) ?_
      refine V.callSp (As := [.int 115, .int 111, .int 114, .int 116, .int 0, .int 0]) (rest := [.int (wvW F (frT F n t) (lwE F n t - (frT F n t)))]) [] (c_M_wordOf E l L _ 115 111 114 116 0 0) rfl (by decide) mi_X11_wordOf w_825 w_826 rfl rfl (Nat.le_of_ble_eq_true rfl) ⟨by decide, by decide⟩ ⟨by decide, by decide⟩ dX11_clause_117 (vw2 := fun _ => [(o, ob 10 [.ref mw, .ref mk, .ref mt, .ref mr, .ref mki, .ref mso, .ref mst, .ref mpr, .ref msh, .ref mwa, .ref mpu, .ref mtx, .int (nI n), .int (nI (lwE F n t)), .int (nI (frT F n t)), .int 0, .int (nI c), .int um, .ref mor, .ref mbo, .int mn, .ref tO, .ref tVi, .ref tSm, .int tm]), (mtx, aI E 160 MT), (mt, aI E 8 Ti), (mr, aI E 8 Re), (mki, aI E 12 Ki), (mso, aI E 12 So), (mst, aI E 12 St), (mpr, aI E 12 Pr), (msh, aI E 2 Sh), (mwa, aI E 2 Wa), (mpu, aI E 2 Pu)]) (st2 := fun _ => [.int (wofI 115 111 114 116 0 0), .int (wvW F (frT F n t) (lwE F n t - (frT F n t)))]) (fun _ => rfl) (fun _ => rfl) (fun _ => rfl) (fun _ _ => ?_)
      refine V.topc (v := 385418) (by decide +kernel) ?_
      refine V.icmp_ne (tgt := 130) dX11_clause_120 (by decide) (fun _ => ?_) (fun hc => absurd hc (hno.1 1 (by decide) (by decide)))
      refine V.iload_n dX11_clause_130 3 rfl ?_
      refine V.bipush (v := 119) dX11_clause_131 (by decide) ?_
      refine V.bipush (v := 97) dX11_clause_133 (by decide) ?_
      refine V.bipush (v := 110) dX11_clause_135 (by decide) ?_
      refine V.bipush (v := 116) dX11_clause_137 (by decide) ?_
      refine V.iconst (v := 0) dX11_clause_139 (by decide) ?_
      refine V.iconst (v := 0) dX11_clause_140 (by decide) ?_
      refine V.callSp (As := [.int 119, .int 97, .int 110, .int 116, .int 0, .int 0]) (rest := [.int (wvW F (frT F n t) (lwE F n t - (frT F n t)))]) [] (c_M_wordOf E l L _ 119 97 110 116 0 0) rfl (by decide) mi_X11_wordOf w_825 w_826 rfl rfl (Nat.le_of_ble_eq_true rfl) ⟨by decide, by decide⟩ ⟨by decide, by decide⟩ dX11_clause_141 (vw2 := fun _ => [(o, ob 10 [.ref mw, .ref mk, .ref mt, .ref mr, .ref mki, .ref mso, .ref mst, .ref mpr, .ref msh, .ref mwa, .ref mpu, .ref mtx, .int (nI n), .int (nI (lwE F n t)), .int (nI (frT F n t)), .int 0, .int (nI c), .int um, .ref mor, .ref mbo, .int mn, .ref tO, .ref tVi, .ref tSm, .int tm]), (mtx, aI E 160 MT), (mt, aI E 8 Ti), (mr, aI E 8 Re), (mki, aI E 12 Ki), (mso, aI E 12 So), (mst, aI E 12 St), (mpr, aI E 12 Pr), (msh, aI E 2 Sh), (mwa, aI E 2 Wa), (mpu, aI E 2 Pu)]) (st2 := fun _ => [.int (wofI 119 97 110 116 0 0), .int (wvW F (frT F n t) (lwE F n t - (frT F n t)))]) (fun _ => rfl) (fun _ => rfl) (fun _ => rfl) (fun _ _ => ?_)
      refine V.topc (v := 453836) (by decide +kernel) ?_
      refine V.icmp_ne (tgt := 163) dX11_clause_144 (by decide) (fun _ => ?_) (fun hc => absurd hc (hno.1 6 (by decide) (by decide)))
      refine V.iload_n dX11_clause_163 3 rfl ?_
      refine V.bipush (v := 112) dX11_clause_164 (by decide) ?_
      refine V.bipush (v := 117) dX11_clause_166 (by decide) ?_
      refine V.bipush (v := 114) dX11_clause_168 (by decide) ?_
      refine V.bipush (v := 115) dX11_clause_170 (by decide) ?_
      refine V.bipush (v := 101) dX11_clause_172 (by decide) ?_
      refine V.iconst (v := 0) dX11_clause_174 (by decide) ?_
      refine V.callSp (As := [.int 112, .int 117, .int 114, .int 115, .int 101, .int 0]) (rest := [.int (wvW F (frT F n t) (lwE F n t - (frT F n t)))]) [] (c_M_wordOf E l L _ 112 117 114 115 101 0) rfl (by decide) mi_X11_wordOf w_825 w_826 rfl rfl (Nat.le_of_ble_eq_true rfl) ⟨by decide, by decide⟩ ⟨by decide, by decide⟩ dX11_clause_175 (vw2 := fun _ => [(o, ob 10 [.ref mw, .ref mk, .ref mt, .ref mr, .ref mki, .ref mso, .ref mst, .ref mpr, .ref msh, .ref mwa, .ref mpu, .ref mtx, .int (nI n), .int (nI (lwE F n t)), .int (nI (frT F n t)), .int 0, .int (nI c), .int um, .ref mor, .ref mbo, .int mn, .ref tO, .ref tVi, .ref tSm, .int tm]), (mtx, aI E 160 MT), (mt, aI E 8 Ti), (mr, aI E 8 Re), (mki, aI E 12 Ki), (mso, aI E 12 So), (mst, aI E 12 St), (mpr, aI E 12 Pr), (msh, aI E 2 Sh), (mwa, aI E 2 Wa), (mpu, aI E 2 Pu)]) (st2 := fun _ => [.int (wofI 112 117 114 115 101 0), .int (wvW F (frT F n t) (lwE F n t - (frT F n t)))]) (fun _ => rfl) (fun _ => rfl) (fun _ => rfl) (fun _ _ => ?_)
      refine V.topc (v := 8930039) (by decide +kernel) ?_
      refine V.icmp_ne (tgt := 197) dX11_clause_178 (by decide) (fun _ => ?_) (fun hc => absurd hc (hno.1 7 (by decide) (by decide)))
      refine V.iload_n dX11_clause_197 3 rfl ?_
      refine V.bipush (v := 115) dX11_clause_198 (by decide) ?_
      refine V.bipush (v := 104) dX11_clause_200 (by decide) ?_
      refine V.bipush (v := 117) dX11_clause_202 (by decide) ?_
      refine V.bipush (v := 116) dX11_clause_204 (by decide) ?_
      refine V.iconst (v := 0) dX11_clause_206 (by decide) ?_
      refine V.iconst (v := 0) dX11_clause_207 (by decide) ?_
      refine V.callSp (As := [.int 115, .int 104, .int 117, .int 116, .int 0, .int 0]) (rest := [.int (wvW F (frT F n t) (lwE F n t - (frT F n t)))]) [] (c_M_wordOf E l L _ 115 104 117 116 0 0) rfl (by decide) mi_X11_wordOf w_825 w_826 rfl rfl (Nat.le_of_ble_eq_true rfl) ⟨by decide, by decide⟩ ⟨by decide, by decide⟩ dX11_clause_208 (vw2 := fun _ => [(o, ob 10 [.ref mw, .ref mk, .ref mt, .ref mr, .ref mki, .ref mso, .ref mst, .ref mpr, .ref msh, .ref mwa, .ref mpu, .ref mtx, .int (nI n), .int (nI (lwE F n t)), .int (nI (frT F n t)), .int 0, .int (nI c), .int um, .ref mor, .ref mbo, .int mn, .ref tO, .ref tVi, .ref tSm, .int tm]), (mtx, aI E 160 MT), (mt, aI E 8 Ti), (mr, aI E 8 Re), (mki, aI E 12 Ki), (mso, aI E 12 So), (mst, aI E 12 St), (mpr, aI E 12 Pr), (msh, aI E 2 Sh), (mwa, aI E 2 Wa), (mpu, aI E 2 Pu)]) (st2 := fun _ => [.int (wofI 115 104 117 116 0 0), .int (wvW F (frT F n t) (lwE F n t - (frT F n t)))]) (fun _ => rfl) (fun _ => rfl) (fun _ => rfl) (fun _ _ => ?_)
      refine V.topc (v := 380396) (by decide +kernel) ?_
      refine V.icmp_ne (tgt := 224) dX11_clause_211 (by decide) (fun _ => ?_) (fun hc => absurd hc (hno.1 8 (by decide) (by decide)))
      refine V.aload_n dX11_clause_224 4 rfl ?_
      refine V.iconst (v := 1) dX11_clause_225 (by decide) ?_
      refine V.putf 0 15 (vw2 := [(o, ob 10 [.ref mw, .ref mk, .ref mt, .ref mr, .ref mki, .ref mso, .ref mst, .ref mpr, .ref msh, .ref mwa, .ref mpu, .ref mtx, .int (nI n), .int (nI (lwE F n t)), .int (nI (frT F n t)), .int 1, .int (nI c), .int um, .ref mor, .ref mbo, .int mn, .ref tO, .ref tVi, .ref tSm, .int tm]), (mtx, aI E 160 MT), (mt, aI E 8 Ti), (mr, aI E 8 Re), (mki, aI E 12 Ki), (mso, aI E 12 So), (mst, aI E 12 St), (mpr, aI E 12 Pr), (msh, aI E 2 Sh), (mwa, aI E 2 Wa), (mpu, aI E 2 Pu)]) rfl fp_X11_82_10 rfl rfl (Nat.le_of_ble_eq_true rfl) rfl dX11_clause_226 ?_
      refine V.aload_n dX11_clause_229 4 rfl ?_
      refine V.iload_n dX11_clause_230 1 rfl ?_
      refine V.putf 0 14 (vw2 := [(o, ob 10 [.ref mw, .ref mk, .ref mt, .ref mr, .ref mki, .ref mso, .ref mst, .ref mpr, .ref msh, .ref mwa, .ref mpu, .ref mtx, .int (nI n), .int (nI (lwE F n t)), .int (nI (frT F n t)), .int 1, .int (nI c), .int um, .ref mor, .ref mbo, .int mn, .ref tO, .ref tVi, .ref tSm, .int tm]), (mtx, aI E 160 MT), (mt, aI E 8 Ti), (mr, aI E 8 Re), (mki, aI E 12 Ki), (mso, aI E 12 So), (mst, aI E 12 St), (mpr, aI E 12 Pr), (msh, aI E 2 Sh), (mwa, aI E 2 Wa), (mpu, aI E 2 Pu)]) rfl fp_X11_79_10 rfl rfl (Nat.le_of_ble_eq_true rfl) rfl dX11_clause_231 ?_
      refine V.aload_n dX11_clause_234 4 rfl ?_
      refine V.dup dX11_clause_235 rfl ?_
      refine V.getf 0 16 rfl fa_X11_120_10 rfl dX11_clause_236 ?_
      refine V.iconst (v := 1) dX11_clause_239 (by decide) ?_
      refine V.iadd dX11_clause_240 ?_
      refine V.topc (v := (nI (c + 1))) (nI_1 c) ?_
      refine V.putf 0 16 (vw2 := [(o, ob 10 [.ref mw, .ref mk, .ref mt, .ref mr, .ref mki, .ref mso, .ref mst, .ref mpr, .ref msh, .ref mwa, .ref mpu, .ref mtx, .int (nI n), .int (nI (lwE F n t)), .int (nI (frT F n t)), .int 1, .int (nI (c + 1)), .int um, .ref mor, .ref mbo, .int mn, .ref tO, .ref tVi, .ref tSm, .int tm]), (mtx, aI E 160 MT), (mt, aI E 8 Ti), (mr, aI E 8 Re), (mki, aI E 12 Ki), (mso, aI E 12 So), (mst, aI E 12 St), (mpr, aI E 12 Pr), (msh, aI E 2 Sh), (mwa, aI E 2 Wa), (mpu, aI E 2 Pu)]) rfl fp_X11_120_10 rfl rfl (Nat.le_of_ble_eq_true rfl) rfl dX11_clause_241 ?_
      exact V.vret rfl dX11_clause_244 (⟨((Ti, Re, Ki, So, St, Pr, Sh, Wa, Pu), (nI (lwE F n t)), (nI (frT F n t)), 1), rfl, rfl, rfl, clR_none hww (MH1.rf _)⟩)
