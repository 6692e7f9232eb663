set_option maxHeartbeats 4000000 in
set_option maxRecDepth 100000 in
theorem c_M_takeW (E : vEnv) (l : Launch) (L : List Nat) (h : Nat → va_E) (o : Nat) (mw : Nat) (mk : Nat) (mt : Nat) (mr : Nat) (mki : Nat) (mso : Nat) (mst : Nat) (mpr : Nat) (msh : Nat) (mwa : Nat) (mpu : Nat) (mtx : Nat) (mor : Nat) (mbo : Nat) (tO : Nat) (tVi : Nat) (tSm : Nat) (ts : Int32) (ma : Int32) (bg : Int32) (cl : Int32) (um : Int32) (mn : Int32) (tm : Int32) (x : Int32) (y : Int32) : CT E l yX11_take cX11_take 6 (some (.int)) 1 0 0 L h [(o, ob 10 [.ref mw, .ref mk, .ref mt, .ref mr, .ref mki, .ref mso, .ref mst, .ref mpr, .ref msh, .ref mwa, .ref mpu, .ref mtx, .int ts, .int ma, .int bg, .int 1, .int cl, .int um, .ref mor, .ref mbo, .int mn, .ref tO, .ref tVi, .ref tSm, .int tm])] [.ref o, .int x, .int y] (qP L h (fun (_ : Unit) => [(o, ob 10 [.ref mw, .ref mk, .ref mt, .ref mr, .ref mki, .ref mso, .ref mst, .ref mpr, .ref msh, .ref mwa, .ref mpu, .ref mtx, .int ts, .int ma, .int bg, .int 1, .int cl, .int um, .ref mor, .ref mbo, .int mn, .ref tO, .ref tVi, .ref tSm, .int tm])]) (fun _ => some (.int 0)) (fun _ => True)) := by
  refine CT.ofV (by decide +kernel) (Nat.le_of_ble_eq_true rfl) ?_
  refine V.locals2 (lv2 := [(0, .ref o), (1, .int x), (2, .int y)]) rfl ?_
  refine V.aload_n dX11_take_0 0 rfl ?_
  refine V.getf 0 15 rfl fa_X11_82_10 rfl dX11_take_1 ?_
  refine V.if_eq (tgt := 9) dX11_take_4 (by decide) (fun hc => absurd hc (by decide)) (fun _ => ?_)
  refine V.iconst (v := 0) dX11_take_7 (by decide) ?_
  exact V.iret rfl dX11_take_8 (⟨(), rfl, rfl, rfl, trivial⟩)

set_option maxHeartbeats 4000000 in
set_option maxRecDepth 100000 in
theorem c_M_take (E : vEnv) (l : Launch) (L : List Nat) (h : Nat → va_E) (o : Nat) (mw : Nat) (mk : Nat) (mt : Nat) (mr : Nat) (mki : Nat) (mso : Nat) (mst : Nat) (mpr : Nat) (msh : Nat) (mwa : Nat) (mpu : Nat) (mtx : Nat) (mor : Nat) (mbo : Nat) (tO : Nat) (tVi : Nat) (tSm : Nat) (bg : Int32) (cl : Int32) (um : Int32) (mn : Int32) (tm : Int32) (n : Nat) (MT : Nat → Int32) (F : Nat → Int32) (t : Nat) (lo : Nat) (hi : Int32) (ht : t ≤ n) (hn : n ≤ 160) (hT : ∀ j, j < n → MT j = F j) (hlo : lo < 2 ^ 30) : CT E l yX11_take cX11_take 6 (some (.int)) 1 0 0 L h [(o, ob 10 [.ref mw, .ref mk, .ref mt, .ref mr, .ref mki, .ref mso, .ref mst, .ref mpr, .ref msh, .ref mwa, .ref mpu, .ref mtx, .int (nI n), .int (nI t), .int bg, .int 0, .int cl, .int um, .ref mor, .ref mbo, .int mn, .ref tO, .ref tVi, .ref tSm, .int tm]), (mtx, aI E 160 MT)] [.ref o, .int (nI lo), .int hi] (qP L h (fun (u : Int32) => [(o, ob 10 [.ref mw, .ref mk, .ref mt, .ref mr, .ref mki, .ref mso, .ref mst, .ref mpr, .ref msh, .ref mwa, .ref mpu, .ref mtx, .int (nI n), .int (nI (dgE F n t)), .int (nI (frT F n t)), .int (badW F n t lo hi), .int cl, .int um, .ref mor, .ref mbo, .int mn, .ref tO, .ref tVi, .ref tSm, .int tm]), (mtx, aI E 160 MT)]) (fun u => some (.int u)) (fun u => withinI (numW F (frT F n t) (teT F n t)) (nI lo) hi = 1 → u = numW F (frT F n t) (teT F n t) ∧ teT F n t = dgE F n t)) := by
  refine CT.ofV (by decide +kernel) (Nat.le_of_ble_eq_true rfl) ?_
  obtain ⟨Z, hZ⟩ : ∃ Z, Z = mZ E (qP L h (fun (u : Int32) => [(o, ob 10 [.ref mw, .ref mk, .ref mt, .ref mr, .ref mki, .ref mso, .ref mst, .ref mpr, .ref msh, .ref mwa, .ref mpu, .ref mtx, .int (nI n), .int (nI (dgE F n t)), .int (nI (frT F n t)), .int (badW F n t lo hi), .int cl, .int um, .ref mor, .ref mbo, .int mn, .ref tO, .ref tVi, .ref tSm, .int tm]), (mtx, aI E 160 MT)]) (fun u => some (.int u)) (fun u => withinI (numW F (frT F n t) (teT F n t)) (nI lo) hi = 1 → u = numW F (frT F n t) (teT F n t) ∧ teT F n t = dgE F n t)) 0 0 := ⟨_, rfl⟩
  rw [← hZ]
  refine V.locals2 (lv2 := [(0, .ref o), (1, .int (nI lo)), (2, .int hi)]) rfl ?_
  refine V.aload_n dX11_take_0 0 rfl ?_
  refine V.getf 0 15 rfl fa_X11_82_10 rfl dX11_take_1 ?_
  refine V.if_eq (tgt := 9) dX11_take_4 (by decide) (fun _ => ?_) (fun hc => absurd (by decide) hc)
  refine V.aload_n dX11_take_9 0 rfl ?_
  refine V.callVp (As := []) (rest := []) [0, 1] (c_M_here E l L _ o mw mk mt mr mki mso mst mpr msh mwa mpu mtx mor mbo tO tVi tSm bg 0 cl um mn tm n MT F t (ht) (hn) (hT)) rfl (by decide) mi_X11_here 0 rfl rfl w_816 w_818 wp_12 rfl rfl (Nat.le_of_ble_eq_true rfl) ⟨by decide, by decide⟩ ⟨by decide, by decide⟩ dX11_take_10 (vw2 := fun _ => [(o, ob 10 [.ref mw, .ref mk, .ref mt, .ref mr, .ref mki, .ref mso, .ref mst, .ref mpr, .ref msh, .ref mwa, .ref mpu, .ref mtx, .int (nI n), .int (nI (frT F n t)), .int (nI (frT F n t)), .int 0, .int cl, .int um, .ref mor, .ref mbo, .int mn, .ref tO, .ref tVi, .ref tSm, .int tm]), (mtx, aI E 160 MT)]) (st2 := fun _ => [.int (hereW F n t)]) (fun _ => rfl) (fun _ => rfl) (fun _ => rfl) (fun _ _ => ?_)
  refine V.istore_n (lv2 := [(3, .int (hereW F n t)), (0, .ref o), (1, .int (nI lo)), (2, .int hi)]) dX11_take_13 rfl (by decide) rfl ?_
  refine V.iconst (v := 0) dX11_take_14 (by decide) ?_
  refine V.istore (lv2 := [(4, .int 0), (3, .int (hereW F n t)), (0, .ref o), (1, .int (nI lo)), (2, .int hi)]) dX11_take_15 (by decide) rfl ?_
  refine V.iconst (v := 0) dX11_take_17 (by decide) ?_
  refine V.istore (lv2 := [(5, .int 0), (4, .int 0), (3, .int (hereW F n t)), (0, .ref o), (1, .int (nI lo)), (2, .int hi)]) dX11_take_18 (by decide) rfl ?_
  obtain ⟨dj, hdj⟩ : ∃ dj, dgE F n t = (frT F n t) + dj := ⟨dgE F n t - (frT F n t), by have h9 := runE_ge F n 48 57 (n - (frT F n t)) (frT F n t); show dgE F n t = _; unfold dgE; omega⟩
  have hfrn : (frT F n t) ≤ n := frT_le ht
  have hdjn : (frT F n t) + dj ≤ n := by rw [← hdj]; exact runE_le F n 48 57 _ _ (frT_le ht)
  refine V.locals [3, 4, 5, 1, 0] (by rfl) ?_
  have lp_20 : ∀ (fuel : Nat) (j : Nat) (v : Int32) (hj : j ≤ dj) (hvi : j ≤ 2 → numG F (dj - j) ((frT F n t) + j) v = numG F dj (frT F n t) 0) (hvb : j ≤ 1 → v ≤ 999) (hz : j = 0 → v = 0) (hrun : runE F n 48 57 (n - ((frT F n t) + j)) ((frT F n t) + j) = (frT F n t) + dj) (hf : dj < j + fuel), V E l yX11_take cX11_take 6 (some (.int)) (rmk 1 0 0) Z L h 0 0 [(o, ob 10 [.ref mw, .ref mk, .ref mt, .ref mr, .ref mki, .ref mso, .ref mst, .ref mpr, .ref msh, .ref mwa, .ref mpu, .ref mtx, .int (nI n), .int (nI ((frT F n t) + j)), .int (nI (frT F n t)), .int 0, .int cl, .int um, .ref mor, .ref mbo, .int mn, .ref tO, .ref tVi, .ref tSm, .int tm]), (mtx, aI E 160 MT)] 20 [(0, .ref o), (1, .int (nI lo)), (2, .int hi), (4, .int v), (5, .int (nI j))] [] := by
    intro fuel
    induction fuel with
    | zero =>
      intro j v hj hvi hvb hz hrun hf
      exfalso; omega
    | succ fuel ih_20 =>
      intro j v hj hvi hvb hz hrun hf
      refine V.aload_n dX11_take_20 0 rfl ?_
      refine V.getf 0 13 rfl fa_X11_76_10 rfl dX11_take_21 ?_
      refine V.aload_n dX11_take_24 0 rfl ?_
      refine V.getf 0 12 rfl fa_X11_72_10 rfl dX11_take_25 ?_
      refine V.icmp_ge (tgt := 102) dX11_take_28 (by decide) (fun c1_28 => ?_) (fun c1_28 => ?_)
      · skip
        have hje : dj = j := by have h9 := (nI_leI (by omega) (by omega)).mp c1_28; rw [show n - ((frT F n t) + j) = 0 by omega, runE] at hrun; omega
        refine V.aload_n dX11_take_102 0 rfl ?_
        refine V.iload dX11_take_103 4 rfl ?_
        refine V.i2l dX11_take_105 ?_
        refine V.lconst (v := 1) dX11_take_106 (by decide) ?_
        refine V.stack (st2 := [.long (Int32.toInt64 1), .long (Int32.toInt64 (nI j)), .ref o]) (congrArg (fun z64 => Value.long z64 :: [.long (Int32.toInt64 (nI j)), .ref o]) (show (1 : Int64) = Int32.toInt64 1 by decide)) ?_
        refine V.ldc2 dX11_take_107 w_838 ?_
        refine V.stack (st2 := [.long (Int32.toInt64 2), .long (Int32.toInt64 1), .long (Int32.toInt64 (nI j)), .ref o]) (congrArg (fun z64 => Value.long z64 :: [.long (Int32.toInt64 1), .long (Int32.toInt64 (nI j)), .ref o]) (show (2 : Int64) = Int32.toInt64 2 by decide)) ?_
        refine V.callSp (As := [.long (Int32.toInt64 (nI j)), .long (Int32.toInt64 1), .long (Int32.toInt64 2)]) (rest := [.ref o]) [] (c_M_in E l L _ ((nI j)) 1 2) rfl (by decide) mi_X11_in w_789 w_790 rfl rfl (Nat.le_of_ble_eq_true rfl) ⟨by decide, by decide⟩ ⟨by decide, by decide⟩ dX11_take_110 (vw2 := fun _ => [(o, ob 10 [.ref mw, .ref mk, .ref mt, .ref mr, .ref mki, .ref mso, .ref mst, .ref mpr, .ref msh, .ref mwa, .ref mpu, .ref mtx, .int (nI n), .int (nI ((frT F n t) + j)), .int (nI (frT F n t)), .int 0, .int cl, .int um, .ref mor, .ref mbo, .int mn, .ref tO, .ref tVi, .ref tSm, .int tm]), (mtx, aI E 160 MT)]) (st2 := fun _ => [.int (withinI (nI j) 1 2), .ref o]) (fun _ => rfl) (fun _ => rfl) (fun _ => rfl) (fun _ _ => ?_)
        refine V.if_eq (tgt := 129) dX11_take_113 (by decide) (fun c2_113 => ?_) (fun c2_113 => ?_)
        · skip
          have hde : dgE F n t = (frT F n t) + j := by rw [hdj, hje]
          have hbad := take_bad (hi := hi) ht hn hlo hde c2_113
          refine V.iconst (v := 1) dX11_take_129 (by decide) ?_
          refine V.goto (tgt := 134) dX11_take_130 (by decide) ?_
          refine V.putf 0 15 (vw2 := [(o, ob 10 [.ref mw, .ref mk, .ref mt, .ref mr, .ref mki, .ref mso, .ref mst, .ref mpr, .ref msh, .ref mwa, .ref mpu, .ref mtx, .int (nI n), .int (nI ((frT F n t) + j)), .int (nI (frT F n t)), .int 1, .int cl, .int um, .ref mor, .ref mbo, .int mn, .ref tO, .ref tVi, .ref tSm, .int tm]), (mtx, aI E 160 MT)]) rfl fp_X11_82_10 rfl rfl (Nat.le_of_ble_eq_true rfl) rfl dX11_take_134 ?_
          refine V.iload dX11_take_137 3 rfl ?_
          subst hZ
          have hbw : badW F n t lo hi = 1 := if_neg (by rw [hbad]; decide)
          exact V.iret rfl dX11_take_139 (⟨v, rfl, rfl, by rw [hbw, hde], fun h9 => absurd (h9.symm.trans hbad) (by decide)⟩)
        · skip
          have hde : dgE F n t = (frT F n t) + j := by rw [hdj, hje]
          have hfig : withinI (nI j) 1 2 = 1 := (withinI_01 _ _ _).resolve_left c2_113
          have hj2 : j ≤ 2 := by have h9 := hfig; unfold withinI at h9; split at h9; rename_i hc; exact (nI_leI (b := 2) (by omega) (by omega)).mp hc.2; exact absurd h9 (by decide)
          have hnum := take_num ht hn hde hfig (v := v) (by have h9 := hvi hj2; rw [hje, Nat.sub_self] at h9; exact h9)
          refine V.iload dX11_take_116 3 rfl ?_
          refine V.i2l dX11_take_118 ?_
          refine V.iload_n dX11_take_119 1 rfl ?_
          refine V.i2l dX11_take_120 ?_
          refine V.iload_n dX11_take_121 2 rfl ?_
          refine V.i2l dX11_take_122 ?_
          refine V.callSp (As := [.long (Int32.toInt64 v), .long (Int32.toInt64 (nI lo)), .long (Int32.toInt64 hi)]) (rest := [.ref o]) [] (c_M_in E l L _ v ((nI lo)) hi) rfl (by decide) mi_X11_in w_789 w_790 rfl rfl (Nat.le_of_ble_eq_true rfl) ⟨by decide, by decide⟩ ⟨by decide, by decide⟩ dX11_take_123 (vw2 := fun _ => [(o, ob 10 [.ref mw, .ref mk, .ref mt, .ref mr, .ref mki, .ref mso, .ref mst, .ref mpr, .ref msh, .ref mwa, .ref mpu, .ref mtx, .int (nI n), .int (nI ((frT F n t) + j)), .int (nI (frT F n t)), .int 0, .int cl, .int um, .ref mor, .ref mbo, .int mn, .ref tO, .ref tVi, .ref tSm, .int tm]), (mtx, aI E 160 MT)]) (st2 := fun _ => [.int (withinI v (nI lo) hi), .ref o]) (fun _ => rfl) (fun _ => rfl) (fun _ => rfl) (fun _ _ => ?_)
          refine V.if_ne (tgt := 133) dX11_take_126 (by decide) (fun c3_126 => ?_) (fun c3_126 => ?_)
          · skip
            refine V.iconst (v := 0) dX11_take_133 (by decide) ?_
            refine V.putf 0 15 (vw2 := [(o, ob 10 [.ref mw, .ref mk, .ref mt, .ref mr, .ref mki, .ref mso, .ref mst, .ref mpr, .ref msh, .ref mwa, .ref mpu, .ref mtx, .int (nI n), .int (nI ((frT F n t) + j)), .int (nI (frT F n t)), .int 0, .int cl, .int um, .ref mor, .ref mbo, .int mn, .ref tO, .ref tVi, .ref tSm, .int tm]), (mtx, aI E 160 MT)]) rfl fp_X11_82_10 rfl rfl (Nat.le_of_ble_eq_true rfl) rfl dX11_take_134 ?_
            refine V.iload dX11_take_137 3 rfl ?_
            subst hZ
            have hbw : badW F n t lo hi = 0 := if_pos (by rw [hnum.1]; exact (withinI_01 _ _ _).resolve_left c3_126)
            exact V.iret rfl dX11_take_139 (⟨v, rfl, rfl, by rw [hbw, hde], fun _ => ⟨hnum.1.symm, hnum.2.trans hde.symm⟩⟩)
          · skip
            refine V.iconst (v := 1) dX11_take_129 (by decide) ?_
            refine V.goto (tgt := 134) dX11_take_130 (by decide) ?_
            refine V.putf 0 15 (vw2 := [(o, ob 10 [.ref mw, .ref mk, .ref mt, .ref mr, .ref mki, .ref mso, .ref mst, .ref mpr, .ref msh, .ref mwa, .ref mpu, .ref mtx, .int (nI n), .int (nI ((frT F n t) + j)), .int (nI (frT F n t)), .int 1, .int cl, .int um, .ref mor, .ref mbo, .int mn, .ref tO, .ref tVi, .ref tSm, .int tm]), (mtx, aI E 160 MT)]) rfl fp_X11_82_10 rfl rfl (Nat.le_of_ble_eq_true rfl) rfl dX11_take_134 ?_
            refine V.iload dX11_take_137 3 rfl ?_
            subst hZ
            have hbw : badW F n t lo hi = 1 := if_neg (by rw [hnum.1, show withinI v (nI lo) hi = 0 from c3_126]; decide)
            exact V.iret rfl dX11_take_139 (⟨v, rfl, rfl, by rw [hbw, hde], fun _ => ⟨hnum.1.symm, hnum.2.trans hde.symm⟩⟩)
      · skip
        have hlt : (frT F n t) + j < n := Nat.lt_of_not_le (fun hh => c1_28 (nI_le hh (by omega)))
        refine V.aload_n dX11_take_31 0 rfl ?_
        refine V.getf 0 11 rfl fa_X11_44_10 rfl dX11_take_32 ?_
        refine V.aload_n dX11_take_35 0 rfl ?_
        refine V.getf 0 13 rfl fa_X11_76_10 rfl dX11_take_36 ?_
        refine V.iald 1 rfl (vinI (by omega)) dX11_take_39 ?_
        refine V.topc (v := (F ((frT F n t) + j))) (by rw [nI_clamp (by omega)]; exact hT _ (by omega)) ?_
        refine V.i2l dX11_take_40 ?_
        refine V.ldc2 dX11_take_41 w_836 ?_
        refine V.stack (st2 := [.long (Int32.toInt64 48), .long (Int32.toInt64 (F ((frT F n t) + j)))]) (congrArg (fun z64 => Value.long z64 :: [.long (Int32.toInt64 (F ((frT F n t) + j)))]) (show (48 : Int64) = Int32.toInt64 48 by decide)) ?_
        refine V.ldc2 dX11_take_44 w_837 ?_
        refine V.stack (st2 := [.long (Int32.toInt64 57), .long (Int32.toInt64 48), .long (Int32.toInt64 (F ((frT F n t) + j)))]) (congrArg (fun z64 => Value.long z64 :: [.long (Int32.toInt64 48), .long (Int32.toInt64 (F ((frT F n t) + j)))]) (show (57 : Int64) = Int32.toInt64 57 by decide)) ?_
        refine V.callSp (As := [.long (Int32.toInt64 (F ((frT F n t) + j))), .long (Int32.toInt64 48), .long (Int32.toInt64 57)]) (rest := []) [] (c_M_in E l L _ ((F ((frT F n t) + j))) 48 57) rfl (by decide) mi_X11_in w_789 w_790 rfl rfl (Nat.le_of_ble_eq_true rfl) ⟨by decide, by decide⟩ ⟨by decide, by decide⟩ dX11_take_47 (vw2 := fun _ => [(o, ob 10 [.ref mw, .ref mk, .ref mt, .ref mr, .ref mki, .ref mso, .ref mst, .ref mpr, .ref msh, .ref mwa, .ref mpu, .ref mtx, .int (nI n), .int (nI ((frT F n t) + j)), .int (nI (frT F n t)), .int 0, .int cl, .int um, .ref mor, .ref mbo, .int mn, .ref tO, .ref tVi, .ref tSm, .int tm]), (mtx, aI E 160 MT)]) (st2 := fun _ => [.int (withinI (F ((frT F n t) + j)) 48 57)]) (fun _ => rfl) (fun _ => rfl) (fun _ => rfl) (fun _ _ => ?_)
        refine V.if_eq (tgt := 102) dX11_take_50 (by decide) (fun c4_50 => ?_) (fun c4_50 => ?_)
        · skip
          have hje : dj = j := by rw [show n - ((frT F n t) + j) = (n - ((frT F n t) + (j + 1))) + 1 by omega, runE, if_neg (fun h9 => absurd (h9.2.symm.trans c4_50) (by decide))] at hrun; omega
          refine V.aload_n dX11_take_102 0 rfl ?_
          refine V.iload dX11_take_103 4 rfl ?_
          refine V.i2l dX11_take_105 ?_
          refine V.lconst (v := 1) dX11_take_106 (by decide) ?_
          refine V.stack (st2 := [.long (Int32.toInt64 1), .long (Int32.toInt64 (nI j)), .ref o]) (congrArg (fun z64 => Value.long z64 :: [.long (Int32.toInt64 (nI j)), .ref o]) (show (1 : Int64) = Int32.toInt64 1 by decide)) ?_
          refine V.ldc2 dX11_take_107 w_838 ?_
          refine V.stack (st2 := [.long (Int32.toInt64 2), .long (Int32.toInt64 1), .long (Int32.toInt64 (nI j)), .ref o]) (congrArg (fun z64 => Value.long z64 :: [.long (Int32.toInt64 1), .long (Int32.toInt64 (nI j)), .ref o]) (show (2 : Int64) = Int32.toInt64 2 by decide)) ?_
          refine V.callSp (As := [.long (Int32.toInt64 (nI j)), .long (Int32.toInt64 1), .long (Int32.toInt64 2)]) (rest := [.ref o]) [] (c_M_in E l L _ ((nI j)) 1 2) rfl (by decide) mi_X11_in w_789 w_790 rfl rfl (Nat.le_of_ble_eq_true rfl) ⟨by decide, by decide⟩ ⟨by decide, by decide⟩ dX11_take_110 (vw2 := fun _ => [(o, ob 10 [.ref mw, .ref mk, .ref mt, .ref mr, .ref mki, .ref mso, .ref mst, .ref mpr, .ref msh, .ref mwa, .ref mpu, .ref mtx, .int (nI n), .int (nI ((frT F n t) + j)), .int (nI (frT F n t)), .int 0, .int cl, .int um, .ref mor, .ref mbo, .int mn, .ref tO, .ref tVi, .ref tSm, .int tm]), (mtx, aI E 160 MT)]) (st2 := fun _ => [.int (withinI (nI j) 1 2), .ref o]) (fun _ => rfl) (fun _ => rfl) (fun _ => rfl) (fun _ _ => ?_)
          refine V.if_eq (tgt := 129) dX11_take_113 (by decide) (fun c5_113 => ?_) (fun c5_113 => ?_)
          · skip
            have hde : dgE F n t = (frT F n t) + j := by rw [hdj, hje]
            have hbad := take_bad (hi := hi) ht hn hlo hde c5_113
            refine V.iconst (v := 1) dX11_take_129 (by decide) ?_
            refine V.goto (tgt := 134) dX11_take_130 (by decide) ?_
            refine V.putf 0 15 (vw2 := [(o, ob 10 [.ref mw, .ref mk, .ref mt, .ref mr, .ref mki, .ref mso, .ref mst, .ref mpr, .ref msh, .ref mwa, .ref mpu, .ref mtx, .int (nI n), .int (nI ((frT F n t) + j)), .int (nI (frT F n t)), .int 1, .int cl, .int um, .ref mor, .ref mbo, .int mn, .ref tO, .ref tVi, .ref tSm, .int tm]), (mtx, aI E 160 MT)]) rfl fp_X11_82_10 rfl rfl (Nat.le_of_ble_eq_true rfl) rfl dX11_take_134 ?_
            refine V.iload dX11_take_137 3 rfl ?_
            subst hZ
            have hbw : badW F n t lo hi = 1 := if_neg (by rw [hbad]; decide)
            exact V.iret rfl dX11_take_139 (⟨v, rfl, rfl, by rw [hbw, hde], fun h9 => absurd (h9.symm.trans hbad) (by decide)⟩)
          · skip
            have hde : dgE F n t = (frT F n t) + j := by rw [hdj, hje]
            have hfig : withinI (nI j) 1 2 = 1 := (withinI_01 _ _ _).resolve_left c5_113
            have hj2 : j ≤ 2 := by have h9 := hfig; unfold withinI at h9; split at h9; rename_i hc; exact (nI_leI (b := 2) (by omega) (by omega)).mp hc.2; exact absurd h9 (by decide)
            have hnum := take_num ht hn hde hfig (v := v) (by have h9 := hvi hj2; rw [hje, Nat.sub_self] at h9; exact h9)
            refine V.iload dX11_take_116 3 rfl ?_
            refine V.i2l dX11_take_118 ?_
            refine V.iload_n dX11_take_119 1 rfl ?_
            refine V.i2l dX11_take_120 ?_
            refine V.iload_n dX11_take_121 2 rfl ?_
            refine V.i2l dX11_take_122 ?_
            refine V.callSp (As := [.long (Int32.toInt64 v), .long (Int32.toInt64 (nI lo)), .long (Int32.toInt64 hi)]) (rest := [.ref o]) [] (c_M_in E l L _ v ((nI lo)) hi) rfl (by decide) mi_X11_in w_789 w_790 rfl rfl (Nat.le_of_ble_eq_true rfl) ⟨by decide, by decide⟩ ⟨by decide, by decide⟩ dX11_take_123 (vw2 := fun _ => [(o, ob 10 [.ref mw, .ref mk, .ref mt, .ref mr, .ref mki, .ref mso, .ref mst, .ref mpr, .ref msh, .ref mwa, .ref mpu, .ref mtx, .int (nI n), .int (nI ((frT F n t) + j)), .int (nI (frT F n t)), .int 0, .int cl, .int um, .ref mor, .ref mbo, .int mn, .ref tO, .ref tVi, .ref tSm, .int tm]), (mtx, aI E 160 MT)]) (st2 := fun _ => [.int (withinI v (nI lo) hi), .ref o]) (fun _ => rfl) (fun _ => rfl) (fun _ => rfl) (fun _ _ => ?_)
            refine V.if_ne (tgt := 133) dX11_take_126 (by decide) (fun c6_126 => ?_) (fun c6_126 => ?_)
            · skip
              refine V.iconst (v := 0) dX11_take_133 (by decide) ?_
              refine V.putf 0 15 (vw2 := [(o, ob 10 [.ref mw, .ref mk, .ref mt, .ref mr, .ref mki, .ref mso, .ref mst, .ref mpr, .ref msh, .ref mwa, .ref mpu, .ref mtx, .int (nI n), .int (nI ((frT F n t) + j)), .int (nI (frT F n t)), .int 0, .int cl, .int um, .ref mor, .ref mbo, .int mn, .ref tO, .ref tVi, .ref tSm, .int tm]), (mtx, aI E 160 MT)]) rfl fp_X11_82_10 rfl rfl (Nat.le_of_ble_eq_true rfl) rfl dX11_take_134 ?_
              refine V.iload dX11_take_137 3 rfl ?_
              subst hZ
              have hbw : badW F n t lo hi = 0 := if_pos (by rw [hnum.1]; exact (withinI_01 _ _ _).resolve_left c6_126)
              exact V.iret rfl dX11_take_139 (⟨v, rfl, rfl, by rw [hbw, hde], fun _ => ⟨hnum.1.symm, hnum.2.trans hde.symm⟩⟩)
            · skip
              refine V.iconst (v := 1) dX11_take_129 (by decide) ?_
              refine V.goto (tgt := 134) dX11_take_130 (by decide) ?_
              refine V.putf 0 15 (vw2 := [(o, ob 10 [.ref mw, .ref mk, .ref mt, .ref mr, .ref mki, .ref mso, .ref mst, .ref mpr, .ref msh, .ref mwa, .ref mpu, .ref mtx, .int (nI n), .int (nI ((frT F n t) + j)), .int (nI (frT F n t)), .int 1, .int cl, .int um, .ref mor, .ref mbo, .int mn, .ref tO, .ref tVi, .ref tSm, .int tm]), (mtx, aI E 160 MT)]) rfl fp_X11_82_10 rfl rfl (Nat.le_of_ble_eq_true rfl) rfl dX11_take_134 ?_
              refine V.iload dX11_take_137 3 rfl ?_
              subst hZ
              have hbw : badW F n t lo hi = 1 := if_neg (by rw [hnum.1, show withinI v (nI lo) hi = 0 from c6_126]; decide)
              exact V.iret rfl dX11_take_139 (⟨v, rfl, rfl, by rw [hbw, hde], fun _ => ⟨hnum.1.symm, hnum.2.trans hde.symm⟩⟩)
        · skip
          have hin : withinI (F ((frT F n t) + j)) 48 57 = 1 := (withinI_01 _ _ _).resolve_left c4_50
          have hrun2 : runE F n 48 57 (n - ((frT F n t) + (j + 1))) ((frT F n t) + (j + 1)) = (frT F n t) + dj := by
            rw [show n - ((frT F n t) + j) = (n - ((frT F n t) + (j + 1))) + 1 by omega, runE, if_pos ⟨hlt, hin⟩] at hrun
            exact hrun
          have hjd : j < dj := by have h9 := runE_ge F n 48 57 (n - ((frT F n t) + (j + 1))) ((frT F n t) + (j + 1)); omega
          refine V.iload dX11_take_53 3 rfl ?_
          refine V.sipush (v := 999) dX11_take_55 (by decide) ?_
          refine V.icmp_le (tgt := 66) dX11_take_58 (by decide) (fun c7_58 => ?_) (fun c7_58 => ?_)
          · skip
            refine V.bipush (v := 10) dX11_take_66 (by decide) ?_
            refine V.iload dX11_take_68 3 rfl ?_
            refine V.imul dX11_take_70 ?_
            refine V.aload_n dX11_take_71 0 rfl ?_
            refine V.getf 0 11 rfl fa_X11_44_10 rfl dX11_take_72 ?_
            refine V.aload_n dX11_take_75 0 rfl ?_
            refine V.getf 0 13 rfl fa_X11_76_10 rfl dX11_take_76 ?_
            refine V.iald 1 rfl (vinI (by omega)) dX11_take_79 ?_
            refine V.topc (v := (F ((frT F n t) + j))) (by rw [nI_clamp (by omega)]; exact hT _ (by omega)) ?_
            refine V.iadd dX11_take_80 ?_
            refine V.bipush (v := 48) dX11_take_81 (by decide) ?_
            refine V.isub dX11_take_83 ?_
            refine V.istore (lv2 := [(4, .int (((10 * v) + (F ((frT F n t) + j))) - 48)), (0, .ref o), (1, .int (nI lo)), (2, .int hi), (5, .int (nI j))]) dX11_take_84 (by decide) rfl ?_
            refine V.iinc (v := (nI (j + 1))) (lv2 := [(5, .int (nI (j + 1))), (4, .int (((10 * v) + (F ((frT F n t) + j))) - 48)), (0, .ref o), (1, .int (nI lo)), (2, .int hi)]) dX11_take_86 4 rfl (nI_1 _) (by decide) rfl ?_
            refine V.aload_n dX11_take_89 2 rfl ?_
            refine V.dup dX11_take_90 rfl ?_
            refine V.getf 0 13 rfl fa_X11_76_10 rfl dX11_take_91 ?_
            refine V.iconst (v := 1) dX11_take_94 (by decide) ?_
            refine V.iadd dX11_take_95 ?_
            refine V.topc (v := (nI ((frT F n t) + (j + 1)))) (nI_1 _) ?_
            refine V.putf 0 13 (vw2 := [(o, ob 10 [.ref mw, .ref mk, .ref mt, .ref mr, .ref mki, .ref mso, .ref mst, .ref mpr, .ref msh, .ref mwa, .ref mpu, .ref mtx, .int (nI n), .int (nI ((frT F n t) + (j + 1))), .int (nI (frT F n t)), .int 0, .int cl, .int um, .ref mor, .ref mbo, .int mn, .ref tO, .ref tVi, .ref tSm, .int tm]), (mtx, aI E 160 MT)]) rfl fp_X11_76_10 rfl rfl (Nat.le_of_ble_eq_true rfl) rfl dX11_take_96 ?_
            refine V.goto (tgt := 20) dX11_take_99 (by decide) ?_
            refine V.locals [2, 3, 4, 1, 0] (by rfl) ?_
            exact ih_20 (j + 1) (10 * v + F ((frT F n t) + j) - 48) (by omega) (fun h9 => by rw [← hvi (by omega), show dj - j = (dj - (j + 1)) + 1 by omega, numG, if_pos hin]; rfl) (fun h9 => by rw [hz (by omega)]; exact dig_le hin) (fun h9 => absurd h9 (Nat.succ_ne_zero j)) hrun2 (by omega)
          · skip
            refine V.iload dX11_take_61 3 rfl ?_
            refine V.goto (tgt := 84) dX11_take_63 (by decide) ?_
            refine V.istore (lv2 := [(4, .int v), (0, .ref o), (1, .int (nI lo)), (2, .int hi), (5, .int (nI j))]) dX11_take_84 (by decide) rfl ?_
            refine V.iinc (v := (nI (j + 1))) (lv2 := [(5, .int (nI (j + 1))), (4, .int v), (0, .ref o), (1, .int (nI lo)), (2, .int hi)]) dX11_take_86 4 rfl (nI_1 _) (by decide) rfl ?_
            refine V.aload_n dX11_take_89 2 rfl ?_
            refine V.dup dX11_take_90 rfl ?_
            refine V.getf 0 13 rfl fa_X11_76_10 rfl dX11_take_91 ?_
            refine V.iconst (v := 1) dX11_take_94 (by decide) ?_
            refine V.iadd dX11_take_95 ?_
            refine V.topc (v := (nI ((frT F n t) + (j + 1)))) (nI_1 _) ?_
            refine V.putf 0 13 (vw2 := [(o, ob 10 [.ref mw, .ref mk, .ref mt, .ref mr, .ref mki, .ref mso, .ref mst, .ref mpr, .ref msh, .ref mwa, .ref mpu, .ref mtx, .int (nI n), .int (nI ((frT F n t) + (j + 1))), .int (nI (frT F n t)), .int 0, .int cl, .int um, .ref mor, .ref mbo, .int mn, .ref tO, .ref tVi, .ref tSm, .int tm]), (mtx, aI E 160 MT)]) rfl fp_X11_76_10 rfl rfl (Nat.le_of_ble_eq_true rfl) rfl dX11_take_96 ?_
            refine V.goto (tgt := 20) dX11_take_99 (by decide) ?_
            refine V.locals [2, 3, 4, 1, 0] (by rfl) ?_
            exact ih_20 (j + 1) v (by omega) (fun h9 => absurd (hvb (by omega)) c7_58) (fun h9 => absurd (hvb (by omega)) c7_58) (fun h9 => absurd h9 (Nat.succ_ne_zero j)) hrun2 (by omega)
  exact lp_20 (dj + 1) 0 0 (Nat.zero_le _) (fun _ => rfl) (fun _ => by decide) (fun _ => rfl) hdj (by omega)

set_option maxHeartbeats 4000000 in
set_option maxRecDepth 100000 in
theorem c_M_word (E : vEnv) (l : Launch) (L : List Nat) (h : Nat → va_E) (o : Nat) (mw : Nat) (mk : Nat) (mt : Nat) (mr : Nat) (mki : Nat) (mso : Nat) (mst : Nat) (mpr : Nat) (msh : Nat) (mwa : Nat) (mpu : Nat) (mtx : Nat) (mor : Nat) (mbo : Nat) (tO : Nat) (tVi : Nat) (tSm : Nat) (bg : Int32) (wr : Int32) (cl : Int32) (um : Int32) (mn : Int32) (tm : Int32) (n : Nat) (MT : Nat → Int32) (F : Nat → Int32) (t : Nat) (ht : t ≤ n) (hn : n ≤ 160) (hT : ∀ j, j < n → MT j = F j) : CT E l yX11_word cX11_word 4 (some (.int)) 1 0 0 L h [(o, ob 10 [.ref mw, .ref mk, .ref mt, .ref mr, .ref mki, .ref mso, .ref mst, .ref mpr, .ref msh, .ref mwa, .ref mpu, .ref mtx, .int (nI n), .int (nI t), .int bg, .int wr, .int cl, .int um, .ref mor, .ref mbo, .int mn, .ref tO, .ref tVi, .ref tSm, .int tm]), (mtx, aI E 160 MT)] [.ref o] (qP L h (fun (_ : Unit) => [(o, ob 10 [.ref mw, .ref mk, .ref mt, .ref mr, .ref mki, .ref mso, .ref mst, .ref mpr, .ref msh, .ref mwa, .ref mpu, .ref mtx, .int (nI n), .int (nI (lwE F n t)), .int (nI (frT F n t)), .int wr, .int cl, .int um, .ref mor, .ref mbo, .int mn, .ref tO, .ref tVi, .ref tSm, .int tm]), (mtx, aI E 160 MT)]) (fun _ => some (.int (wvW F (frT F n t) (lwE F n t - (frT F n t))))) (fun _ => True)) := by
  refine CT.ofV (by decide +kernel) (Nat.le_of_ble_eq_true rfl) ?_
  obtain ⟨Z, hZ⟩ : ∃ Z, Z = mZ E (qP L h (fun (_ : Unit) => [(o, ob 10 [.ref mw, .ref mk, .ref mt, .ref mr, .ref mki, .ref mso, .ref mst, .ref mpr, .ref msh, .ref mwa, .ref mpu, .ref mtx, .int (nI n), .int (nI (lwE F n t)), .int (nI (frT F n t)), .int wr, .int cl, .int um, .ref mor, .ref mbo, .int mn, .ref tO, .ref tVi, .ref tSm, .int tm]), (mtx, aI E 160 MT)]) (fun _ => some (.int (wvW F (frT F n t) (lwE F n t - (frT F n t))))) (fun _ => True)) 0 0 := ⟨_, rfl⟩
  rw [← hZ]
  refine V.locals2 (lv2 := [(0, .ref o)]) rfl ?_
  refine V.aload_n dX11_word_0 0 rfl ?_
  refine V.callVp (As := []) (rest := []) [0, 1] (c_M_here E l L _ o mw mk mt mr mki mso mst mpr msh mwa mpu mtx mor mbo tO tVi tSm bg wr cl um mn tm n MT F t (ht) (hn) (hT)) rfl (by decide) mi_X11_here 0 rfl rfl w_816 w_818 wp_12 rfl rfl (Nat.le_of_ble_eq_true rfl) ⟨by decide, by decide⟩ ⟨by decide, by decide⟩ dX11_word_1 (vw2 := fun _ => [(o, ob 10 [.ref mw, .ref mk, .ref mt, .ref mr, .ref mki, .ref mso, .ref mst, .ref mpr, .ref msh, .ref mwa, .ref mpu, .ref mtx, .int (nI n), .int (nI (frT F n t)), .int (nI (frT F n t)), .int wr, .int cl, .int um, .ref mor, .ref mbo, .int mn, .ref tO, .ref tVi, .ref tSm, .int tm]), (mtx, aI E 160 MT)]) (st2 := fun _ => [.int (hereW F n t)]) (fun _ => rfl) (fun _ => rfl) (fun _ => rfl) (fun _ _ => ?_)
  refine V.istore_n (lv2 := [(1, .int (hereW F n t)), (0, .ref o)]) dX11_word_4 rfl (by decide) rfl ?_
  refine V.iconst (v := 0) dX11_word_5 (by decide) ?_
  refine V.istore_n (lv2 := [(2, .int 0), (1, .int (hereW F n t)), (0, .ref o)]) dX11_word_6 rfl (by decide) rfl ?_
  refine V.iconst (v := 0) dX11_word_7 (by decide) ?_
  refine V.istore_n (lv2 := [(3, .int 0), (2, .int 0), (1, .int (hereW F n t)), (0, .ref o)]) dX11_word_8 rfl (by decide) rfl ?_
  obtain ⟨dj, hdj⟩ : ∃ dj, lwE F n t = (frT F n t) + dj := ⟨lwE F n t - (frT F n t), by have h9 := runE_ge F n 97 122 (n - (frT F n t)) (frT F n t); show lwE F n t = _; unfold lwE; omega⟩
  have hfrn : (frT F n t) ≤ n := frT_le ht
  have hdjn : (frT F n t) + dj ≤ n := by rw [← hdj]; exact runE_le F n 97 122 _ _ (frT_le ht)
  refine V.locals [3, 1, 0] (by rfl) ?_
  have lp_9 : ∀ (fuel : Nat) (j : Nat) (v : Int32) (hj : j ≤ dj) (hv : v = vG F (frT F n t) (min 6 j)) (hrun : runE F n 97 122 (n - ((frT F n t) + j)) ((frT F n t) + j) = (frT F n t) + dj) (hf : dj < j + fuel), V E l yX11_word cX11_word 4 (some (.int)) (rmk 1 0 0) Z L h 0 0 [(o, ob 10 [.ref mw, .ref mk, .ref mt, .ref mr, .ref mki, .ref mso, .ref mst, .ref mpr, .ref msh, .ref mwa, .ref mpu, .ref mtx, .int (nI n), .int (nI ((frT F n t) + j)), .int (nI (frT F n t)), .int wr, .int cl, .int um, .ref mor, .ref mbo, .int mn, .ref tO, .ref tVi, .ref tSm, .int tm]), (mtx, aI E 160 MT)] 9 [(0, .ref o), (2, .int v), (3, .int (nI j))] [] := by
    intro fuel
    induction fuel with
    | zero =>
      intro j v hj hv hrun hf
      exfalso; omega
    | succ fuel ih_9 =>
      intro j v hj hv hrun hf
      refine V.aload_n dX11_word_9 0 rfl ?_
      refine V.getf 0 13 rfl fa_X11_76_10 rfl dX11_word_10 ?_
      refine V.aload_n dX11_word_13 0 rfl ?_
      refine V.getf 0 12 rfl fa_X11_72_10 rfl dX11_word_14 ?_
      refine V.icmp_ge (tgt := 86) dX11_word_17 (by decide) (fun c1_17 => ?_) (fun c1_17 => ?_)
      · skip
        have hje : dj = j := by have h9 := (nI_leI (by omega) (by omega)).mp c1_17; rw [show n - ((frT F n t) + j) = 0 by omega, runE] at hrun; omega
        refine V.iload_n dX11_word_86 2 rfl ?_
        refine V.bipush (v := 7) dX11_word_87 (by decide) ?_
        refine V.icmp_le (tgt := 96) dX11_word_89 (by decide) (fun c2_89 => ?_) (fun c2_89 => ?_)
        · skip
          have hde : lwE F n t = (frT F n t) + j := by rw [hdj, hje]
          have h7 : ¬ 7 < j := Nat.not_lt.mpr ((nI_leI (b := 7) (by omega) (by omega)).mp c2_89)
          refine V.iload_n dX11_word_96 2 rfl ?_
          refine V.bipush (v := 7) dX11_word_97 (by decide) ?_
          refine V.icmp_ne (tgt := 107) dX11_word_99 (by decide) (fun c3_99 => ?_) (fun c3_99 => ?_)
          · skip
            have h77 : ¬ j = 7 := fun hh => c3_99 (by rw [hh]; rfl)
            refine V.iload_n dX11_word_107 1 rfl ?_
            subst hZ
            exact V.iret rfl dX11_word_108 (⟨(), by rw [hde, Nat.add_sub_cancel_left]; unfold wvW; rw [if_neg h7, if_neg h77, hv, Nat.min_eq_right (show j ≤ 6 by omega)], rfl, by rw [hde], trivial⟩)
          · skip
            have h77 : j = 7 := (nI_eq (b := 7) (by omega) (by omega)).mp c3_99
            refine V.iload_n dX11_word_102 1 rfl ?_
            refine V.ineg dX11_word_103 ?_
            refine V.goto (tgt := 108) dX11_word_104 (by decide) ?_
            subst hZ
            exact V.iret rfl dX11_word_108 (⟨(), by rw [hde, Nat.add_sub_cancel_left]; unfold wvW; rw [if_neg h7, if_pos h77, hv, h77]; rfl, rfl, by rw [hde], trivial⟩)
        · skip
          have hde : lwE F n t = (frT F n t) + j := by rw [hdj, hje]
          have h7 : 7 < j := Nat.lt_of_not_le (fun hh => c2_89 (nI_le (b := 7) hh (by omega)))
          refine V.iconst (v := 0) dX11_word_92 (by decide) ?_
          refine V.goto (tgt := 108) dX11_word_93 (by decide) ?_
          subst hZ
          exact V.iret rfl dX11_word_108 (⟨(), by rw [hde, Nat.add_sub_cancel_left]; unfold wvW; rw [if_pos h7], rfl, by rw [hde], trivial⟩)
      · skip
        have hlt : (frT F n t) + j < n := Nat.lt_of_not_le (fun hh => c1_17 (nI_le hh (by omega)))
        refine V.aload_n dX11_word_20 0 rfl ?_
        refine V.getf 0 11 rfl fa_X11_44_10 rfl dX11_word_21 ?_
        refine V.aload_n dX11_word_24 0 rfl ?_
        refine V.getf 0 13 rfl fa_X11_76_10 rfl dX11_word_25 ?_
        refine V.iald 1 rfl (vinI (by omega)) dX11_word_28 ?_
        refine V.topc (v := (F ((frT F n t) + j))) (by rw [nI_clamp (by omega)]; exact hT _ (by omega)) ?_
        refine V.i2l dX11_word_29 ?_
        refine V.ldc2 dX11_word_30 w_820 ?_
        refine V.stack (st2 := [.long (Int32.toInt64 97), .long (Int32.toInt64 (F ((frT F n t) + j)))]) (congrArg (fun z64 => Value.long z64 :: [.long (Int32.toInt64 (F ((frT F n t) + j)))]) (show (97 : Int64) = Int32.toInt64 97 by decide)) ?_
        refine V.ldc2 dX11_word_33 w_821 ?_
        refine V.stack (st2 := [.long (Int32.toInt64 122), .long (Int32.toInt64 97), .long (Int32.toInt64 (F ((frT F n t) + j)))]) (congrArg (fun z64 => Value.long z64 :: [.long (Int32.toInt64 97), .long (Int32.toInt64 (F ((frT F n t) + j)))]) (show (122 : Int64) = Int32.toInt64 122 by decide)) ?_
        refine V.callSp (As := [.long (Int32.toInt64 (F ((frT F n t) + j))), .long (Int32.toInt64 97), .long (Int32.toInt64 122)]) (rest := []) [] (c_M_in E l L _ ((F ((frT F n t) + j))) 97 122) rfl (by decide) mi_X11_in w_789 w_790 rfl rfl (Nat.le_of_ble_eq_true rfl) ⟨by decide, by decide⟩ ⟨by decide, by decide⟩ dX11_word_36 (vw2 := fun _ => [(o, ob 10 [.ref mw, .ref mk, .ref mt, .ref mr, .ref mki, .ref mso, .ref mst, .ref mpr, .ref msh, .ref mwa, .ref mpu, .ref mtx, .int (nI n), .int (nI ((frT F n t) + j)), .int (nI (frT F n t)), .int wr, .int cl, .int um, .ref mor, .ref mbo, .int mn, .ref tO, .ref tVi, .ref tSm, .int tm]), (mtx, aI E 160 MT)]) (st2 := fun _ => [.int (withinI (F ((frT F n t) + j)) 97 122)]) (fun _ => rfl) (fun _ => rfl) (fun _ => rfl) (fun _ _ => ?_)
        refine V.if_eq (tgt := 86) dX11_word_39 (by decide) (fun c4_39 => ?_) (fun c4_39 => ?_)
        · skip
          have hje : dj = j := by rw [show n - ((frT F n t) + j) = (n - ((frT F n t) + (j + 1))) + 1 by omega, runE, if_neg (fun h9 => absurd (h9.2.symm.trans c4_39) (by decide))] at hrun; omega
          refine V.iload_n dX11_word_86 2 rfl ?_
          refine V.bipush (v := 7) dX11_word_87 (by decide) ?_
          refine V.icmp_le (tgt := 96) dX11_word_89 (by decide) (fun c5_89 => ?_) (fun c5_89 => ?_)
          · skip
            have hde : lwE F n t = (frT F n t) + j := by rw [hdj, hje]
            have h7 : ¬ 7 < j := Nat.not_lt.mpr ((nI_leI (b := 7) (by omega) (by omega)).mp c5_89)
            refine V.iload_n dX11_word_96 2 rfl ?_
            refine V.bipush (v := 7) dX11_word_97 (by decide) ?_
            refine V.icmp_ne (tgt := 107) dX11_word_99 (by decide) (fun c6_99 => ?_) (fun c6_99 => ?_)
            · skip
              have h77 : ¬ j = 7 := fun hh => c6_99 (by rw [hh]; rfl)
              refine V.iload_n dX11_word_107 1 rfl ?_
              subst hZ
              exact V.iret rfl dX11_word_108 (⟨(), by rw [hde, Nat.add_sub_cancel_left]; unfold wvW; rw [if_neg h7, if_neg h77, hv, Nat.min_eq_right (show j ≤ 6 by omega)], rfl, by rw [hde], trivial⟩)
            · skip
              have h77 : j = 7 := (nI_eq (b := 7) (by omega) (by omega)).mp c6_99
              refine V.iload_n dX11_word_102 1 rfl ?_
              refine V.ineg dX11_word_103 ?_
              refine V.goto (tgt := 108) dX11_word_104 (by decide) ?_
              subst hZ
              exact V.iret rfl dX11_word_108 (⟨(), by rw [hde, Nat.add_sub_cancel_left]; unfold wvW; rw [if_neg h7, if_pos h77, hv, h77]; rfl, rfl, by rw [hde], trivial⟩)
          · skip
            have hde : lwE F n t = (frT F n t) + j := by rw [hdj, hje]
            have h7 : 7 < j := Nat.lt_of_not_le (fun hh => c5_89 (nI_le (b := 7) hh (by omega)))
            refine V.iconst (v := 0) dX11_word_92 (by decide) ?_
            refine V.goto (tgt := 108) dX11_word_93 (by decide) ?_
            subst hZ
            exact V.iret rfl dX11_word_108 (⟨(), by rw [hde, Nat.add_sub_cancel_left]; unfold wvW; rw [if_pos h7], rfl, by rw [hde], trivial⟩)
        · skip
          have hin : withinI (F ((frT F n t) + j)) 97 122 = 1 := (withinI_01 _ _ _).resolve_left c4_39
          have hrun2 : runE F n 97 122 (n - ((frT F n t) + (j + 1))) ((frT F n t) + (j + 1)) = (frT F n t) + dj := by
            rw [show n - ((frT F n t) + j) = (n - ((frT F n t) + (j + 1))) + 1 by omega, runE, if_pos ⟨hlt, hin⟩] at hrun
            exact hrun
          have hjd : j < dj := by have h9 := runE_ge F n 97 122 (n - ((frT F n t) + (j + 1))) ((frT F n t) + (j + 1)); omega
          refine V.iload_n dX11_word_42 2 rfl ?_
          refine V.bipush (v := 6) dX11_word_43 (by decide) ?_
          refine V.icmp_ge (tgt := 68) dX11_word_45 (by decide) (fun c7_45 => ?_) (fun c7_45 => ?_)
          · skip
            have h6 : 6 ≤ j := (nI_leI (a := 6) (by omega) (by omega)).mp c7_45
            refine V.iload_n dX11_word_68 1 rfl ?_
            refine V.istore_n (lv2 := [(2, .int v), (0, .ref o), (3, .int (nI j))]) dX11_word_69 rfl (by decide) rfl ?_
            refine V.iinc (v := (nI (j + 1))) (lv2 := [(3, .int (nI (j + 1))), (2, .int v), (0, .ref o)]) dX11_word_70 2 rfl (nI_1 _) (by decide) rfl ?_
            refine V.aload_n dX11_word_73 2 rfl ?_
            refine V.dup dX11_word_74 rfl ?_
            refine V.getf 0 13 rfl fa_X11_76_10 rfl dX11_word_75 ?_
            refine V.iconst (v := 1) dX11_word_78 (by decide) ?_
            refine V.iadd dX11_word_79 ?_
            refine V.topc (v := (nI ((frT F n t) + (j + 1)))) (nI_1 _) ?_
            refine V.putf 0 13 (vw2 := [(o, ob 10 [.ref mw, .ref mk, .ref mt, .ref mr, .ref mki, .ref mso, .ref mst, .ref mpr, .ref msh, .ref mwa, .ref mpu, .ref mtx, .int (nI n), .int (nI ((frT F n t) + (j + 1))), .int (nI (frT F n t)), .int wr, .int cl, .int um, .ref mor, .ref mbo, .int mn, .ref tO, .ref tVi, .ref tSm, .int tm]), (mtx, aI E 160 MT)]) rfl fp_X11_76_10 rfl rfl (Nat.le_of_ble_eq_true rfl) rfl dX11_word_80 ?_
            refine V.goto (tgt := 9) dX11_word_83 (by decide) ?_
            refine V.locals [2, 1, 0] (by rfl) ?_
            exact ih_9 (j + 1) v (by omega) (by rw [hv, Nat.min_eq_left h6, Nat.min_eq_left (show 6 ≤ j + 1 by omega)]) hrun2 (by omega)
          · skip
            have h6 : j < 6 := Nat.lt_of_not_le (fun hh => c7_45 (nI_le (a := 6) hh (by omega)))
            refine V.bipush (v := 27) dX11_word_48 (by decide) ?_
            refine V.iload_n dX11_word_50 1 rfl ?_
            refine V.imul dX11_word_51 ?_
            refine V.aload_n dX11_word_52 0 rfl ?_
            refine V.getf 0 11 rfl fa_X11_44_10 rfl dX11_word_53 ?_
            refine V.aload_n dX11_word_56 0 rfl ?_
            refine V.getf 0 13 rfl fa_X11_76_10 rfl dX11_word_57 ?_
            refine V.iald 1 rfl (vinI (by omega)) dX11_word_60 ?_
            refine V.topc (v := (F ((frT F n t) + j))) (by rw [nI_clamp (by omega)]; exact hT _ (by omega)) ?_
            refine V.iadd dX11_word_61 ?_
            refine V.bipush (v := 96) dX11_word_62 (by decide) ?_
            refine V.isub dX11_word_64 ?_
            refine V.goto (tgt := 69) dX11_word_65 (by decide) ?_
            refine V.istore_n (lv2 := [(2, .int (((27 * v) + (F ((frT F n t) + j))) - 96)), (0, .ref o), (3, .int (nI j))]) dX11_word_69 rfl (by decide) rfl ?_
            refine V.iinc (v := (nI (j + 1))) (lv2 := [(3, .int (nI (j + 1))), (2, .int (((27 * v) + (F ((frT F n t) + j))) - 96)), (0, .ref o)]) dX11_word_70 2 rfl (nI_1 _) (by decide) rfl ?_
            refine V.aload_n dX11_word_73 2 rfl ?_
            refine V.dup dX11_word_74 rfl ?_
            refine V.getf 0 13 rfl fa_X11_76_10 rfl dX11_word_75 ?_
            refine V.iconst (v := 1) dX11_word_78 (by decide) ?_
            refine V.iadd dX11_word_79 ?_
            refine V.topc (v := (nI ((frT F n t) + (j + 1)))) (nI_1 _) ?_
            refine V.putf 0 13 (vw2 := [(o, ob 10 [.ref mw, .ref mk, .ref mt, .ref mr, .ref mki, .ref mso, .ref mst, .ref mpr, .ref msh, .ref mwa, .ref mpu, .ref mtx, .int (nI n), .int (nI ((frT F n t) + (j + 1))), .int (nI (frT F n t)), .int wr, .int cl, .int um, .ref mor, .ref mbo, .int mn, .ref tO, .ref tVi, .ref tSm, .int tm]), (mtx, aI E 160 MT)]) rfl fp_X11_76_10 rfl rfl (Nat.le_of_ble_eq_true rfl) rfl dX11_word_80 ?_
            refine V.goto (tgt := 9) dX11_word_83 (by decide) ?_
            refine V.locals [2, 1, 0] (by rfl) ?_
            exact ih_9 (j + 1) (27 * v + F ((frT F n t) + j) - 96) (by omega) (by rw [hv, Nat.min_eq_right (show j ≤ 6 by omega), Nat.min_eq_right (show j + 1 ≤ 6 by omega), vG]) hrun2 (by omega)
  exact lp_9 (dj + 1) 0 0 (Nat.zero_le _) rfl hdj (by omega)

set_option maxHeartbeats 4000000 in
set_option maxRecDepth 100000 in
theorem c_M_wordOf (E : vEnv) (l : Launch) (L : List Nat) (h : Nat → va_E) (xa : Int32) (xb : Int32) (xc : Int32) (xd : Int32) (xe : Int32) (xf : Int32) : CT E l yX11_wordOf cX11_wordOf 7 (some (.int)) 0 0 0 L h [] [.int xa, .int xb, .int xc, .int xd, .int xe, .int xf] (qP L h (fun (_ : Unit) => []) (fun _ => some (.int (wofI xa xb xc xd xe xf))) (fun _ => True)) := by
  refine CT.ofV (by decide +kernel) (Nat.le_of_ble_eq_true rfl) ?_
  refine V.locals2 (lv2 := [(0, .int xa), (1, .int xb), (2, .int xc), (3, .int xd), (4, .int xe), (5, .int xf)]) rfl ?_
  refine V.bipush (v := 27) dX11_wordOf_0 (by decide) ?_
  refine V.bipush (v := 27) dX11_wordOf_2 (by decide) ?_
  refine V.iload_n dX11_wordOf_4 0 rfl ?_
  refine V.bipush (v := 96) dX11_wordOf_5 (by decide) ?_
  refine V.isub dX11_wordOf_7 ?_
  refine V.imul dX11_wordOf_8 ?_
  refine V.iload_n dX11_wordOf_9 1 rfl ?_
  refine V.iadd dX11_wordOf_10 ?_
  refine V.bipush (v := 96) dX11_wordOf_11 (by decide) ?_
  refine V.isub dX11_wordOf_13 ?_
  refine V.imul dX11_wordOf_14 ?_
  refine V.iload_n dX11_wordOf_15 2 rfl ?_
  refine V.iadd dX11_wordOf_16 ?_
  refine V.bipush (v := 96) dX11_wordOf_17 (by decide) ?_
  refine V.isub dX11_wordOf_19 ?_
  refine V.istore (lv2 := [(6, .int (((27 * (((27 * (xa - 96)) + xb) - 96)) + xc) - 96)), (0, .int xa), (1, .int xb), (2, .int xc), (3, .int xd), (4, .int xe), (5, .int xf)]) dX11_wordOf_20 (by decide) rfl ?_
  refine V.bipush (v := 27) dX11_wordOf_22 (by decide) ?_
  refine V.iload dX11_wordOf_24 0 rfl ?_
  refine V.imul dX11_wordOf_26 ?_
  refine V.iload_n dX11_wordOf_27 4 rfl ?_
  refine V.iadd dX11_wordOf_28 ?_
  refine V.bipush (v := 96) dX11_wordOf_29 (by decide) ?_
  refine V.isub dX11_wordOf_31 ?_
  refine V.istore (lv2 := [(6, .int (((27 * (((27 * (((27 * (xa - 96)) + xb) - 96)) + xc) - 96)) + xd) - 96)), (0, .int xa), (1, .int xb), (2, .int xc), (3, .int xd), (4, .int xe), (5, .int xf)]) dX11_wordOf_32 (by decide) rfl ?_
  refine V.iload dX11_wordOf_34 5 rfl ?_
  refine V.if_ne (tgt := 44) dX11_wordOf_36 (by decide) (fun c1_36 => ?_) (fun c1_36 => ?_)
  · skip
    refine V.bipush (v := 27) dX11_wordOf_44 (by decide) ?_
    refine V.iload dX11_wordOf_46 0 rfl ?_
    refine V.imul dX11_wordOf_48 ?_
    refine V.iload dX11_wordOf_49 5 rfl ?_
    refine V.iadd dX11_wordOf_51 ?_
    refine V.bipush (v := 96) dX11_wordOf_52 (by decide) ?_
    refine V.isub dX11_wordOf_54 ?_
    refine V.istore (lv2 := [(6, .int (((27 * (((27 * (((27 * (((27 * (xa - 96)) + xb) - 96)) + xc) - 96)) + xd) - 96)) + xe) - 96)), (0, .int xa), (1, .int xb), (2, .int xc), (3, .int xd), (4, .int xe), (5, .int xf)]) dX11_wordOf_55 (by decide) rfl ?_
    refine V.iload dX11_wordOf_57 6 rfl ?_
    refine V.if_ne (tgt := 67) dX11_wordOf_59 (by decide) (fun c2_59 => ?_) (fun c2_59 => ?_)
    · skip
      refine V.bipush (v := 27) dX11_wordOf_67 (by decide) ?_
      refine V.iload dX11_wordOf_69 0 rfl ?_
      refine V.imul dX11_wordOf_71 ?_
      refine V.iload dX11_wordOf_72 6 rfl ?_
      refine V.iadd dX11_wordOf_74 ?_
      refine V.bipush (v := 96) dX11_wordOf_75 (by decide) ?_
      refine V.isub dX11_wordOf_77 ?_
      exact V.iret rfl dX11_wordOf_78 (⟨(), by unfold wofI; rw [if_neg c2_59, if_neg c1_36], rfl, rfl, trivial⟩)
    · skip
      refine V.iload dX11_wordOf_62 0 rfl ?_
      refine V.goto (tgt := 78) dX11_wordOf_64 (by decide) ?_
      exact V.iret rfl dX11_wordOf_78 (⟨(), by unfold wofI; rw [if_pos c2_59, if_neg c1_36], rfl, rfl, trivial⟩)
  · skip
    refine V.iload dX11_wordOf_39 0 rfl ?_
    refine V.goto (tgt := 55) dX11_wordOf_41 (by decide) ?_
    refine V.istore (lv2 := [(6, .int (((27 * (((27 * (((27 * (xa - 96)) + xb) - 96)) + xc) - 96)) + xd) - 96)), (0, .int xa), (1, .int xb), (2, .int xc), (3, .int xd), (4, .int xe), (5, .int xf)]) dX11_wordOf_55 (by decide) rfl ?_
    refine V.iload dX11_wordOf_57 6 rfl ?_
    refine V.if_ne (tgt := 67) dX11_wordOf_59 (by decide) (fun c3_59 => ?_) (fun c3_59 => ?_)
    · skip
      refine V.bipush (v := 27) dX11_wordOf_67 (by decide) ?_
      refine V.iload dX11_wordOf_69 0 rfl ?_
      refine V.imul dX11_wordOf_71 ?_
      refine V.iload dX11_wordOf_72 6 rfl ?_
      refine V.iadd dX11_wordOf_74 ?_
      refine V.bipush (v := 96) dX11_wordOf_75 (by decide) ?_
      refine V.isub dX11_wordOf_77 ?_
      exact V.iret rfl dX11_wordOf_78 (⟨(), by unfold wofI; rw [if_neg c3_59, if_pos c1_36], rfl, rfl, trivial⟩)
    · skip
      refine V.iload dX11_wordOf_62 0 rfl ?_
      refine V.goto (tgt := 78) dX11_wordOf_64 (by decide) ?_
      exact V.iret rfl dX11_wordOf_78 (⟨(), by unfold wofI; rw [if_pos c3_59, if_pos c1_36], rfl, rfl, trivial⟩)

set_option maxHeartbeats 4000000 in
set_option maxRecDepth 100000 in
theorem c_M_kindOf (E : vEnv) (l : Launch) (L : List Nat) (h : Nat → va_E) (v : Int32) (z : Int32) : CT E l yX11_kindOf cX11_kindOf 2 (some (.int)) 1 0 0 L h [] [.int v, .int z] (qP L h (fun (_ : Unit) => []) (fun _ => some (.int (kindW v z))) (fun _ => True)) := by
  refine CT.ofV (by decide +kernel) (Nat.le_of_ble_eq_true rfl) ?_
  refine V.locals2 (lv2 := [(0, .int v), (1, .int z)]) rfl ?_
  refine V.iload_n dX11_kindOf_0 0 rfl ?_
  refine V.bipush (v := 112) dX11_kindOf_1 (by decide) ?_
  refine V.bipush (v := 108) dX11_kindOf_3 (by decide) ?_
  refine V.bipush (v := 97) dX11_kindOf_5 (by decide) ?_
  refine V.bipush (v := 105) dX11_kindOf_7 (by decide) ?_
  refine V.bipush (v := 110) dX11_kindOf_9 (by decide) ?_
  refine V.iconst (v := 0) dX11_kindOf_11 (by decide) ?_
  refine V.callSp (As := [.int 112, .int 108, .int 97, .int 105, .int 110, .int 0]) (rest := [.int v]) [] (c_M_wordOf E l L _ 112 108 97 105 110 0) rfl (by decide) mi_X11_wordOf w_825 w_826 rfl rfl (Nat.le_of_ble_eq_true rfl) ⟨by decide, by decide⟩ ⟨by decide, by decide⟩ dX11_kindOf_12 (vw2 := fun _ => []) (st2 := fun _ => [.int (wofI 112 108 97 105 110 0), .int v]) (fun _ => rfl) (fun _ => rfl) (fun _ => rfl) (fun _ _ => ?_)
  refine V.topc (v := 8740238) (by decide +kernel) ?_
  refine V.icmp_ne (tgt := 20) dX11_kindOf_15 (by decide) (fun c1_15 => ?_) (fun c1_15 => ?_)
  · skip
    refine V.iload_n dX11_kindOf_20 0 rfl ?_
    refine V.bipush (v := 109) dX11_kindOf_21 (by decide) ?_
    refine V.bipush (v := 117) dX11_kindOf_23 (by decide) ?_
    refine V.bipush (v := 115) dX11_kindOf_25 (by decide) ?_
    refine V.bipush (v := 107) dX11_kindOf_27 (by decide) ?_
    refine V.iconst (v := 0) dX11_kindOf_29 (by decide) ?_
    refine V.iconst (v := 0) dX11_kindOf_30 (by decide) ?_
    refine V.callSp (As := [.int 109, .int 117, .int 115, .int 107, .int 0, .int 0]) (rest := [.int v]) [] (c_M_wordOf E l L _ 109 117 115 107 0 0) rfl (by decide) mi_X11_wordOf w_825 w_826 rfl rfl (Nat.le_of_ble_eq_true rfl) ⟨by decide, by decide⟩ ⟨by decide, by decide⟩ dX11_kindOf_31 (vw2 := fun _ => []) (st2 := fun _ => [.int (wofI 109 117 115 107 0 0), .int v]) (fun _ => rfl) (fun _ => rfl) (fun _ => rfl) (fun _ _ => ?_)
    refine V.topc (v := 271712) (by decide +kernel) ?_
    refine V.icmp_ne (tgt := 39) dX11_kindOf_34 (by decide) (fun c2_34 => ?_) (fun c2_34 => ?_)
    · skip
      refine V.iload_n dX11_kindOf_39 0 rfl ?_
      refine V.bipush (v := 99) dX11_kindOf_40 (by decide) ?_
      refine V.bipush (v := 111) dX11_kindOf_42 (by decide) ?_
      refine V.bipush (v := 102) dX11_kindOf_44 (by decide) ?_
      refine V.bipush (v := 102) dX11_kindOf_46 (by decide) ?_
      refine V.bipush (v := 101) dX11_kindOf_48 (by decide) ?_
      refine V.bipush (v := 101) dX11_kindOf_50 (by decide) ?_
      refine V.callSp (As := [.int 99, .int 111, .int 102, .int 102, .int 101, .int 101]) (rest := [.int v]) [] (c_M_wordOf E l L _ 99 111 102 102 101 101) rfl (by decide) mi_X11_wordOf w_825 w_826 rfl rfl (Nat.le_of_ble_eq_true rfl) ⟨by decide, by decide⟩ ⟨by decide, by decide⟩ dX11_kindOf_52 (vw2 := fun _ => []) (st2 := fun _ => [.int (wofI 99 111 102 102 101 101), .int v]) (fun _ => rfl) (fun _ => rfl) (fun _ => rfl) (fun _ _ => ?_)
      refine V.topc (v := 51140948) (by decide +kernel) ?_
      refine V.icmp_ne (tgt := 60) dX11_kindOf_55 (by decide) (fun c3_55 => ?_) (fun c3_55 => ?_)
      · skip
        refine V.iload_n dX11_kindOf_60 0 rfl ?_
        refine V.bipush (v := 110) dX11_kindOf_61 (by decide) ?_
        refine V.bipush (v := 111) dX11_kindOf_63 (by decide) ?_
        refine V.bipush (v := 116) dX11_kindOf_65 (by decide) ?_
        refine V.bipush (v := 104) dX11_kindOf_67 (by decide) ?_
        refine V.bipush (v := 105) dX11_kindOf_69 (by decide) ?_
        refine V.bipush (v := 110) dX11_kindOf_71 (by decide) ?_
        refine V.callSp (As := [.int 110, .int 111, .int 116, .int 104, .int 105, .int 110]) (rest := [.int v]) [] (c_M_wordOf E l L _ 110 111 116 104 105 110) rfl (by decide) mi_X11_wordOf w_825 w_826 rfl rfl (Nat.le_of_ble_eq_true rfl) ⟨by decide, by decide⟩ ⟨by decide, by decide⟩ dX11_kindOf_73 (vw2 := fun _ => []) (st2 := fun _ => [.int (wofI 110 111 116 104 105 110), .int v]) (fun _ => rfl) (fun _ => rfl) (fun _ => rfl) (fun _ _ => ?_)
        refine V.topc (v := 209256062) (by decide +kernel) ?_
        refine V.ineg dX11_kindOf_76 ?_
        refine V.topc (v := (-209256062)) (by decide) ?_
        refine V.icmp_ne (tgt := 90) dX11_kindOf_77 (by decide) (fun c4_77 => ?_) (fun c4_77 => ?_)
        · skip
          refine V.iconst (v := (-1)) dX11_kindOf_90 (by decide) ?_
          exact V.iret rfl dX11_kindOf_91 (⟨(), by unfold kindW; rw [if_neg c1_15, if_neg c2_34, if_neg c3_55, if_neg (fun h9 => c4_77 h9.1)], rfl, rfl, trivial⟩)
        · skip
          refine V.iload_n dX11_kindOf_80 1 rfl ?_
          refine V.bipush (v := 103) dX11_kindOf_81 (by decide) ?_
          refine V.icmp_ne (tgt := 90) dX11_kindOf_83 (by decide) (fun c5_83 => ?_) (fun c5_83 => ?_)
          · skip
            refine V.iconst (v := (-1)) dX11_kindOf_90 (by decide) ?_
            exact V.iret rfl dX11_kindOf_91 (⟨(), by unfold kindW; rw [if_neg c1_15, if_neg c2_34, if_neg c3_55, if_neg (fun h9 => c5_83 h9.2)], rfl, rfl, trivial⟩)
          · skip
            refine V.iconst (v := 3) dX11_kindOf_86 (by decide) ?_
            refine V.goto (tgt := 91) dX11_kindOf_87 (by decide) ?_
            exact V.iret rfl dX11_kindOf_91 (⟨(), by unfold kindW; rw [if_neg c1_15, if_neg c2_34, if_neg c3_55, if_pos ⟨c4_77, c5_83⟩], rfl, rfl, trivial⟩)
      · skip
        refine V.iconst (v := 2) dX11_kindOf_58 (by decide) ?_
        exact V.iret rfl dX11_kindOf_59 (⟨(), by unfold kindW; rw [if_neg c1_15, if_neg c2_34, if_pos c3_55], rfl, rfl, trivial⟩)
    · skip
      refine V.iconst (v := 1) dX11_kindOf_37 (by decide) ?_
      exact V.iret rfl dX11_kindOf_38 (⟨(), by unfold kindW; rw [if_neg c1_15, if_pos c2_34], rfl, rfl, trivial⟩)
  · skip
    refine V.iconst (v := 0) dX11_kindOf_18 (by decide) ?_
    exact V.iret rfl dX11_kindOf_19 (⟨(), by unfold kindW; rw [if_pos c1_15], rfl, rfl, trivial⟩)
