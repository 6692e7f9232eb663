set_option maxHeartbeats 4000000 in
set_option maxRecDepth 100000 in
theorem c_M_read (E : vEnv) (l : Launch) (L : List Nat) (h : Nat → va_E) (o : Nat) (mw : Nat) (mk : Nat) (mt : Nat) (mr : Nat) (mki : Nat) (mso : Nat) (mst : Nat) (mpr : Nat) (msh : Nat) (mwa : Nat) (mpu : Nat) (mtx : Nat) (mor : Nat) (mbo : Nat) (tO : Nat) (tVi : Nat) (tSm : Nat) (ma : Int32) (bg : Int32) (wr : Int32) (cl : Int32) (um : Int32) (mn : Int32) (tm : Int32) (n : Nat) (MT : Nat → Int32) (F : Nat → Int32) (Ti : Nat → Int32) (Re : Nat → Int32) (Ki : Nat → Int32) (So : Nat → Int32) (St : Nat → Int32) (Pr : Nat → Int32) (Sh : Nat → Int32) (Wa : Nat → Int32) (Pu : Nat → Int32) (s : LST) (hn : n ≤ 160) (hT : ∀ j, j < n → MT j = F j) (hH : MF (Ti, Re, Ki, So, St, Pr, Sh, Wa, Pu) s) (hm6 : s.2.2.1 ≤ 6) (hF8 : ∀ j, j < n → ¬ F j < 0) : CT E l yX11_read cX11_read 2 (some (.int)) 4 0 0 L h [(o, ob 10 [.ref mw, .ref mk, .ref mt, .ref mr, .ref mki, .ref mso, .ref mst, .ref mpr, .ref msh, .ref mwa, .ref mpu, .ref mtx, .int (nI n), .int ma, .int bg, .int wr, .int cl, .int um, .ref mor, .ref mbo, .int mn, .ref tO, .ref tVi, .ref tSm, .int tm]), (mtx, aI E 160 MT), (mt, aI E 8 Ti), (mr, aI E 8 Re), (mki, aI E 12 Ki), (mso, aI E 12 So), (mst, aI E 12 St), (mpr, aI E 12 Pr), (msh, aI E 2 Sh), (mwa, aI E 2 Wa), (mpu, aI E 2 Pu)] [.ref o] (qP L h (fun (u : MAR × Int32 × Int32 × Int32 × Int32 × Int32) => [(o, ob 10 [.ref mw, .ref mk, .ref mt, .ref mr, .ref mki, .ref mso, .ref mst, .ref mpr, .ref msh, .ref mwa, .ref mpu, .ref mtx, .int (nI n), .int u.2.1, .int u.2.2.1, .int u.2.2.2.1, .int u.2.2.2.2.1, .int um, .ref mor, .ref mbo, .int mn, .ref tO, .ref tVi, .ref tSm, .int tm]), (mtx, aI E 160 MT), (mt, aI E 8 u.1.1), (mr, aI E 8 u.1.2.1), (mki, aI E 12 u.1.2.2.1), (mso, aI E 12 u.1.2.2.2.1), (mst, aI E 12 u.1.2.2.2.2.1), (mpr, aI E 12 u.1.2.2.2.2.2.1), (msh, aI E 2 u.1.2.2.2.2.2.2.1), (mwa, aI E 2 u.1.2.2.2.2.2.2.2.1), (mpu, aI E 2 u.1.2.2.2.2.2.2.2.2)]) (fun u => some (.int u.2.2.2.2.2)) (fun u => rdM (readG F n 13 0 s.2.2.1) s (Ti, Re, Ki, So, St, Pr, Sh, Wa, Pu) u.1 u.2.2.2.2.1 u.2.2.2.2.2)) := by
  refine CT.ofV (by decide +kernel) (Nat.le_of_ble_eq_true rfl) ?_
  obtain ⟨Z, hZ⟩ : ∃ Z, Z = mZ E (qP L h (fun (u : MAR × Int32 × Int32 × Int32 × Int32 × Int32) => [(o, ob 10 [.ref mw, .ref mk, .ref mt, .ref mr, .ref mki, .ref mso, .ref mst, .ref mpr, .ref msh, .ref mwa, .ref mpu, .ref mtx, .int (nI n), .int u.2.1, .int u.2.2.1, .int u.2.2.2.1, .int u.2.2.2.2.1, .int um, .ref mor, .ref mbo, .int mn, .ref tO, .ref tVi, .ref tSm, .int tm]), (mtx, aI E 160 MT), (mt, aI E 8 u.1.1), (mr, aI E 8 u.1.2.1), (mki, aI E 12 u.1.2.2.1), (mso, aI E 12 u.1.2.2.2.1), (mst, aI E 12 u.1.2.2.2.2.1), (mpr, aI E 12 u.1.2.2.2.2.2.1), (msh, aI E 2 u.1.2.2.2.2.2.2.1), (mwa, aI E 2 u.1.2.2.2.2.2.2.2.1), (mpu, aI E 2 u.1.2.2.2.2.2.2.2.2)]) (fun u => some (.int u.2.2.2.2.2)) (fun u => rdM (readG F n 13 0 s.2.2.1) s (Ti, Re, Ki, So, St, Pr, Sh, Wa, Pu) u.1 u.2.2.2.2.1 u.2.2.2.2.2)) 0 0 := ⟨_, rfl⟩
  rw [← hZ]
  refine V.locals2 (lv2 := [(0, .ref o)]) rfl ?_
  refine V.aload_n dX11_read_0 0 rfl ?_
  refine V.iconst (v := 0) dX11_read_1 (by decide) ?_
  refine V.iconst (v := 1) dX11_read_2 (by decide) ?_
  refine V.callVp (As := [.int 0, .int 1]) (rest := []) [0, 2, 3, 4, 5, 6, 7, 8, 9, 10] (c_M_copyHalf_0 E l L _ o mw mk mt mr mki mso mst mpr msh mwa mpu mtx mor mbo tO tVi tSm ((nI n)) ma bg wr cl um mn tm Ti Re Ki So St Pr Sh Wa Pu) rfl (by decide) mi_X11_copyHalf 0 rfl rfl w_804 w_806 wp_9 rfl rfl (Nat.le_of_ble_eq_true rfl) ⟨by decide, by decide⟩ ⟨by decide, by decide⟩ dX11_read_3 (vw2 := fun _ => [(o, ob 10 [.ref mw, .ref mk, .ref mt, .ref mr, .ref mki, .ref mso, .ref mst, .ref mpr, .ref msh, .ref mwa, .ref mpu, .ref mtx, .int (nI n), .int ma, .int bg, .int wr, .int cl, .int um, .ref mor, .ref mbo, .int mn, .ref tO, .ref tVi, .ref tSm, .int tm]), (mtx, aI E 160 MT), (mt, aI E 8 (putH 4 Ti 1 (fun j => Ti (0 + j)))), (mr, aI E 8 (putH 4 Re 1 (fun j => Re (0 + j)))), (mki, aI E 12 (putH 6 Ki 1 (fun j => Ki (0 + j)))), (mso, aI E 12 (putH 6 So 1 (fun j => So (0 + j)))), (mst, aI E 12 (putH 6 St 1 (fun j => St (0 + j)))), (mpr, aI E 12 (putH 6 Pr 1 (fun j => Pr (0 + j)))), (msh, aI E 2 (putH 1 Sh 1 (fun j => Sh (0 + j)))), (mwa, aI E 2 (putH 1 Wa 1 (fun j => Wa (0 + j)))), (mpu, aI E 2 (putH 1 Pu 1 (fun j => Pu (0 + j))))]) (st2 := fun _ => []) (fun _ => rfl) (fun _ => rfl) (fun _ => rfl) (fun _ _ => ?_)
  refine V.aload_n dX11_read_6 0 rfl ?_
  refine V.iconst (v := 0) dX11_read_7 (by decide) ?_
  refine V.putf 0 13 (vw2 := [(o, ob 10 [.ref mw, .ref mk, .ref mt, .ref mr, .ref mki, .ref mso, .ref mst, .ref mpr, .ref msh, .ref mwa, .ref mpu, .ref mtx, .int (nI n), .int 0, .int bg, .int wr, .int cl, .int um, .ref mor, .ref mbo, .int mn, .ref tO, .ref tVi, .ref tSm, .int tm]), (mtx, aI E 160 MT), (mt, aI E 8 (putH 4 Ti 1 (fun j => Ti (0 + j)))), (mr, aI E 8 (putH 4 Re 1 (fun j => Re (0 + j)))), (mki, aI E 12 (putH 6 Ki 1 (fun j => Ki (0 + j)))), (mso, aI E 12 (putH 6 So 1 (fun j => So (0 + j)))), (mst, aI E 12 (putH 6 St 1 (fun j => St (0 + j)))), (mpr, aI E 12 (putH 6 Pr 1 (fun j => Pr (0 + j)))), (msh, aI E 2 (putH 1 Sh 1 (fun j => Sh (0 + j)))), (mwa, aI E 2 (putH 1 Wa 1 (fun j => Wa (0 + j)))), (mpu, aI E 2 (putH 1 Pu 1 (fun j => Pu (0 + j))))]) rfl fp_X11_76_10 rfl rfl (Nat.le_of_ble_eq_true rfl) rfl dX11_read_8 ?_
  refine V.aload_n dX11_read_11 0 rfl ?_
  refine V.iconst (v := 0) dX11_read_12 (by decide) ?_
  refine V.putf 0 15 (vw2 := [(o, ob 10 [.ref mw, .ref mk, .ref mt, .ref mr, .ref mki, .ref mso, .ref mst, .ref mpr, .ref msh, .ref mwa, .ref mpu, .ref mtx, .int (nI n), .int 0, .int bg, .int 0, .int cl, .int um, .ref mor, .ref mbo, .int mn, .ref tO, .ref tVi, .ref tSm, .int tm]), (mtx, aI E 160 MT), (mt, aI E 8 (putH 4 Ti 1 (fun j => Ti (0 + j)))), (mr, aI E 8 (putH 4 Re 1 (fun j => Re (0 + j)))), (mki, aI E 12 (putH 6 Ki 1 (fun j => Ki (0 + j)))), (mso, aI E 12 (putH 6 So 1 (fun j => So (0 + j)))), (mst, aI E 12 (putH 6 St 1 (fun j => St (0 + j)))), (mpr, aI E 12 (putH 6 Pr 1 (fun j => Pr (0 + j)))), (msh, aI E 2 (putH 1 Sh 1 (fun j => Sh (0 + j)))), (mwa, aI E 2 (putH 1 Wa 1 (fun j => Wa (0 + j)))), (mpu, aI E 2 (putH 1 Pu 1 (fun j => Pu (0 + j))))]) rfl fp_X11_82_10 rfl rfl (Nat.le_of_ble_eq_true rfl) rfl dX11_read_13 ?_
  refine V.aload_n dX11_read_16 0 rfl ?_
  refine V.iconst (v := 0) dX11_read_17 (by decide) ?_
  refine V.putf 0 16 (vw2 := [(o, ob 10 [.ref mw, .ref mk, .ref mt, .ref mr, .ref mki, .ref mso, .ref mst, .ref mpr, .ref msh, .ref mwa, .ref mpu, .ref mtx, .int (nI n), .int 0, .int bg, .int 0, .int 0, .int um, .ref mor, .ref mbo, .int mn, .ref tO, .ref tVi, .ref tSm, .int tm]), (mtx, aI E 160 MT), (mt, aI E 8 (putH 4 Ti 1 (fun j => Ti (0 + j)))), (mr, aI E 8 (putH 4 Re 1 (fun j => Re (0 + j)))), (mki, aI E 12 (putH 6 Ki 1 (fun j => Ki (0 + j)))), (mso, aI E 12 (putH 6 So 1 (fun j => So (0 + j)))), (mst, aI E 12 (putH 6 St 1 (fun j => St (0 + j)))), (mpr, aI E 12 (putH 6 Pr 1 (fun j => Pr (0 + j)))), (msh, aI E 2 (putH 1 Sh 1 (fun j => Sh (0 + j)))), (mwa, aI E 2 (putH 1 Wa 1 (fun j => Wa (0 + j)))), (mpu, aI E 2 (putH 1 Pu 1 (fun j => Pu (0 + j))))]) rfl fp_X11_120_10 rfl rfl (Nat.le_of_ble_eq_true rfl) rfl dX11_read_18 ?_
  refine V.iconst (v := 1) dX11_read_21 (by decide) ?_
  refine V.istore_n (lv2 := [(1, .int 1), (0, .ref o)]) dX11_read_22 rfl (by decide) rfl ?_
  have hcp := mh_copy hH hm6
  refine V.locals [1, 0] (by rfl) ?_
  have lp_23 : ∀ (fuel : Nat) (A : MAR) (t : Nat) (c : Nat) (cs : List CLA) (mo : Int32) (ap : Int32) (bg9 : Int32) (wr9 : Int32) (d : Nat) (hinv : (mo = 1 ∧ ap = nI t ∧ wr9 = 0 ∧ t ≤ n ∧ 1 ≤ d ∧ c + d = 14 ∧ MH1 (Ti, Re, Ki, So, St, Pr, Sh, Wa, Pu) A ∧ MH2 A (lanesG s cs) ∧ cs.length = c ∧ (lanesG s cs).2.2.1 ≤ 6 ∧ preC cs (readG F n (d - 1) t (lanesG s cs).2.2.1) = (readG F n 13 0 s.2.2.1)) ∨ (mo = 0 ∧ rdF (readG F n 13 0 s.2.2.1) s (Ti, Re, Ki, So, St, Pr, Sh, Wa, Pu) A bg9 wr9 (nI c))) (hf : d < fuel), V E l yX11_read cX11_read 2 (some (.int)) (rmk 4 0 0) Z L h 0 0 [(o, ob 10 [.ref mw, .ref mk, .ref mt, .ref mr, .ref mki, .ref mso, .ref mst, .ref mpr, .ref msh, .ref mwa, .ref mpu, .ref mtx, .int (nI n), .int ap, .int bg9, .int wr9, .int (nI c), .int um, .ref mor, .ref mbo, .int mn, .ref tO, .ref tVi, .ref tSm, .int tm]), (mtx, aI E 160 MT), (mt, aI E 8 A.1), (mr, aI E 8 A.2.1), (mki, aI E 12 A.2.2.1), (mso, aI E 12 A.2.2.2.1), (mst, aI E 12 A.2.2.2.2.1), (mpr, aI E 12 A.2.2.2.2.2.1), (msh, aI E 2 A.2.2.2.2.2.2.1), (mwa, aI E 2 A.2.2.2.2.2.2.2.1), (mpu, aI E 2 A.2.2.2.2.2.2.2.2)] 23 [(0, .ref o), (1, .int mo)] [] := by
    intro fuel
    induction fuel with
    | zero =>
      intro A t c cs mo ap bg9 wr9 d hinv hf
      exfalso; omega
    | succ fuel ih_23 =>
      intro A t c cs mo ap bg9 wr9 d hinv hf
      refine V.iload_n dX11_read_23 1 rfl ?_
      refine V.if_eq (tgt := 117) dX11_read_24 (by decide) (fun c1_24 => ?_) (fun c1_24 => ?_)
      · skip
        have hfin := (hinv.resolve_left (fun hh => absurd (hh.1.symm.trans c1_24) (by decide))).2
        obtain ⟨hA1, hfx⟩ := hfin
        rcases hft : (readG F n 13 0 s.2.2.1) with p | q <;> rw [hft] at hfx
        · skip
          obtain ⟨rfl, rfl⟩ := hfx
          refine V.aload_n dX11_read_117 0 rfl ?_
          refine V.getf 0 15 rfl fa_X11_82_10 rfl dX11_read_118 ?_
          refine V.if_eq (tgt := 131) dX11_read_121 (by decide) (fun hc => absurd hc (by decide)) (fun _ => ?_)
          refine V.aload_n dX11_read_124 0 rfl ?_
          refine V.getf 0 14 rfl fa_X11_79_10 rfl dX11_read_125 ?_
          refine V.goto (tgt := 132) dX11_read_128 (by decide) ?_
          subst hZ
          exact V.iret rfl dX11_read_132 (⟨(A, ap, nI p, 1, nI c, nI p), rfl, rfl, rfl, hA1, by rw [hft]⟩)
        · skip
          obtain ⟨rfl, hcl, hH2⟩ := hfx
          refine V.aload_n dX11_read_117 0 rfl ?_
          refine V.getf 0 15 rfl fa_X11_82_10 rfl dX11_read_118 ?_
          refine V.if_eq (tgt := 131) dX11_read_121 (by decide) (fun _ => ?_) (fun hc => absurd (by decide) hc)
          refine V.iconst (v := (-1)) dX11_read_131 (by decide) ?_
          subst hZ
          exact V.iret rfl dX11_read_132 (⟨(A, ap, bg9, 0, nI c, -1), rfl, rfl, rfl, hA1, by rw [hft]; exact ⟨rfl, hcl, hH2⟩⟩)
      · skip
        obtain ⟨hmo1, rfl, rfl, htn, hd1, hcd, hA1, hA2, hcl, hl6, htot⟩ := hinv.resolve_right (fun hh => c1_24 hh.1)
        obtain ⟨d1, rfl⟩ : ∃ d1, d = d1 + 1 := ⟨d - 1, by omega⟩
        rw [Nat.add_sub_cancel] at htot
        refine V.aload_n dX11_read_27 0 rfl ?_
        refine V.callVp (As := []) (rest := []) [0, 1, 2, 3, 4, 5, 6, 7, 8, 9, 10] (c_M_clause E l L _ o mw mk mt mr mki mso mst mpr msh mwa mpu mtx mor mbo tO tVi tSm bg9 um mn tm n MT F t A.1 A.2.1 A.2.2.1 A.2.2.2.1 A.2.2.2.2.1 A.2.2.2.2.2.1 A.2.2.2.2.2.2.1 A.2.2.2.2.2.2.2.1 A.2.2.2.2.2.2.2.2 ((lanesG s cs)) c (htn) (hn) (hT) (hA2) (hl6)) rfl (by decide) mi_X11_clause 0 rfl rfl w_808 w_810 wp_10 rfl rfl (Nat.le_of_ble_eq_true rfl) ⟨by decide, by decide⟩ ⟨by decide, by decide⟩ dX11_read_28 (vw2 := fun u28 => [(o, ob 10 [.ref mw, .ref mk, .ref mt, .ref mr, .ref mki, .ref mso, .ref mst, .ref mpr, .ref msh, .ref mwa, .ref mpu, .ref mtx, .int (nI n), .int u28.2.1, .int u28.2.2.1, .int u28.2.2.2, .int (nI (c + 1)), .int um, .ref mor, .ref mbo, .int mn, .ref tO, .ref tVi, .ref tSm, .int tm]), (mtx, aI E 160 MT), (mt, aI E 8 u28.1.1), (mr, aI E 8 u28.1.2.1), (mki, aI E 12 u28.1.2.2.1), (mso, aI E 12 u28.1.2.2.2.1), (mst, aI E 12 u28.1.2.2.2.2.1), (mpr, aI E 12 u28.1.2.2.2.2.2.1), (msh, aI E 2 u28.1.2.2.2.2.2.2.1), (mwa, aI E 2 u28.1.2.2.2.2.2.2.2.1), (mpu, aI E 2 u28.1.2.2.2.2.2.2.2.2)]) (st2 := fun u28 => []) (fun _ => rfl) (fun _ => rfl) (fun _ => rfl) (fun u28 hq_28 => ?_)
        obtain ⟨hm1, hcl2⟩ := hq_28
        rcases hcg : clauseG F n t (lanesG s cs).2.2.1 with p | q <;> rw [hcg] at hcl2
        · skip
          obtain ⟨hw1, hb1⟩ := hcl2
          rw [hw1]
          have hft : (readG F n 13 0 s.2.2.1) = .inl p := by rw [← htot, readG_bad hcg]; rfl
          refine V.aload_n dX11_read_31 0 rfl ?_
          refine V.getf 0 15 rfl fa_X11_82_10 rfl dX11_read_32 ?_
          refine V.if_ne (tgt := 49) dX11_read_35 (by decide) (fun _ => ?_) (fun hc => absurd hc (by decide))
          refine V.iconst (v := 0) dX11_read_49 (by decide) ?_
          refine V.istore_n (lv2 := [(1, .int 0), (0, .ref o)]) dX11_read_50 rfl (by decide) rfl ?_
          refine V.iload_n dX11_read_51 0 rfl ?_
          refine V.if_eq (tgt := 97) dX11_read_52 (by decide) (fun _ => ?_) (fun hc => absurd (by decide) hc)
          refine V.iload_n dX11_read_97 0 rfl ?_
          refine V.if_eq (tgt := 112) dX11_read_98 (by decide) (fun _ => ?_) (fun hc => absurd (by decide) hc)
          refine V.iconst (v := 0) dX11_read_112 (by decide) ?_
          refine V.istore_n (lv2 := [(1, .int 0), (0, .ref o)]) dX11_read_113 rfl (by decide) rfl ?_
          refine V.goto (tgt := 23) dX11_read_114 (by decide) ?_
          refine V.locals [1, 0] (by rfl) ?_
          exact ih_23 u28.1 t (c + 1) cs 0 _ _ _ d1 (Or.inr ⟨rfl, hA1.tr hm1, by rw [hft]; exact ⟨rfl, hb1⟩⟩) (by omega)
        · skip
          obtain ⟨hw1, hat, hq2, hH2⟩ := hcl2
          rw [hw1, hat]
          have hle := clauseG_le htn hcg
          have hlap := lanes_app s cs q.1
          rw [← hlap] at hH2 hq2
          have hcl3 : (cs ++ [q.1]).length = c + 1 := by rw [List.length_append, hcl]; rfl
          refine V.aload_n dX11_read_31 0 rfl ?_
          refine V.getf 0 15 rfl fa_X11_82_10 rfl dX11_read_32 ?_
          refine V.if_ne (tgt := 49) dX11_read_35 (by decide) (fun hc => absurd (by decide) hc) (fun _ => ?_)
          refine V.aload_n dX11_read_38 0 rfl ?_
          refine V.callVp (As := []) (rest := []) [0, 1] (c_M_here E l L _ o mw mk mt mr mki mso mst mpr msh mwa mpu mtx mor mbo tO tVi tSm u28.2.2.1 0 ((nI (c + 1))) um mn tm n MT F q.2.1 (hle.1) (hn) (hT)) rfl (by decide) mi_X11_here 0 rfl rfl w_816 w_818 wp_12 rfl rfl (Nat.le_of_ble_eq_true rfl) ⟨by decide, by decide⟩ ⟨by decide, by decide⟩ dX11_read_39 (vw2 := fun _ => [(o, ob 10 [.ref mw, .ref mk, .ref mt, .ref mr, .ref mki, .ref mso, .ref mst, .ref mpr, .ref msh, .ref mwa, .ref mpu, .ref mtx, .int (nI n), .int (nI (frT F n q.2.1)), .int (nI (frT F n q.2.1)), .int 0, .int (nI (c + 1)), .int um, .ref mor, .ref mbo, .int mn, .ref tO, .ref tVi, .ref tSm, .int tm]), (mtx, aI E 160 MT), (mt, aI E 8 u28.1.1), (mr, aI E 8 u28.1.2.1), (mki, aI E 12 u28.1.2.2.1), (mso, aI E 12 u28.1.2.2.2.1), (mst, aI E 12 u28.1.2.2.2.2.1), (mpr, aI E 12 u28.1.2.2.2.2.2.1), (msh, aI E 2 u28.1.2.2.2.2.2.2.1), (mwa, aI E 2 u28.1.2.2.2.2.2.2.2.1), (mpu, aI E 2 u28.1.2.2.2.2.2.2.2.2)]) (st2 := fun _ => [.int (hereW F n q.2.1)]) (fun _ => rfl) (fun _ => rfl) (fun _ => rfl) (fun _ _ => ?_)
          refine V.if_lt (tgt := 49) dX11_read_42 (by decide) (fun c2_42 => ?_) (fun c2_42 => ?_)
          · skip
            have hge := here_neg hF8 c2_42
            have hft : (readG F n 13 0 s.2.2.1) = .inr (cs ++ [q.1]) := by rw [← htot, readG_end hcg hge]; rfl
            refine V.iconst (v := 0) dX11_read_49 (by decide) ?_
            refine V.istore_n (lv2 := [(1, .int 0), (0, .ref o)]) dX11_read_50 rfl (by decide) rfl ?_
            refine V.iload_n dX11_read_51 0 rfl ?_
            refine V.if_eq (tgt := 97) dX11_read_52 (by decide) (fun _ => ?_) (fun hc => absurd (by decide) hc)
            refine V.iload_n dX11_read_97 0 rfl ?_
            refine V.if_eq (tgt := 112) dX11_read_98 (by decide) (fun _ => ?_) (fun hc => absurd (by decide) hc)
            refine V.iconst (v := 0) dX11_read_112 (by decide) ?_
            refine V.istore_n (lv2 := [(1, .int 0), (0, .ref o)]) dX11_read_113 rfl (by decide) rfl ?_
            refine V.goto (tgt := 23) dX11_read_114 (by decide) ?_
            refine V.locals [1, 0] (by rfl) ?_
            exact ih_23 u28.1 t (c + 1) cs 0 _ _ _ d1 (Or.inr ⟨rfl, hA1.tr hm1, by rw [hft]; exact ⟨rfl, by rw [hcl3], hH2⟩⟩) (by omega)
          · skip
            have hlt := here_pos c2_42
            refine V.iconst (v := 1) dX11_read_45 (by decide) ?_
            refine V.goto (tgt := 50) dX11_read_46 (by decide) ?_
            refine V.istore_n (lv2 := [(1, .int 1), (0, .ref o)]) dX11_read_50 rfl (by decide) rfl ?_
            refine V.iload_n dX11_read_51 0 rfl ?_
            refine V.if_eq (tgt := 97) dX11_read_52 (by decide) (fun hc => absurd hc (by decide)) (fun _ => ?_)
            refine V.aload_n dX11_read_55 1 rfl ?_
            refine V.aload_n dX11_read_56 1 rfl ?_
            refine V.getf 0 11 rfl fa_X11_44_10 rfl dX11_read_57 ?_
            refine V.aload_n dX11_read_60 1 rfl ?_
            refine V.getf 0 13 rfl fa_X11_76_10 rfl dX11_read_61 ?_
            refine V.iald 1 rfl (vinI (by omega)) dX11_read_64 ?_
            refine V.topc (v := (F (frT F n q.2.1))) (by rw [nI_clamp (by omega)]; exact hT _ hlt) ?_
            refine V.bipush (v := 59) dX11_read_65 (by decide) ?_
            refine V.icmp_ne (tgt := 79) dX11_read_67 (by decide) (fun c3_67 => ?_) (fun c3_67 => ?_)
            · skip
              have hft : (readG F n 13 0 s.2.2.1) = .inl (frT F n q.2.1) := by rw [← htot, readG_not hcg (by omega) c3_67]; rfl
              refine V.iconst (v := 1) dX11_read_79 (by decide) ?_
              refine V.goto (tgt := 84) dX11_read_80 (by decide) ?_
              refine V.putf 0 15 (vw2 := [(o, ob 10 [.ref mw, .ref mk, .ref mt, .ref mr, .ref mki, .ref mso, .ref mst, .ref mpr, .ref msh, .ref mwa, .ref mpu, .ref mtx, .int (nI n), .int (nI (frT F n q.2.1)), .int (nI (frT F n q.2.1)), .int 1, .int (nI (c + 1)), .int um, .ref mor, .ref mbo, .int mn, .ref tO, .ref tVi, .ref tSm, .int tm]), (mtx, aI E 160 MT), (mt, aI E 8 u28.1.1), (mr, aI E 8 u28.1.2.1), (mki, aI E 12 u28.1.2.2.1), (mso, aI E 12 u28.1.2.2.2.1), (mst, aI E 12 u28.1.2.2.2.2.1), (mpr, aI E 12 u28.1.2.2.2.2.2.1), (msh, aI E 2 u28.1.2.2.2.2.2.2.1), (mwa, aI E 2 u28.1.2.2.2.2.2.2.2.1), (mpu, aI E 2 u28.1.2.2.2.2.2.2.2.2)]) rfl fp_X11_82_10 rfl rfl (Nat.le_of_ble_eq_true rfl) rfl dX11_read_84 ?_
              refine V.aload_n dX11_read_87 1 rfl ?_
              refine V.dup dX11_read_88 rfl ?_
              refine V.getf 0 13 rfl fa_X11_76_10 rfl dX11_read_89 ?_
              refine V.iconst (v := 1) dX11_read_92 (by decide) ?_
              refine V.iadd dX11_read_93 ?_
              refine V.topc (v := (nI (frT F n q.2.1 + 1))) (nI_1 _) ?_
              refine V.putf 0 13 (vw2 := [(o, ob 10 [.ref mw, .ref mk, .ref mt, .ref mr, .ref mki, .ref mso, .ref mst, .ref mpr, .ref msh, .ref mwa, .ref mpu, .ref mtx, .int (nI n), .int (nI (frT F n q.2.1 + 1)), .int (nI (frT F n q.2.1)), .int 1, .int (nI (c + 1)), .int um, .ref mor, .ref mbo, .int mn, .ref tO, .ref tVi, .ref tSm, .int tm]), (mtx, aI E 160 MT), (mt, aI E 8 u28.1.1), (mr, aI E 8 u28.1.2.1), (mki, aI E 12 u28.1.2.2.1), (mso, aI E 12 u28.1.2.2.2.1), (mst, aI E 12 u28.1.2.2.2.2.1), (mpr, aI E 12 u28.1.2.2.2.2.2.1), (msh, aI E 2 u28.1.2.2.2.2.2.2.1), (mwa, aI E 2 u28.1.2.2.2.2.2.2.2.1), (mpu, aI E 2 u28.1.2.2.2.2.2.2.2.2)]) rfl fp_X11_76_10 rfl rfl (Nat.le_of_ble_eq_true rfl) rfl dX11_read_94 ?_
              refine V.iload_n dX11_read_97 0 rfl ?_
              refine V.if_eq (tgt := 112) dX11_read_98 (by decide) (fun hc => absurd hc (by decide)) (fun _ => ?_)
              refine V.aload_n dX11_read_101 1 rfl ?_
              refine V.getf 0 15 rfl fa_X11_82_10 rfl dX11_read_102 ?_
              refine V.if_ne (tgt := 112) dX11_read_105 (by decide) (fun _ => ?_) (fun hc => absurd hc (by decide))
              refine V.iconst (v := 0) dX11_read_112 (by decide) ?_
              refine V.istore_n (lv2 := [(1, .int 0), (0, .ref o)]) dX11_read_113 rfl (by decide) rfl ?_
              refine V.goto (tgt := 23) dX11_read_114 (by decide) ?_
              refine V.locals [1, 0] (by rfl) ?_
              exact ih_23 u28.1 t (c + 1) cs 0 _ _ _ d1 (Or.inr ⟨rfl, hA1.tr hm1, by rw [hft]; exact ⟨rfl, rfl⟩⟩) (by omega)
            · skip
              refine V.aload_n dX11_read_70 1 rfl ?_
              refine V.getf 0 16 rfl fa_X11_120_10 rfl dX11_read_71 ?_
              refine V.bipush (v := 14) dX11_read_74 (by decide) ?_
              refine V.icmp_ne (tgt := 83) dX11_read_76 (by decide) (fun c4_76 => ?_) (fun c4_76 => ?_)
              · skip
                have hd0 : d1 ≠ 0 := fun h9 => c4_76 (by rw [show c + 1 = 14 by omega]; rfl)
                obtain ⟨d2, rfl⟩ : ∃ d2, d1 = d2 + 1 := ⟨d1 - 1, by omega⟩
                have hft : preC (cs ++ [q.1]) (readG F n d2 (teT F n q.2.1) q.2.2) = (readG F n 13 0 s.2.2.1) := by rw [← htot]; exact (readG_more hcg (by omega) c3_67).symm
                have hts := teT_semi hlt c3_67
                refine V.iconst (v := 0) dX11_read_83 (by decide) ?_
                refine V.putf 0 15 (vw2 := [(o, ob 10 [.ref mw, .ref mk, .ref mt, .ref mr, .ref mki, .ref mso, .ref mst, .ref mpr, .ref msh, .ref mwa, .ref mpu, .ref mtx, .int (nI n), .int (nI (frT F n q.2.1)), .int (nI (frT F n q.2.1)), .int 0, .int (nI (c + 1)), .int um, .ref mor, .ref mbo, .int mn, .ref tO, .ref tVi, .ref tSm, .int tm]), (mtx, aI E 160 MT), (mt, aI E 8 u28.1.1), (mr, aI E 8 u28.1.2.1), (mki, aI E 12 u28.1.2.2.1), (mso, aI E 12 u28.1.2.2.2.1), (mst, aI E 12 u28.1.2.2.2.2.1), (mpr, aI E 12 u28.1.2.2.2.2.2.1), (msh, aI E 2 u28.1.2.2.2.2.2.2.1), (mwa, aI E 2 u28.1.2.2.2.2.2.2.2.1), (mpu, aI E 2 u28.1.2.2.2.2.2.2.2.2)]) rfl fp_X11_82_10 rfl rfl (Nat.le_of_ble_eq_true rfl) rfl dX11_read_84 ?_
                refine V.aload_n dX11_read_87 1 rfl ?_
                refine V.dup dX11_read_88 rfl ?_
                refine V.getf 0 13 rfl fa_X11_76_10 rfl dX11_read_89 ?_
                refine V.iconst (v := 1) dX11_read_92 (by decide) ?_
                refine V.iadd dX11_read_93 ?_
                refine V.topc (v := (nI (frT F n q.2.1 + 1))) (nI_1 _) ?_
                refine V.putf 0 13 (vw2 := [(o, ob 10 [.ref mw, .ref mk, .ref mt, .ref mr, .ref mki, .ref mso, .ref mst, .ref mpr, .ref msh, .ref mwa, .ref mpu, .ref mtx, .int (nI n), .int (nI (frT F n q.2.1 + 1)), .int (nI (frT F n q.2.1)), .int 0, .int (nI (c + 1)), .int um, .ref mor, .ref mbo, .int mn, .ref tO, .ref tVi, .ref tSm, .int tm]), (mtx, aI E 160 MT), (mt, aI E 8 u28.1.1), (mr, aI E 8 u28.1.2.1), (mki, aI E 12 u28.1.2.2.1), (mso, aI E 12 u28.1.2.2.2.1), (mst, aI E 12 u28.1.2.2.2.2.1), (mpr, aI E 12 u28.1.2.2.2.2.2.1), (msh, aI E 2 u28.1.2.2.2.2.2.2.1), (mwa, aI E 2 u28.1.2.2.2.2.2.2.2.1), (mpu, aI E 2 u28.1.2.2.2.2.2.2.2.2)]) rfl fp_X11_76_10 rfl rfl (Nat.le_of_ble_eq_true rfl) rfl dX11_read_94 ?_
                refine V.iload_n dX11_read_97 0 rfl ?_
                refine V.if_eq (tgt := 112) dX11_read_98 (by decide) (fun hc => absurd hc (by decide)) (fun _ => ?_)
                refine V.aload_n dX11_read_101 1 rfl ?_
                refine V.getf 0 15 rfl fa_X11_82_10 rfl dX11_read_102 ?_
                refine V.if_ne (tgt := 112) dX11_read_105 (by decide) (fun hc => absurd (by decide) hc) (fun _ => ?_)
                refine V.iconst (v := 1) dX11_read_108 (by decide) ?_
                refine V.goto (tgt := 113) dX11_read_109 (by decide) ?_
                refine V.istore_n (lv2 := [(1, .int 1), (0, .ref o)]) dX11_read_113 rfl (by decide) rfl ?_
                refine V.goto (tgt := 23) dX11_read_114 (by decide) ?_
                refine V.locals [1, 0] (by rfl) ?_
                exact ih_23 u28.1 (teT F n q.2.1) (c + 1) (cs ++ [q.1]) 1 _ _ _ (d2 + 1) (Or.inl ⟨rfl, by rw [hts], rfl, teT_le hle.1, by omega, by omega, hA1.tr hm1, hH2, hcl3, by rw [← hq2]; exact hle.2, by rw [Nat.add_sub_cancel, ← hq2]; exact hft⟩) (by omega)
              · skip
                have hd0 : d1 = 0 := by have h9 := (nI_eq (b := 14) (by omega) (by omega)).mp c4_76; omega
                have hft : (readG F n 13 0 s.2.2.1) = .inl (frT F n q.2.1) := by rw [← htot, hd0, readG_full hcg (by omega) c3_67]; rfl
                refine V.iconst (v := 1) dX11_read_79 (by decide) ?_
                refine V.goto (tgt := 84) dX11_read_80 (by decide) ?_
                refine V.putf 0 15 (vw2 := [(o, ob 10 [.ref mw, .ref mk, .ref mt, .ref mr, .ref mki, .ref mso, .ref mst, .ref mpr, .ref msh, .ref mwa, .ref mpu, .ref mtx, .int (nI n), .int (nI (frT F n q.2.1)), .int (nI (frT F n q.2.1)), .int 1, .int (nI (c + 1)), .int um, .ref mor, .ref mbo, .int mn, .ref tO, .ref tVi, .ref tSm, .int tm]), (mtx, aI E 160 MT), (mt, aI E 8 u28.1.1), (mr, aI E 8 u28.1.2.1), (mki, aI E 12 u28.1.2.2.1), (mso, aI E 12 u28.1.2.2.2.1), (mst, aI E 12 u28.1.2.2.2.2.1), (mpr, aI E 12 u28.1.2.2.2.2.2.1), (msh, aI E 2 u28.1.2.2.2.2.2.2.1), (mwa, aI E 2 u28.1.2.2.2.2.2.2.2.1), (mpu, aI E 2 u28.1.2.2.2.2.2.2.2.2)]) rfl fp_X11_82_10 rfl rfl (Nat.le_of_ble_eq_true rfl) rfl dX11_read_84 ?_
                refine V.aload_n dX11_read_87 1 rfl ?_
                refine V.dup dX11_read_88 rfl ?_
                refine V.getf 0 13 rfl fa_X11_76_10 rfl dX11_read_89 ?_
                refine V.iconst (v := 1) dX11_read_92 (by decide) ?_
                refine V.iadd dX11_read_93 ?_
                refine V.topc (v := (nI (frT F n q.2.1 + 1))) (nI_1 _) ?_
                refine V.putf 0 13 (vw2 := [(o, ob 10 [.ref mw, .ref mk, .ref mt, .ref mr, .ref mki, .ref mso, .ref mst, .ref mpr, .ref msh, .ref mwa, .ref mpu, .ref mtx, .int (nI n), .int (nI (frT F n q.2.1 + 1)), .int (nI (frT F n q.2.1)), .int 1, .int (nI (c + 1)), .int um, .ref mor, .ref mbo, .int mn, .ref tO, .ref tVi, .ref tSm, .int tm]), (mtx, aI E 160 MT), (mt, aI E 8 u28.1.1), (mr, aI E 8 u28.1.2.1), (mki, aI E 12 u28.1.2.2.1), (mso, aI E 12 u28.1.2.2.2.1), (mst, aI E 12 u28.1.2.2.2.2.1), (mpr, aI E 12 u28.1.2.2.2.2.2.1), (msh, aI E 2 u28.1.2.2.2.2.2.2.1), (mwa, aI E 2 u28.1.2.2.2.2.2.2.2.1), (mpu, aI E 2 u28.1.2.2.2.2.2.2.2.2)]) rfl fp_X11_76_10 rfl rfl (Nat.le_of_ble_eq_true rfl) rfl dX11_read_94 ?_
                refine V.iload_n dX11_read_97 0 rfl ?_
                refine V.if_eq (tgt := 112) dX11_read_98 (by decide) (fun hc => absurd hc (by decide)) (fun _ => ?_)
                refine V.aload_n dX11_read_101 1 rfl ?_
                refine V.getf 0 15 rfl fa_X11_82_10 rfl dX11_read_102 ?_
                refine V.if_ne (tgt := 112) dX11_read_105 (by decide) (fun _ => ?_) (fun hc => absurd hc (by decide))
                refine V.iconst (v := 0) dX11_read_112 (by decide) ?_
                refine V.istore_n (lv2 := [(1, .int 0), (0, .ref o)]) dX11_read_113 rfl (by decide) rfl ?_
                refine V.goto (tgt := 23) dX11_read_114 (by decide) ?_
                refine V.locals [1, 0] (by rfl) ?_
                exact ih_23 u28.1 t (c + 1) cs 0 _ _ _ d1 (Or.inr ⟨rfl, hA1.tr hm1, by rw [hft]; exact ⟨rfl, rfl⟩⟩) (by omega)
  exact lp_23 (15) (putH 4 Ti 1 (fun j => Ti (0 + j)), putH 4 Re 1 (fun j => Re (0 + j)), putH 6 Ki 1 (fun j => Ki (0 + j)), putH 6 So 1 (fun j => So (0 + j)), putH 6 St 1 (fun j => St (0 + j)), putH 6 Pr 1 (fun j => Pr (0 + j)), putH 1 Sh 1 (fun j => Sh (0 + j)), putH 1 Wa 1 (fun j => Wa (0 + j)), putH 1 Pu 1 (fun j => Pu (0 + j))) 0 0 [] 1 0 bg 0 14 (Or.inl ⟨rfl, rfl, rfl, Nat.zero_le _, by decide, rfl, hcp.1, hcp.2, rfl, hm6, preC_nil _⟩) (by omega)

set_option maxHeartbeats 4000000 in
set_option maxRecDepth 100000 in
theorem c_M_fault (E : vEnv) (l : Launch) (L : List Nat) (h : Nat → va_E) (o : Nat) (mw : Nat) (mk : Nat) (mt : Nat) (mr : Nat) (mki : Nat) (mso : Nat) (mst : Nat) (mpr : Nat) (msh : Nat) (mwa : Nat) (mpu : Nat) (mtx : Nat) (mor : Nat) (mbo : Nat) (tO : Nat) (tVi : Nat) (tSm : Nat) (ma : Int32) (bg : Int32) (wr : Int32) (cl : Int32) (um : Int32) (mn : Int32) (tm : Int32) (n : Nat) (MT : Nat → Int32) (F : Nat → Int32) (Ti : Nat → Int32) (Re : Nat → Int32) (Ki : Nat → Int32) (So : Nat → Int32) (St : Nat → Int32) (Pr : Nat → Int32) (Sh : Nat → Int32) (Wa : Nat → Int32) (Pu : Nat → Int32) (s : LST) (hn : n ≤ 160) (hT : ∀ j, j < n → MT j = F j) (hH : MF (Ti, Re, Ki, So, St, Pr, Sh, Wa, Pu) s) (hm6 : s.2.2.1 ≤ 6) (hF8 : ∀ j, j < n → ¬ F j < 0) : CT E l yX11_fault cX11_fault 1 (some (.int)) 5 0 0 L h [(o, ob 10 [.ref mw, .ref mk, .ref mt, .ref mr, .ref mki, .ref mso, .ref mst, .ref mpr, .ref msh, .ref mwa, .ref mpu, .ref mtx, .int (nI n), .int ma, .int bg, .int wr, .int cl, .int um, .ref mor, .ref mbo, .int mn, .ref tO, .ref tVi, .ref tSm, .int tm]), (mtx, aI E 160 MT), (mt, aI E 8 Ti), (mr, aI E 8 Re), (mki, aI E 12 Ki), (mso, aI E 12 So), (mst, aI E 12 St), (mpr, aI E 12 Pr), (msh, aI E 2 Sh), (mwa, aI E 2 Wa), (mpu, aI E 2 Pu)] [.ref o] (qP L h (fun (u : MAR × Int32 × Int32 × Int32 × Int32 × Int32) => [(o, ob 10 [.ref mw, .ref mk, .ref mt, .ref mr, .ref mki, .ref mso, .ref mst, .ref mpr, .ref msh, .ref mwa, .ref mpu, .ref mtx, .int (nI n), .int u.2.1, .int u.2.2.1, .int u.2.2.2.1, .int u.2.2.2.2.1, .int um, .ref mor, .ref mbo, .int mn, .ref tO, .ref tVi, .ref tSm, .int tm]), (mtx, aI E 160 MT), (mt, aI E 8 u.1.1), (mr, aI E 8 u.1.2.1), (mki, aI E 12 u.1.2.2.1), (mso, aI E 12 u.1.2.2.2.1), (mst, aI E 12 u.1.2.2.2.2.1), (mpr, aI E 12 u.1.2.2.2.2.2.1), (msh, aI E 2 u.1.2.2.2.2.2.2.1), (mwa, aI E 2 u.1.2.2.2.2.2.2.2.1), (mpu, aI E 2 u.1.2.2.2.2.2.2.2.2)]) (fun u => some (.int u.2.2.2.2.2)) (fun u => rdM (readG F n 13 0 s.2.2.1) s (Ti, Re, Ki, So, St, Pr, Sh, Wa, Pu) u.1 u.2.2.2.2.1 u.2.2.2.2.2)) := by
  refine CT.ofV (by decide +kernel) (Nat.le_of_ble_eq_true rfl) ?_
  refine V.locals2 (lv2 := [(0, .ref o)]) rfl ?_
  refine V.aload_n dX11_fault_0 0 rfl ?_
  refine V.callVp (As := []) (rest := []) [0, 1, 2, 3, 4, 5, 6, 7, 8, 9, 10] (c_M_read E l L _ o mw mk mt mr mki mso mst mpr msh mwa mpu mtx mor mbo tO tVi tSm ma bg wr cl um mn tm n MT F Ti Re Ki So St Pr Sh Wa Pu s (hn) (hT) (hH) (hm6) (hF8)) rfl (by decide) mi_X11_read 0 rfl rfl w_800 w_802 wp_8 rfl rfl (Nat.le_of_ble_eq_true rfl) ⟨by decide, by decide⟩ ⟨by decide, by decide⟩ dX11_fault_1 (vw2 := fun u1 => [(o, ob 10 [.ref mw, .ref mk, .ref mt, .ref mr, .ref mki, .ref mso, .ref mst, .ref mpr, .ref msh, .ref mwa, .ref mpu, .ref mtx, .int (nI n), .int u1.2.1, .int u1.2.2.1, .int u1.2.2.2.1, .int u1.2.2.2.2.1, .int um, .ref mor, .ref mbo, .int mn, .ref tO, .ref tVi, .ref tSm, .int tm]), (mtx, aI E 160 MT), (mt, aI E 8 u1.1.1), (mr, aI E 8 u1.1.2.1), (mki, aI E 12 u1.1.2.2.1), (mso, aI E 12 u1.1.2.2.2.1), (mst, aI E 12 u1.1.2.2.2.2.1), (mpr, aI E 12 u1.1.2.2.2.2.2.1), (msh, aI E 2 u1.1.2.2.2.2.2.2.1), (mwa, aI E 2 u1.1.2.2.2.2.2.2.2.1), (mpu, aI E 2 u1.1.2.2.2.2.2.2.2.2)]) (st2 := fun u1 => [.int u1.2.2.2.2.2]) (fun _ => rfl) (fun _ => rfl) (fun _ => rfl) (fun u1 hq_1 => ?_)
  exact V.iret rfl dX11_fault_4 (⟨u1, rfl, rfl, rfl, hq_1⟩)

set_option maxHeartbeats 4000000 in
set_option maxRecDepth 100000 in
theorem c_M_laneN (E : vEnv) (l : Launch) (L : List Nat) (h : Nat → va_E) (o : Nat) (mw : Nat) (mk : Nat) (mt : Nat) (mr : Nat) (mki : Nat) (mso : Nat) (mst : Nat) (mpr : Nat) (msh : Nat) (mwa : Nat) (mpu : Nat) (mtx : Nat) (mor : Nat) (mbo : Nat) (tO : Nat) (tVi : Nat) (tSm : Nat) (ma : Int32) (bg : Int32) (wr : Int32) (cl : Int32) (um : Int32) (mn : Int32) (tm : Int32) (n : Nat) (MT : Nat → Int32) (F : Nat → Int32) (Ti : Nat → Int32) (Re : Nat → Int32) (Ki : Nat → Int32) (So : Nat → Int32) (St : Nat → Int32) (Pr : Nat → Int32) (Sh : Nat → Int32) (Wa : Nat → Int32) (Pu : Nat → Int32) (s : LST) (p : Nat) (hn : n ≤ 160) (hT : ∀ j, j < n → MT j = F j) (hH : MF (Ti, Re, Ki, So, St, Pr, Sh, Wa, Pu) s) (hm6 : s.2.2.1 ≤ 6) (hF8 : ∀ j, j < n → ¬ F j < 0) (hrd : (readG F n 13 0 s.2.2.1) = .inl p) (hp30 : p < 2 ^ 30) : CT E l yX11_lane cX11_lane 2 (some (.int)) 5 0 0 L h [(o, ob 10 [.ref mw, .ref mk, .ref mt, .ref mr, .ref mki, .ref mso, .ref mst, .ref mpr, .ref msh, .ref mwa, .ref mpu, .ref mtx, .int (nI n), .int ma, .int bg, .int wr, .int cl, .int um, .ref mor, .ref mbo, .int mn, .ref tO, .ref tVi, .ref tSm, .int tm]), (mtx, aI E 160 MT), (mt, aI E 8 Ti), (mr, aI E 8 Re), (mki, aI E 12 Ki), (mso, aI E 12 So), (mst, aI E 12 St), (mpr, aI E 12 Pr), (msh, aI E 2 Sh), (mwa, aI E 2 Wa), (mpu, aI E 2 Pu)] [.ref o] (qP L h (fun (u : MAR × Int32 × Int32 × Int32 × Int32 × Int32) => [(o, ob 10 [.ref mw, .ref mk, .ref mt, .ref mr, .ref mki, .ref mso, .ref mst, .ref mpr, .ref msh, .ref mwa, .ref mpu, .ref mtx, .int (nI n), .int u.2.1, .int u.2.2.1, .int u.2.2.2.1, .int u.2.2.2.2.1, .int um, .ref mor, .ref mbo, .int mn, .ref tO, .ref tVi, .ref tSm, .int tm]), (mtx, aI E 160 MT), (mt, aI E 8 u.1.1), (mr, aI E 8 u.1.2.1), (mki, aI E 12 u.1.2.2.1), (mso, aI E 12 u.1.2.2.2.1), (mst, aI E 12 u.1.2.2.2.2.1), (mpr, aI E 12 u.1.2.2.2.2.2.1), (msh, aI E 2 u.1.2.2.2.2.2.2.1), (mwa, aI E 2 u.1.2.2.2.2.2.2.2.1), (mpu, aI E 2 u.1.2.2.2.2.2.2.2.2)]) (fun u => some (.int (-4))) (fun u => MH1 (Ti, Re, Ki, So, St, Pr, Sh, Wa, Pu) u.1)) := by
  refine CT.ofV (by decide +kernel) (Nat.le_of_ble_eq_true rfl) ?_
  refine V.locals2 (lv2 := [(0, .ref o)]) rfl ?_
  refine V.aload_n dX11_lane_0 0 rfl ?_
  refine V.callVp (As := []) (rest := []) [0, 1, 2, 3, 4, 5, 6, 7, 8, 9, 10] (c_M_read E l L _ o mw mk mt mr mki mso mst mpr msh mwa mpu mtx mor mbo tO tVi tSm ma bg wr cl um mn tm n MT F Ti Re Ki So St Pr Sh Wa Pu s (hn) (hT) (hH) (hm6) (hF8)) rfl (by decide) mi_X11_read 0 rfl rfl w_800 w_802 wp_8 rfl rfl (Nat.le_of_ble_eq_true rfl) ⟨by decide, by decide⟩ ⟨by decide, by decide⟩ dX11_lane_1 (vw2 := fun u1 => [(o, ob 10 [.ref mw, .ref mk, .ref mt, .ref mr, .ref mki, .ref mso, .ref mst, .ref mpr, .ref msh, .ref mwa, .ref mpu, .ref mtx, .int (nI n), .int u1.2.1, .int u1.2.2.1, .int u1.2.2.2.1, .int u1.2.2.2.2.1, .int um, .ref mor, .ref mbo, .int mn, .ref tO, .ref tVi, .ref tSm, .int tm]), (mtx, aI E 160 MT), (mt, aI E 8 u1.1.1), (mr, aI E 8 u1.1.2.1), (mki, aI E 12 u1.1.2.2.1), (mso, aI E 12 u1.1.2.2.2.1), (mst, aI E 12 u1.1.2.2.2.2.1), (mpr, aI E 12 u1.1.2.2.2.2.2.1), (msh, aI E 2 u1.1.2.2.2.2.2.2.1), (mwa, aI E 2 u1.1.2.2.2.2.2.2.2.1), (mpu, aI E 2 u1.1.2.2.2.2.2.2.2.2)]) (st2 := fun u1 => [.int u1.2.2.2.2.2]) (fun _ => rfl) (fun _ => rfl) (fun _ => rfl) (fun u1 hq_1 => ?_)
  obtain ⟨hA1, hfx⟩ := hq_1
  rw [hrd] at hfx
  have hrt : u1.2.2.2.2.2 = nI p := hfx
  refine V.if_lt (tgt := 10) dX11_lane_4 (by decide) (fun hc => absurd hc (by rw [hrt]; exact nI_pos (by omega))) (fun _ => ?_)
  refine V.bipush (v := (-4)) dX11_lane_7 (by decide) ?_
  exact V.iret rfl dX11_lane_9 (⟨u1, rfl, rfl, rfl, hA1⟩)

set_option maxHeartbeats 4000000 in
set_option maxRecDepth 100000 in
theorem c_M_lane (E : vEnv) (l : Launch) (L : List Nat) (h : Nat → va_E) (o : Nat) (mw : Nat) (mk : Nat) (mt : Nat) (mr : Nat) (mki : Nat) (mso : Nat) (mst : Nat) (mpr : Nat) (msh : Nat) (mwa : Nat) (mpu : Nat) (mtx : Nat) (mor : Nat) (mbo : Nat) (tO : Nat) (tVi : Nat) (tSm : Nat) (ma : Int32) (bg : Int32) (wr : Int32) (cl : Int32) (um : Int32) (mn : Int32) (tm : Int32) (n : Nat) (MT : Nat → Int32) (F : Nat → Int32) (Ti : Nat → Int32) (Re : Nat → Int32) (Ki : Nat → Int32) (So : Nat → Int32) (St : Nat → Int32) (Pr : Nat → Int32) (Sh : Nat → Int32) (Wa : Nat → Int32) (Pu : Nat → Int32) (s : LST) (cs : List CLA) (ρ : Nat → MR) (pw : Nat → Int32) (s0 : NS) (zf : Nat → Int32) (hn : n ≤ 160) (hT : ∀ j, j < n → MT j = F j) (hH : MF (Ti, Re, Ki, So, St, Pr, Sh, Wa, Pu) s) (hm6 : s.2.2.1 ≤ 6) (hF8 : ∀ j, j < n → ¬ F j < 0) (hrd : (readG F n 13 0 s.2.2.1) = .inr cs) (hR : ρ 0 = (pw, s0)) : CT E l yX11_lane cX11_lane 2 (some (.int)) 5 0 0 L h [(o, ob 10 [.ref mw, .ref mk, .ref mt, .ref mr, .ref mki, .ref mso, .ref mst, .ref mpr, .ref msh, .ref mwa, .ref mpu, .ref mtx, .int (nI n), .int ma, .int bg, .int wr, .int cl, .int um, .ref mor, .ref mbo, .int mn, .ref tO, .ref tVi, .ref tSm, .int tm]), (mtx, aI E 160 MT), (mt, aI E 8 Ti), (mr, aI E 8 Re), (mki, aI E 12 Ki), (mso, aI E 12 So), (mst, aI E 12 St), (mpr, aI E 12 Pr), (msh, aI E 2 Sh), (mwa, aI E 2 Wa), (mpu, aI E 2 Pu), (mw, aI E 192 (mW ρ)), (mk, aZ E 2 zf)] [.ref o] (qP L h (fun (u : MAR × Int32 × Int32 × Int32 × Int32 × Int32) => [(o, ob 10 [.ref mw, .ref mk, .ref mt, .ref mr, .ref mki, .ref mso, .ref mst, .ref mpr, .ref msh, .ref mwa, .ref mpu, .ref mtx, .int 0, .int u.2.1, .int u.2.2.1, .int u.2.2.2.1, .int (nI cs.length), .int 0, .ref mor, .ref mbo, .int mn, .ref tO, .ref tVi, .ref tSm, .int 0]), (mtx, aI E 160 MT), (mt, aI E 8 u.1.1), (mr, aI E 8 u.1.2.1), (mki, aI E 12 u.1.2.2.1), (mso, aI E 12 u.1.2.2.2.1), (mst, aI E 12 u.1.2.2.2.2.1), (mpr, aI E 12 u.1.2.2.2.2.2.1), (msh, aI E 2 u.1.2.2.2.2.2.2.1), (mwa, aI E 2 u.1.2.2.2.2.2.2.2.1), (mpu, aI E 2 u.1.2.2.2.2.2.2.2.2), (mw, aI E 192 (mW (va_up ρ 0 ((fun k => nI k), freshT (lanesG s cs).2.2.2.2.1 0)))), (mk, aZ E 2 (fun _ => 0))]) (fun u => some (.int (nI cs.length))) (fun u => MF u.1 (lanesG s cs))) := by
  refine CT.ofV (by decide +kernel) (Nat.le_of_ble_eq_true rfl) ?_
  obtain ⟨Z, hZ⟩ : ∃ Z, Z = mZ E (qP L h (fun (u : MAR × Int32 × Int32 × Int32 × Int32 × Int32) => [(o, ob 10 [.ref mw, .ref mk, .ref mt, .ref mr, .ref mki, .ref mso, .ref mst, .ref mpr, .ref msh, .ref mwa, .ref mpu, .ref mtx, .int 0, .int u.2.1, .int u.2.2.1, .int u.2.2.2.1, .int (nI cs.length), .int 0, .ref mor, .ref mbo, .int mn, .ref tO, .ref tVi, .ref tSm, .int 0]), (mtx, aI E 160 MT), (mt, aI E 8 u.1.1), (mr, aI E 8 u.1.2.1), (mki, aI E 12 u.1.2.2.1), (mso, aI E 12 u.1.2.2.2.1), (mst, aI E 12 u.1.2.2.2.2.1), (mpr, aI E 12 u.1.2.2.2.2.2.1), (msh, aI E 2 u.1.2.2.2.2.2.2.1), (mwa, aI E 2 u.1.2.2.2.2.2.2.2.1), (mpu, aI E 2 u.1.2.2.2.2.2.2.2.2), (mw, aI E 192 (mW (va_up ρ 0 ((fun k => nI k), freshT (lanesG s cs).2.2.2.2.1 0)))), (mk, aZ E 2 (fun _ => 0))]) (fun u => some (.int (nI cs.length))) (fun u => MF u.1 (lanesG s cs))) 0 0 := ⟨_, rfl⟩
  rw [← hZ]
  refine V.locals2 (lv2 := [(0, .ref o)]) rfl ?_
  refine V.aload_n dX11_lane_0 0 rfl ?_
  refine V.callVp (As := []) (rest := []) [0, 1, 2, 3, 4, 5, 6, 7, 8, 9, 10] (c_M_read E l L _ o mw mk mt mr mki mso mst mpr msh mwa mpu mtx mor mbo tO tVi tSm ma bg wr cl um mn tm n MT F Ti Re Ki So St Pr Sh Wa Pu s (hn) (hT) (hH) (hm6) (hF8)) rfl (by decide) mi_X11_read 0 rfl rfl w_800 w_802 wp_8 rfl rfl (Nat.le_of_ble_eq_true rfl) ⟨by decide, by decide⟩ ⟨by decide, by decide⟩ dX11_lane_1 (vw2 := fun u1 => [(o, ob 10 [.ref mw, .ref mk, .ref mt, .ref mr, .ref mki, .ref mso, .ref mst, .ref mpr, .ref msh, .ref mwa, .ref mpu, .ref mtx, .int (nI n), .int u1.2.1, .int u1.2.2.1, .int u1.2.2.2.1, .int u1.2.2.2.2.1, .int um, .ref mor, .ref mbo, .int mn, .ref tO, .ref tVi, .ref tSm, .int tm]), (mtx, aI E 160 MT), (mt, aI E 8 u1.1.1), (mr, aI E 8 u1.1.2.1), (mki, aI E 12 u1.1.2.2.1), (mso, aI E 12 u1.1.2.2.2.1), (mst, aI E 12 u1.1.2.2.2.2.1), (mpr, aI E 12 u1.1.2.2.2.2.2.1), (msh, aI E 2 u1.1.2.2.2.2.2.2.1), (mwa, aI E 2 u1.1.2.2.2.2.2.2.2.1), (mpu, aI E 2 u1.1.2.2.2.2.2.2.2.2), (mw, aI E 192 (mW ρ)), (mk, aZ E 2 zf)]) (st2 := fun u1 => [.int u1.2.2.2.2.2]) (fun _ => rfl) (fun _ => rfl) (fun _ => rfl) (fun u1 hq_1 => ?_)
  obtain ⟨hA1, hfx⟩ := hq_1
  rw [hrd] at hfx
  obtain ⟨hrt, hclk, hH2⟩ := hfx
  rw [hrt, hclk]
  refine V.if_lt (tgt := 10) dX11_lane_4 (by decide) (fun _ => ?_) (fun hc => absurd (by decide) hc)
  refine V.aload_n dX11_lane_10 0 rfl ?_
  refine V.iconst (v := 1) dX11_lane_11 (by decide) ?_
  refine V.iconst (v := 0) dX11_lane_12 (by decide) ?_
  refine V.callVp (As := [.int 1, .int 0]) (rest := []) [0, 2, 3, 4, 5, 6, 7, 8, 9, 10] (c_M_copyHalf_1 E l L _ o mw mk mt mr mki mso mst mpr msh mwa mpu mtx mor mbo tO tVi tSm ((nI n)) u1.2.1 u1.2.2.1 u1.2.2.2.1 ((nI cs.length)) um mn tm u1.1.1 u1.1.2.1 u1.1.2.2.1 u1.1.2.2.2.1 u1.1.2.2.2.2.1 u1.1.2.2.2.2.2.1 u1.1.2.2.2.2.2.2.1 u1.1.2.2.2.2.2.2.2.1 u1.1.2.2.2.2.2.2.2.2) rfl (by decide) mi_X11_copyHalf 0 rfl rfl w_804 w_806 wp_9 rfl rfl (Nat.le_of_ble_eq_true rfl) ⟨by decide, by decide⟩ ⟨by decide, by decide⟩ dX11_lane_13 (vw2 := fun _ => [(o, ob 10 [.ref mw, .ref mk, .ref mt, .ref mr, .ref mki, .ref mso, .ref mst, .ref mpr, .ref msh, .ref mwa, .ref mpu, .ref mtx, .int (nI n), .int u1.2.1, .int u1.2.2.1, .int u1.2.2.2.1, .int (nI cs.length), .int um, .ref mor, .ref mbo, .int mn, .ref tO, .ref tVi, .ref tSm, .int tm]), (mtx, aI E 160 MT), (mt, aI E 8 (putH 4 u1.1.1 0 (fun j => u1.1.1 (4 + j)))), (mr, aI E 8 (putH 4 u1.1.2.1 0 (fun j => u1.1.2.1 (4 + j)))), (mki, aI E 12 (putH 6 u1.1.2.2.1 0 (fun j => u1.1.2.2.1 (6 + j)))), (mso, aI E 12 (putH 6 u1.1.2.2.2.1 0 (fun j => u1.1.2.2.2.1 (6 + j)))), (mst, aI E 12 (putH 6 u1.1.2.2.2.2.1 0 (fun j => u1.1.2.2.2.2.1 (6 + j)))), (mpr, aI E 12 (putH 6 u1.1.2.2.2.2.2.1 0 (fun j => u1.1.2.2.2.2.2.1 (6 + j)))), (msh, aI E 2 (putH 1 u1.1.2.2.2.2.2.2.1 0 (fun j => u1.1.2.2.2.2.2.2.1 (1 + j)))), (mwa, aI E 2 (putH 1 u1.1.2.2.2.2.2.2.2.1 0 (fun j => u1.1.2.2.2.2.2.2.2.1 (1 + j)))), (mpu, aI E 2 (putH 1 u1.1.2.2.2.2.2.2.2.2 0 (fun j => u1.1.2.2.2.2.2.2.2.2 (1 + j)))), (mw, aI E 192 (mW ρ)), (mk, aZ E 2 zf)]) (st2 := fun _ => []) (fun _ => rfl) (fun _ => rfl) (fun _ => rfl) (fun _ _ => ?_)
  refine V.aload_n dX11_lane_16 0 rfl ?_
  refine V.iconst (v := 0) dX11_lane_17 (by decide) ?_
  refine V.putf 0 12 (vw2 := [(o, ob 10 [.ref mw, .ref mk, .ref mt, .ref mr, .ref mki, .ref mso, .ref mst, .ref mpr, .ref msh, .ref mwa, .ref mpu, .ref mtx, .int 0, .int u1.2.1, .int u1.2.2.1, .int u1.2.2.2.1, .int (nI cs.length), .int um, .ref mor, .ref mbo, .int mn, .ref tO, .ref tVi, .ref tSm, .int tm]), (mtx, aI E 160 MT), (mt, aI E 8 (putH 4 u1.1.1 0 (fun j => u1.1.1 (4 + j)))), (mr, aI E 8 (putH 4 u1.1.2.1 0 (fun j => u1.1.2.1 (4 + j)))), (mki, aI E 12 (putH 6 u1.1.2.2.1 0 (fun j => u1.1.2.2.1 (6 + j)))), (mso, aI E 12 (putH 6 u1.1.2.2.2.1 0 (fun j => u1.1.2.2.2.1 (6 + j)))), (mst, aI E 12 (putH 6 u1.1.2.2.2.2.1 0 (fun j => u1.1.2.2.2.2.1 (6 + j)))), (mpr, aI E 12 (putH 6 u1.1.2.2.2.2.2.1 0 (fun j => u1.1.2.2.2.2.2.1 (6 + j)))), (msh, aI E 2 (putH 1 u1.1.2.2.2.2.2.2.1 0 (fun j => u1.1.2.2.2.2.2.2.1 (1 + j)))), (mwa, aI E 2 (putH 1 u1.1.2.2.2.2.2.2.2.1 0 (fun j => u1.1.2.2.2.2.2.2.2.1 (1 + j)))), (mpu, aI E 2 (putH 1 u1.1.2.2.2.2.2.2.2.2 0 (fun j => u1.1.2.2.2.2.2.2.2.2 (1 + j)))), (mw, aI E 192 (mW ρ)), (mk, aZ E 2 zf)]) rfl fp_X11_72_10 rfl rfl (Nat.le_of_ble_eq_true rfl) rfl dX11_lane_18 ?_
  refine V.aload_n dX11_lane_21 0 rfl ?_
  refine V.iconst (v := 0) dX11_lane_22 (by decide) ?_
  refine V.callVp (As := [.int 0]) (rest := []) [0, 11, 10] (c_M_fresh E l L _ o mw mk mt mr mki mso mst mpr msh mwa mpu mtx mor mbo tO tVi tSm 0 u1.2.1 u1.2.2.1 u1.2.2.2.1 ((nI cs.length)) um mn tm ρ 0 pw s0 ((putH 1 u1.1.2.2.2.2.2.2.2.2 0 (fun j => u1.1.2.2.2.2.2.2.2.2 (1 + j)))) ((lanesG s cs).2.2.2.2.1) (by decide) (hR) ((put00 (f := u1.1.2.2.2.2.2.2.2.2)).trans hH2.2.2.2.2.2)) rfl (by decide) mi_X11_fresh 0 rfl rfl w_847 w_849 wp_16 rfl rfl (Nat.le_of_ble_eq_true rfl) ⟨by decide, by decide⟩ ⟨by decide, by decide⟩ dX11_lane_23 (vw2 := fun _ => [(o, ob 10 [.ref mw, .ref mk, .ref mt, .ref mr, .ref mki, .ref mso, .ref mst, .ref mpr, .ref msh, .ref mwa, .ref mpu, .ref mtx, .int 0, .int u1.2.1, .int u1.2.2.1, .int u1.2.2.2.1, .int (nI cs.length), .int um, .ref mor, .ref mbo, .int mn, .ref tO, .ref tVi, .ref tSm, .int tm]), (mtx, aI E 160 MT), (mt, aI E 8 (putH 4 u1.1.1 0 (fun j => u1.1.1 (4 + j)))), (mr, aI E 8 (putH 4 u1.1.2.1 0 (fun j => u1.1.2.1 (4 + j)))), (mki, aI E 12 (putH 6 u1.1.2.2.1 0 (fun j => u1.1.2.2.1 (6 + j)))), (mso, aI E 12 (putH 6 u1.1.2.2.2.1 0 (fun j => u1.1.2.2.2.1 (6 + j)))), (mst, aI E 12 (putH 6 u1.1.2.2.2.2.1 0 (fun j => u1.1.2.2.2.2.1 (6 + j)))), (mpr, aI E 12 (putH 6 u1.1.2.2.2.2.2.1 0 (fun j => u1.1.2.2.2.2.2.1 (6 + j)))), (msh, aI E 2 (putH 1 u1.1.2.2.2.2.2.2.1 0 (fun j => u1.1.2.2.2.2.2.2.1 (1 + j)))), (mwa, aI E 2 (putH 1 u1.1.2.2.2.2.2.2.2.1 0 (fun j => u1.1.2.2.2.2.2.2.2.1 (1 + j)))), (mpu, aI E 2 (putH 1 u1.1.2.2.2.2.2.2.2.2 0 (fun j => u1.1.2.2.2.2.2.2.2.2 (1 + j)))), (mw, aI E 192 (mW (va_up ρ 0 (pw, (freshN (lanesG s cs).2.2.2.2.1 s0))))), (mk, aZ E 2 zf)]) (st2 := fun _ => []) (fun _ => rfl) (fun _ => rfl) (fun _ => rfl) (fun _ _ => ?_)
  refine V.iconst (v := 0) dX11_lane_26 (by decide) ?_
  refine V.istore_n (lv2 := [(1, .int 0), (0, .ref o)]) dX11_lane_27 rfl (by decide) rfl ?_
  refine V.arrEq (vw2 := [(o, ob 10 [.ref mw, .ref mk, .ref mt, .ref mr, .ref mki, .ref mso, .ref mst, .ref mpr, .ref msh, .ref mwa, .ref mpu, .ref mtx, .int 0, .int u1.2.1, .int u1.2.2.1, .int u1.2.2.2.1, .int (nI cs.length), .int um, .ref mor, .ref mbo, .int mn, .ref tO, .ref tVi, .ref tSm, .int tm]), (mtx, aI E 160 MT), (mt, aI E 8 (putH 4 u1.1.1 0 (fun j => u1.1.1 (4 + j)))), (mr, aI E 8 (putH 4 u1.1.2.1 0 (fun j => u1.1.2.1 (4 + j)))), (mki, aI E 12 (putH 6 u1.1.2.2.1 0 (fun j => u1.1.2.2.1 (6 + j)))), (mso, aI E 12 (putH 6 u1.1.2.2.2.1 0 (fun j => u1.1.2.2.2.1 (6 + j)))), (mst, aI E 12 (putH 6 u1.1.2.2.2.2.1 0 (fun j => u1.1.2.2.2.2.1 (6 + j)))), (mpr, aI E 12 (putH 6 u1.1.2.2.2.2.2.1 0 (fun j => u1.1.2.2.2.2.2.1 (6 + j)))), (msh, aI E 2 (putH 1 u1.1.2.2.2.2.2.2.1 0 (fun j => u1.1.2.2.2.2.2.2.1 (1 + j)))), (mwa, aI E 2 (putH 1 u1.1.2.2.2.2.2.2.2.1 0 (fun j => u1.1.2.2.2.2.2.2.2.1 (1 + j)))), (mpu, aI E 2 (putH 1 u1.1.2.2.2.2.2.2.2.2 0 (fun j => u1.1.2.2.2.2.2.2.2.2 (1 + j)))), (mw, aI E 192 (mW (va_up ρ 0 (idP 0 pw, (freshN (lanesG s cs).2.2.2.2.1 s0))))), (mk, aZ E 2 zf)]) 11 0 rfl (fun j _ => by rw [show idP 0 pw = pw from rfl]) rfl ?_
  refine V.locals [1, 0] (by rfl) ?_
  have lp_28 : ∀ (fuel : Nat) (k : Nat) (hk6 : k ≤ 6) (hf : 6 < k + fuel), V E l yX11_lane cX11_lane 2 (some (.int)) (rmk 5 0 0) Z L h 0 0 [(o, ob 10 [.ref mw, .ref mk, .ref mt, .ref mr, .ref mki, .ref mso, .ref mst, .ref mpr, .ref msh, .ref mwa, .ref mpu, .ref mtx, .int 0, .int u1.2.1, .int u1.2.2.1, .int u1.2.2.2.1, .int (nI cs.length), .int um, .ref mor, .ref mbo, .int mn, .ref tO, .ref tVi, .ref tSm, .int tm]), (mtx, aI E 160 MT), (mt, aI E 8 (putH 4 u1.1.1 0 (fun j => u1.1.1 (4 + j)))), (mr, aI E 8 (putH 4 u1.1.2.1 0 (fun j => u1.1.2.1 (4 + j)))), (mki, aI E 12 (putH 6 u1.1.2.2.1 0 (fun j => u1.1.2.2.1 (6 + j)))), (mso, aI E 12 (putH 6 u1.1.2.2.2.1 0 (fun j => u1.1.2.2.2.1 (6 + j)))), (mst, aI E 12 (putH 6 u1.1.2.2.2.2.1 0 (fun j => u1.1.2.2.2.2.1 (6 + j)))), (mpr, aI E 12 (putH 6 u1.1.2.2.2.2.2.1 0 (fun j => u1.1.2.2.2.2.2.1 (6 + j)))), (msh, aI E 2 (putH 1 u1.1.2.2.2.2.2.2.1 0 (fun j => u1.1.2.2.2.2.2.2.1 (1 + j)))), (mwa, aI E 2 (putH 1 u1.1.2.2.2.2.2.2.2.1 0 (fun j => u1.1.2.2.2.2.2.2.2.1 (1 + j)))), (mpu, aI E 2 (putH 1 u1.1.2.2.2.2.2.2.2.2 0 (fun j => u1.1.2.2.2.2.2.2.2.2 (1 + j)))), (mw, aI E 192 (mW (va_up ρ 0 (idP k pw, (freshN (lanesG s cs).2.2.2.2.1 s0))))), (mk, aZ E 2 zf)] 28 [(0, .ref o), (1, .int (nI k))] [] := by
    intro fuel
    induction fuel with
    | zero =>
      intro k hk6 hf
      exfalso; omega
    | succ fuel ih_28 =>
      intro k hk6 hf
      refine V.iload_n dX11_lane_28 1 rfl ?_
      refine V.bipush (v := 6) dX11_lane_29 (by decide) ?_
      refine V.icmp_ge (tgt := 47) dX11_lane_31 (by decide) (fun c1_31 => ?_) (fun c1_31 => ?_)
      · skip
        have hxc1_31 : 6 ≤ k := (nI_leI (a := 6) (by omega) (by omega)).mp c1_31
        have hqc1_31 : k = 6 := by omega
        refine V.arrEq (vw2 := [(o, ob 10 [.ref mw, .ref mk, .ref mt, .ref mr, .ref mki, .ref mso, .ref mst, .ref mpr, .ref msh, .ref mwa, .ref mpu, .ref mtx, .int 0, .int u1.2.1, .int u1.2.2.1, .int u1.2.2.2.1, .int (nI cs.length), .int um, .ref mor, .ref mbo, .int mn, .ref tO, .ref tVi, .ref tSm, .int tm]), (mtx, aI E 160 MT), (mt, aI E 8 (putH 4 u1.1.1 0 (fun j => u1.1.1 (4 + j)))), (mr, aI E 8 (putH 4 u1.1.2.1 0 (fun j => u1.1.2.1 (4 + j)))), (mki, aI E 12 (putH 6 u1.1.2.2.1 0 (fun j => u1.1.2.2.1 (6 + j)))), (mso, aI E 12 (putH 6 u1.1.2.2.2.1 0 (fun j => u1.1.2.2.2.1 (6 + j)))), (mst, aI E 12 (putH 6 u1.1.2.2.2.2.1 0 (fun j => u1.1.2.2.2.2.1 (6 + j)))), (mpr, aI E 12 (putH 6 u1.1.2.2.2.2.2.1 0 (fun j => u1.1.2.2.2.2.2.1 (6 + j)))), (msh, aI E 2 (putH 1 u1.1.2.2.2.2.2.2.1 0 (fun j => u1.1.2.2.2.2.2.2.1 (1 + j)))), (mwa, aI E 2 (putH 1 u1.1.2.2.2.2.2.2.2.1 0 (fun j => u1.1.2.2.2.2.2.2.2.1 (1 + j)))), (mpu, aI E 2 (putH 1 u1.1.2.2.2.2.2.2.2.2 0 (fun j => u1.1.2.2.2.2.2.2.2.2 (1 + j)))), (mw, aI E 192 (mW (va_up ρ 0 ((fun k => nI k), freshT (lanesG s cs).2.2.2.2.1 0)))), (mk, aZ E 2 zf)]) 11 0 rfl (fun j _ => mW_row (R := (idP k pw, (freshN (lanesG s cs).2.2.2.2.1 s0))) (R2 := ((fun k => nI k), freshT (lanesG s cs).2.2.2.2.1 0)) (row_of (fun j9 hj9 => if_pos (by omega)) (fun _ _ => rfl) rfl rfl rfl rfl rfl rfl) j) rfl ?_
        refine V.aload_n dX11_lane_47 0 rfl ?_
        refine V.iconst (v := 0) dX11_lane_48 (by decide) ?_
        refine V.putf 0 24 (vw2 := [(o, ob 10 [.ref mw, .ref mk, .ref mt, .ref mr, .ref mki, .ref mso, .ref mst, .ref mpr, .ref msh, .ref mwa, .ref mpu, .ref mtx, .int 0, .int u1.2.1, .int u1.2.2.1, .int u1.2.2.2.1, .int (nI cs.length), .int um, .ref mor, .ref mbo, .int mn, .ref tO, .ref tVi, .ref tSm, .int 0]), (mtx, aI E 160 MT), (mt, aI E 8 (putH 4 u1.1.1 0 (fun j => u1.1.1 (4 + j)))), (mr, aI E 8 (putH 4 u1.1.2.1 0 (fun j => u1.1.2.1 (4 + j)))), (mki, aI E 12 (putH 6 u1.1.2.2.1 0 (fun j => u1.1.2.2.1 (6 + j)))), (mso, aI E 12 (putH 6 u1.1.2.2.2.1 0 (fun j => u1.1.2.2.2.1 (6 + j)))), (mst, aI E 12 (putH 6 u1.1.2.2.2.2.1 0 (fun j => u1.1.2.2.2.2.1 (6 + j)))), (mpr, aI E 12 (putH 6 u1.1.2.2.2.2.2.1 0 (fun j => u1.1.2.2.2.2.2.1 (6 + j)))), (msh, aI E 2 (putH 1 u1.1.2.2.2.2.2.2.1 0 (fun j => u1.1.2.2.2.2.2.2.1 (1 + j)))), (mwa, aI E 2 (putH 1 u1.1.2.2.2.2.2.2.2.1 0 (fun j => u1.1.2.2.2.2.2.2.2.1 (1 + j)))), (mpu, aI E 2 (putH 1 u1.1.2.2.2.2.2.2.2.2 0 (fun j => u1.1.2.2.2.2.2.2.2.2 (1 + j)))), (mw, aI E 192 (mW (va_up ρ 0 ((fun k => nI k), freshT (lanesG s cs).2.2.2.2.1 0)))), (mk, aZ E 2 zf)]) rfl fp_X11_136_10 rfl rfl (Nat.le_of_ble_eq_true rfl) rfl dX11_lane_49 ?_
        refine V.aload_n dX11_lane_52 0 rfl ?_
        refine V.iconst (v := 0) dX11_lane_53 (by decide) ?_
        refine V.putf 0 17 (vw2 := [(o, ob 10 [.ref mw, .ref mk, .ref mt, .ref mr, .ref mki, .ref mso, .ref mst, .ref mpr, .ref msh, .ref mwa, .ref mpu, .ref mtx, .int 0, .int u1.2.1, .int u1.2.2.1, .int u1.2.2.2.1, .int (nI cs.length), .int 0, .ref mor, .ref mbo, .int mn, .ref tO, .ref tVi, .ref tSm, .int 0]), (mtx, aI E 160 MT), (mt, aI E 8 (putH 4 u1.1.1 0 (fun j => u1.1.1 (4 + j)))), (mr, aI E 8 (putH 4 u1.1.2.1 0 (fun j => u1.1.2.1 (4 + j)))), (mki, aI E 12 (putH 6 u1.1.2.2.1 0 (fun j => u1.1.2.2.1 (6 + j)))), (mso, aI E 12 (putH 6 u1.1.2.2.2.1 0 (fun j => u1.1.2.2.2.1 (6 + j)))), (mst, aI E 12 (putH 6 u1.1.2.2.2.2.1 0 (fun j => u1.1.2.2.2.2.1 (6 + j)))), (mpr, aI E 12 (putH 6 u1.1.2.2.2.2.2.1 0 (fun j => u1.1.2.2.2.2.2.1 (6 + j)))), (msh, aI E 2 (putH 1 u1.1.2.2.2.2.2.2.1 0 (fun j => u1.1.2.2.2.2.2.2.1 (1 + j)))), (mwa, aI E 2 (putH 1 u1.1.2.2.2.2.2.2.2.1 0 (fun j => u1.1.2.2.2.2.2.2.2.1 (1 + j)))), (mpu, aI E 2 (putH 1 u1.1.2.2.2.2.2.2.2.2 0 (fun j => u1.1.2.2.2.2.2.2.2.2 (1 + j)))), (mw, aI E 192 (mW (va_up ρ 0 ((fun k => nI k), freshT (lanesG s cs).2.2.2.2.1 0)))), (mk, aZ E 2 zf)]) rfl fp_X11_139_10 rfl rfl (Nat.le_of_ble_eq_true rfl) rfl dX11_lane_54 ?_
        refine V.aload_n dX11_lane_57 0 rfl ?_
        refine V.getf 0 1 rfl fa_X11_13_10 rfl dX11_lane_58 ?_
        refine V.iconst (v := 0) dX11_lane_61 (by decide) ?_
        refine V.iconst (v := 0) dX11_lane_62 (by decide) ?_
        refine V.zast (vw2 := [(o, ob 10 [.ref mw, .ref mk, .ref mt, .ref mr, .ref mki, .ref mso, .ref mst, .ref mpr, .ref msh, .ref mwa, .ref mpu, .ref mtx, .int 0, .int u1.2.1, .int u1.2.2.1, .int u1.2.2.2.1, .int (nI cs.length), .int 0, .ref mor, .ref mbo, .int mn, .ref tO, .ref tVi, .ref tSm, .int 0]), (mtx, aI E 160 MT), (mt, aI E 8 (putH 4 u1.1.1 0 (fun j => u1.1.1 (4 + j)))), (mr, aI E 8 (putH 4 u1.1.2.1 0 (fun j => u1.1.2.1 (4 + j)))), (mki, aI E 12 (putH 6 u1.1.2.2.1 0 (fun j => u1.1.2.2.1 (6 + j)))), (mso, aI E 12 (putH 6 u1.1.2.2.2.1 0 (fun j => u1.1.2.2.2.1 (6 + j)))), (mst, aI E 12 (putH 6 u1.1.2.2.2.2.1 0 (fun j => u1.1.2.2.2.2.1 (6 + j)))), (mpr, aI E 12 (putH 6 u1.1.2.2.2.2.2.1 0 (fun j => u1.1.2.2.2.2.2.1 (6 + j)))), (msh, aI E 2 (putH 1 u1.1.2.2.2.2.2.2.1 0 (fun j => u1.1.2.2.2.2.2.2.1 (1 + j)))), (mwa, aI E 2 (putH 1 u1.1.2.2.2.2.2.2.2.1 0 (fun j => u1.1.2.2.2.2.2.2.2.1 (1 + j)))), (mpu, aI E 2 (putH 1 u1.1.2.2.2.2.2.2.2.2 0 (fun j => u1.1.2.2.2.2.2.2.2.2 (1 + j)))), (mw, aI E 192 (mW (va_up ρ 0 ((fun k => nI k), freshT (lanesG s cs).2.2.2.2.1 0)))), (mk, aZ E 2 (upd zf 0 0))]) 12 rfl (vin rfl) (rfl) dX11_lane_63 ?_
        refine V.aload_n dX11_lane_64 0 rfl ?_
        refine V.getf 0 1 rfl fa_X11_13_10 rfl dX11_lane_65 ?_
        refine V.iconst (v := 1) dX11_lane_68 (by decide) ?_
        refine V.iconst (v := 0) dX11_lane_69 (by decide) ?_
        refine V.zast (vw2 := [(o, ob 10 [.ref mw, .ref mk, .ref mt, .ref mr, .ref mki, .ref mso, .ref mst, .ref mpr, .ref msh, .ref mwa, .ref mpu, .ref mtx, .int 0, .int u1.2.1, .int u1.2.2.1, .int u1.2.2.2.1, .int (nI cs.length), .int 0, .ref mor, .ref mbo, .int mn, .ref tO, .ref tVi, .ref tSm, .int 0]), (mtx, aI E 160 MT), (mt, aI E 8 (putH 4 u1.1.1 0 (fun j => u1.1.1 (4 + j)))), (mr, aI E 8 (putH 4 u1.1.2.1 0 (fun j => u1.1.2.1 (4 + j)))), (mki, aI E 12 (putH 6 u1.1.2.2.1 0 (fun j => u1.1.2.2.1 (6 + j)))), (mso, aI E 12 (putH 6 u1.1.2.2.2.1 0 (fun j => u1.1.2.2.2.1 (6 + j)))), (mst, aI E 12 (putH 6 u1.1.2.2.2.2.1 0 (fun j => u1.1.2.2.2.2.1 (6 + j)))), (mpr, aI E 12 (putH 6 u1.1.2.2.2.2.2.1 0 (fun j => u1.1.2.2.2.2.2.1 (6 + j)))), (msh, aI E 2 (putH 1 u1.1.2.2.2.2.2.2.1 0 (fun j => u1.1.2.2.2.2.2.2.1 (1 + j)))), (mwa, aI E 2 (putH 1 u1.1.2.2.2.2.2.2.2.1 0 (fun j => u1.1.2.2.2.2.2.2.2.1 (1 + j)))), (mpu, aI E 2 (putH 1 u1.1.2.2.2.2.2.2.2.2 0 (fun j => u1.1.2.2.2.2.2.2.2.2 (1 + j)))), (mw, aI E 192 (mW (va_up ρ 0 ((fun k => nI k), freshT (lanesG s cs).2.2.2.2.1 0)))), (mk, aZ E 2 (upd (upd zf 0 0) 1 0))]) 12 rfl (vin rfl) (rfl) dX11_lane_70 ?_
        refine V.arrEq (vw2 := [(o, ob 10 [.ref mw, .ref mk, .ref mt, .ref mr, .ref mki, .ref mso, .ref mst, .ref mpr, .ref msh, .ref mwa, .ref mpu, .ref mtx, .int 0, .int u1.2.1, .int u1.2.2.1, .int u1.2.2.2.1, .int (nI cs.length), .int 0, .ref mor, .ref mbo, .int mn, .ref tO, .ref tVi, .ref tSm, .int 0]), (mtx, aI E 160 MT), (mt, aI E 8 (putH 4 u1.1.1 0 (fun j => u1.1.1 (4 + j)))), (mr, aI E 8 (putH 4 u1.1.2.1 0 (fun j => u1.1.2.1 (4 + j)))), (mki, aI E 12 (putH 6 u1.1.2.2.1 0 (fun j => u1.1.2.2.1 (6 + j)))), (mso, aI E 12 (putH 6 u1.1.2.2.2.1 0 (fun j => u1.1.2.2.2.1 (6 + j)))), (mst, aI E 12 (putH 6 u1.1.2.2.2.2.1 0 (fun j => u1.1.2.2.2.2.1 (6 + j)))), (mpr, aI E 12 (putH 6 u1.1.2.2.2.2.2.1 0 (fun j => u1.1.2.2.2.2.2.1 (6 + j)))), (msh, aI E 2 (putH 1 u1.1.2.2.2.2.2.2.1 0 (fun j => u1.1.2.2.2.2.2.2.1 (1 + j)))), (mwa, aI E 2 (putH 1 u1.1.2.2.2.2.2.2.2.1 0 (fun j => u1.1.2.2.2.2.2.2.2.1 (1 + j)))), (mpu, aI E 2 (putH 1 u1.1.2.2.2.2.2.2.2.2 0 (fun j => u1.1.2.2.2.2.2.2.2.2 (1 + j)))), (mw, aI E 192 (mW (va_up ρ 0 ((fun k => nI k), freshT (lanesG s cs).2.2.2.2.1 0)))), (mk, aZ E 2 (fun _ => 0))]) 12 1 rfl (fun j hj => by rcases (show j = 0 ∨ j = 1 by omega) with rfl | rfl <;> rfl) rfl ?_
        refine V.aload_n dX11_lane_71 0 rfl ?_
        refine V.getf 0 16 rfl fa_X11_120_10 rfl dX11_lane_72 ?_
        subst hZ
        exact V.iret rfl dX11_lane_75 (⟨((putH 4 u1.1.1 0 (fun j => u1.1.1 (4 + j)), putH 4 u1.1.2.1 0 (fun j => u1.1.2.1 (4 + j)), putH 6 u1.1.2.2.1 0 (fun j => u1.1.2.2.1 (6 + j)), putH 6 u1.1.2.2.2.1 0 (fun j => u1.1.2.2.2.1 (6 + j)), putH 6 u1.1.2.2.2.2.1 0 (fun j => u1.1.2.2.2.2.1 (6 + j)), putH 6 u1.1.2.2.2.2.2.1 0 (fun j => u1.1.2.2.2.2.2.1 (6 + j)), putH 1 u1.1.2.2.2.2.2.2.1 0 (fun j => u1.1.2.2.2.2.2.2.1 (1 + j)), putH 1 u1.1.2.2.2.2.2.2.2.1 0 (fun j => u1.1.2.2.2.2.2.2.2.1 (1 + j)), putH 1 u1.1.2.2.2.2.2.2.2.2 0 (fun j => u1.1.2.2.2.2.2.2.2.2 (1 + j))), u1.2.1, u1.2.2.1, u1.2.2.2.1, 0, 0), rfl, rfl, rfl, mf_copy hH2 (lanesG_m (readG_ok _ _ _ _ hrd).1 hm6)⟩)
      · skip
        have hxc1_31 : k < 6 := Nat.lt_of_not_le (fun hh => c1_31 (nI_le (a := 6) hh (by omega)))
        refine V.aload_n dX11_lane_34 0 rfl ?_
        refine V.getf 0 0 rfl fa_X11_7_10 rfl dX11_lane_35 ?_
        refine V.iload_n dX11_lane_38 1 rfl ?_
        refine V.iload_n dX11_lane_39 1 rfl ?_
        refine V.iast (vw2 := [(o, ob 10 [.ref mw, .ref mk, .ref mt, .ref mr, .ref mki, .ref mso, .ref mst, .ref mpr, .ref msh, .ref mwa, .ref mpu, .ref mtx, .int 0, .int u1.2.1, .int u1.2.2.1, .int u1.2.2.2.1, .int (nI cs.length), .int um, .ref mor, .ref mbo, .int mn, .ref tO, .ref tVi, .ref tSm, .int tm]), (mtx, aI E 160 MT), (mt, aI E 8 (putH 4 u1.1.1 0 (fun j => u1.1.1 (4 + j)))), (mr, aI E 8 (putH 4 u1.1.2.1 0 (fun j => u1.1.2.1 (4 + j)))), (mki, aI E 12 (putH 6 u1.1.2.2.1 0 (fun j => u1.1.2.2.1 (6 + j)))), (mso, aI E 12 (putH 6 u1.1.2.2.2.1 0 (fun j => u1.1.2.2.2.1 (6 + j)))), (mst, aI E 12 (putH 6 u1.1.2.2.2.2.1 0 (fun j => u1.1.2.2.2.2.1 (6 + j)))), (mpr, aI E 12 (putH 6 u1.1.2.2.2.2.2.1 0 (fun j => u1.1.2.2.2.2.2.1 (6 + j)))), (msh, aI E 2 (putH 1 u1.1.2.2.2.2.2.2.1 0 (fun j => u1.1.2.2.2.2.2.2.1 (1 + j)))), (mwa, aI E 2 (putH 1 u1.1.2.2.2.2.2.2.2.1 0 (fun j => u1.1.2.2.2.2.2.2.2.1 (1 + j)))), (mpu, aI E 2 (putH 1 u1.1.2.2.2.2.2.2.2.2 0 (fun j => u1.1.2.2.2.2.2.2.2.2 (1 + j)))), (mw, aI E 192 (upd (mW (va_up ρ 0 (idP k pw, (freshN (lanesG s cs).2.2.2.2.1 s0)))) k (nI k))), (mk, aZ E 2 zf)]) 11 rfl (vinI (by omega)) (by rw [nI_clamp (by omega)] <;> rfl) dX11_lane_40 ?_
        refine V.arrEq (vw2 := [(o, ob 10 [.ref mw, .ref mk, .ref mt, .ref mr, .ref mki, .ref mso, .ref mst, .ref mpr, .ref msh, .ref mwa, .ref mpu, .ref mtx, .int 0, .int u1.2.1, .int u1.2.2.1, .int u1.2.2.2.1, .int (nI cs.length), .int um, .ref mor, .ref mbo, .int mn, .ref tO, .ref tVi, .ref tSm, .int tm]), (mtx, aI E 160 MT), (mt, aI E 8 (putH 4 u1.1.1 0 (fun j => u1.1.1 (4 + j)))), (mr, aI E 8 (putH 4 u1.1.2.1 0 (fun j => u1.1.2.1 (4 + j)))), (mki, aI E 12 (putH 6 u1.1.2.2.1 0 (fun j => u1.1.2.2.1 (6 + j)))), (mso, aI E 12 (putH 6 u1.1.2.2.2.1 0 (fun j => u1.1.2.2.2.1 (6 + j)))), (mst, aI E 12 (putH 6 u1.1.2.2.2.2.1 0 (fun j => u1.1.2.2.2.2.1 (6 + j)))), (mpr, aI E 12 (putH 6 u1.1.2.2.2.2.2.1 0 (fun j => u1.1.2.2.2.2.2.1 (6 + j)))), (msh, aI E 2 (putH 1 u1.1.2.2.2.2.2.2.1 0 (fun j => u1.1.2.2.2.2.2.2.1 (1 + j)))), (mwa, aI E 2 (putH 1 u1.1.2.2.2.2.2.2.2.1 0 (fun j => u1.1.2.2.2.2.2.2.2.1 (1 + j)))), (mpu, aI E 2 (putH 1 u1.1.2.2.2.2.2.2.2.2 0 (fun j => u1.1.2.2.2.2.2.2.2.2 (1 + j)))), (mw, aI E 192 (mW (va_up ρ 0 (idP (k + 1) pw, (freshN (lanesG s cs).2.2.2.2.1 s0))))), (mk, aZ E 2 zf)]) 11 0 rfl (fun j _ => by rw [show upd (mW (va_up ρ 0 (idP k pw, (freshN (lanesG s cs).2.2.2.2.1 s0)))) k (nI k) j = upd (mW (va_up ρ 0 (idP k pw, (freshN (lanesG s cs).2.2.2.2.1 s0)))) (16 * 0 + k) (nI k) j by rw [show 16 * 0 + k = k by omega], mW_plu (va_up_self _ _ _) (by omega), va_up_up]; exact mW_plr (fun j9 _ => idP_s k pw j9) j) rfl ?_
        refine V.iinc (v := (nI (k + 1))) (lv2 := [(1, .int (nI (k + 1))), (0, .ref o)]) dX11_lane_41 1 rfl (nI_1 _) (by decide) rfl ?_
        refine V.goto (tgt := 28) dX11_lane_44 (by decide) ?_
        refine V.locals [1, 0] (by rfl) ?_
        exact ih_28 (k + 1) (by omega) (by omega)
  exact lp_28 (7) 0 (Nat.zero_le _) (by omega)
