set_option maxHeartbeats 4000000 in
set_option maxRecDepth 100000 in
theorem c_Text_isClause (E : vEnv) (l : Launch) (L : List Nat) (h : Nat → va_E) (tx : Nat) (tl : Nat) (tw : Nat) (tq : Nat) (n : Nat) (cl : Int32) (x1 : Int32) (F : Nat → Int32) (W : Nat → Int32) (G : Nat → Int32) (t : Nat) (sh : Nat) (c : Nat) (ht : t ≤ n) (hn : n ≤ 160) (hs : sh ≤ 6) (hc : c < 14) : CT E l yX8_isClause cX8_isClause 6 (some (.boolean)) 6 0 0 L h [(tx, ob 7 [.ref tl, .int (nI n), .ref tw, .ref tq, .int cl, .int x1, .int (nI t), .int (nI sh)]), (tl, aC E 160 F), (tw, aI E 14 W), (tq, aI E 42 G)] [.ref tx, .int (nI c)] (qP L h (fun (u : CLS) => [(tx, ob 7 [.ref tl, .int (nI n), .ref tw, .ref tq, .int cl, .int u.2.2.2.1, .int u.2.2.2.2.1, .int u.2.2.2.2.2]), (tl, aC E 160 F), (tw, aI E 14 u.2.1), (tq, aI E 42 u.2.2.1)]) (fun u => some (.int u.1)) (fun u => clRel c W G (clauseG F n t sh) u)) := by
  refine CT.ofV (by decide +kernel) (Nat.le_of_ble_eq_true rfl) ?_
  obtain ⟨Z, hZ⟩ : ∃ Z, Z = mZ E (qP L h (fun (u : CLS) => [(tx, ob 7 [.ref tl, .int (nI n), .ref tw, .ref tq, .int cl, .int u.2.2.2.1, .int u.2.2.2.2.1, .int u.2.2.2.2.2]), (tl, aC E 160 F), (tw, aI E 14 u.2.1), (tq, aI E 42 u.2.2.1)]) (fun u => some (.int u.1)) (fun u => clRel c W G (clauseG F n t sh) u)) 0 0 := ⟨_, rfl⟩
  rw [← hZ]
  refine V.locals2 (lv2 := [(0, .ref tx), (1, .int (nI c))]) rfl ?_
  refine V.aload_n dX8_isClause_0 0 rfl ?_
  refine V.callVp (As := []) (rest := []) [0, 1] (c_Text_nextToken E l L _ tx tl tw tq n cl x1 ((nI sh)) F t (ht) (hn)) rfl (by decide) mi_X8_nextToken 0 rfl rfl w_290 w_291 w_292 rfl rfl (Nat.le_of_ble_eq_true rfl) ⟨by decide, by decide⟩ ⟨by decide, by decide⟩ dX8_isClause_1 (vw2 := fun _ => [(tx, ob 7 [.ref tl, .int (nI n), .ref tw, .ref tq, .int cl, .int (nI (frT F n t)), .int (nI (teT F n t)), .int (nI sh)]), (tl, aC E 160 F), (tw, aI E 14 W), (tq, aI E 42 G)]) (st2 := fun _ => []) (fun _ => rfl) (fun _ => rfl) (fun _ => rfl) (fun _ _ => ?_)
  refine V.aload_n dX8_isClause_4 0 rfl ?_
  refine V.callVp (As := []) (rest := []) [0, 1] (c_Text_wordHere E l L _ tx tl tw tq n cl ((nI sh)) F ((frT F n t)) ((teT F n t)) (teT_ge) (teT_le ht) (hn)) rfl (by decide) mi_X8_wordHere 0 rfl rfl w_303 w_304 w_305 rfl rfl (Nat.le_of_ble_eq_true rfl) ⟨by decide, by decide⟩ ⟨by decide, by decide⟩ dX8_isClause_5 (vw2 := fun _ => [(tx, ob 7 [.ref tl, .int (nI n), .ref tw, .ref tq, .int cl, .int (nI (frT F n t)), .int (nI (teT F n t)), .int (nI sh)]), (tl, aC E 160 F), (tw, aI E 14 W), (tq, aI E 42 G)]) (st2 := fun _ => [.int (wordW F (frT F n t) (teT F n t))]) (fun _ => rfl) (fun _ => rfl) (fun _ => rfl) (fun _ _ => ?_)
  refine V.istore_n (lv2 := [(2, .int (wordW F (frT F n t) (teT F n t))), (0, .ref tx), (1, .int (nI c))]) dX8_isClause_8 rfl (by decide) rfl ?_
  refine V.iload_n dX8_isClause_9 0 rfl ?_
  refine V.iconst (v := (-1)) dX8_isClause_10 (by decide) ?_
  refine V.icmp_eq (tgt := 22) dX8_isClause_11 (by decide) (fun c1_11 => ?_) (fun c1_11 => ?_)
  · skip
    have hcl : (clauseG F n t sh) = .inl (frT F n t) := clauseG_none c1_11
    refine V.iconst (v := 0) dX8_isClause_22 (by decide) ?_
    subst hZ
    exact V.zret rfl (rfl) dX8_isClause_23 (⟨(0, W, G, (nI (frT F n t)), (nI (teT F n t)), (nI sh)), rfl, rfl, rfl, ⟨fun _ _ => rfl, fun _ _ => rfl, by rw [hcl]; exact ⟨rfl, rfl⟩⟩⟩)
  · skip
    obtain ⟨wd, hw, hww, -⟩ := (wordW_cases F (frT F n t) (teT F n t)).resolve_right c1_11
    rw [hww]
    refine V.aload_n dX8_isClause_14 1 rfl ?_
    refine V.iload_n dX8_isClause_15 0 rfl ?_
    refine V.callVp (As := [.int (nI wd)]) (rest := []) [0] (c_Text_hasRoom E l L _ tx tl tw tq n cl ((nI (frT F n t))) ((nI (teT F n t))) sh wd (hw) (hs)) rfl (by decide) mi_X8_hasRoom 0 rfl rfl w_368 w_369 w_370 rfl rfl (Nat.le_of_ble_eq_true rfl) ⟨by decide, by decide⟩ ⟨by decide, by decide⟩ dX8_isClause_16 (vw2 := fun _ => [(tx, ob 7 [.ref tl, .int (nI n), .ref tw, .ref tq, .int cl, .int (nI (frT F n t)), .int (nI (teT F n t)), .int (nI (roomS wd sh))]), (tl, aC E 160 F), (tw, aI E 14 W), (tq, aI E 42 G)]) (st2 := fun _ => [.int (boolI (roomS wd sh ≤ 6))]) (fun _ => rfl) (fun _ => rfl) (fun _ => rfl) (fun _ _ => ?_)
    refine V.if_ne (tgt := 24) dX8_isClause_19 (by decide) (fun c2_19 => ?_) (fun c2_19 => ?_)
    · skip
      have hroom : roomS wd sh ≤ 6 := Classical.byContradiction (fun hh => c2_19 (boolI_f hh))
      have hcl := (clauseG_word (F := F) (n := n) (t := t) (sh := sh) hw hww).trans (if_pos hroom)
      have h3 := cntW_le wd
      have hte := teT_le (F := F) ht
      refine V.aload_n dX8_isClause_24 1 rfl ?_
      refine V.getf 0 2 rfl fa_X8_15_7 rfl dX8_isClause_25 ?_
      refine V.iload_n dX8_isClause_28 2 rfl ?_
      refine V.iload_n dX8_isClause_29 0 rfl ?_
      refine V.iast (vw2 := [(tx, ob 7 [.ref tl, .int (nI n), .ref tw, .ref tq, .int cl, .int (nI (frT F n t)), .int (nI (teT F n t)), .int (nI (roomS wd sh))]), (tl, aC E 160 F), (tw, aI E 14 (upd W c (nI wd))), (tq, aI E 42 G)]) 2 rfl (vinI (by omega)) (by rw [nI_clamp (by omega)] <;> rfl) dX8_isClause_30 ?_
      refine V.iconst (v := 0) dX8_isClause_31 (by decide) ?_
      refine V.istore_n (lv2 := [(3, .int 0), (2, .int (nI wd)), (0, .ref tx), (1, .int (nI c))]) dX8_isClause_32 rfl (by decide) rfl ?_
      refine V.locals [2, 3, 1, 0] (by rfl) ?_
      have lp_33 : ∀ (fuel : Nat) (i : Nat) (t' : Nat) (G' : Nat → Int32) (f1 : Int32) (vs : List Int32) (hi : i ≤ cntW wd) (ht' : t' ≤ n) (hinv : preG vs (numsG F n wd (cntW wd - i) i t') = numsG F n wd (cntW wd) 0 (teT F n t)) (hvl : vs.length = i) (hGl : ∀ j, j < c * 3 → G' j = G j) (hGv : ∀ j, j < i → G' (c * 3 + j) = vs.getD j 0) (hf : cntW wd < i + fuel), V E l yX8_isClause cX8_isClause 6 (some (.boolean)) (rmk 6 0 0) Z L h 0 0 [(tx, ob 7 [.ref tl, .int (nI n), .ref tw, .ref tq, .int cl, .int f1, .int (nI t'), .int (nI (roomS wd sh))]), (tl, aC E 160 F), (tw, aI E 14 (upd W c (nI wd))), (tq, aI E 42 G')] 33 [(0, .ref tx), (1, .int (nI c)), (2, .int (nI wd)), (3, .int (nI i))] [] := by
        intro fuel
        induction fuel with
        | zero =>
          intro i t' G' f1 vs hi ht' hinv hvl hGl hGv hf
          exfalso; omega
        | succ fuel ih_33 =>
          intro i t' G' f1 vs hi ht' hinv hvl hGl hGv hf
          refine V.iload_n dX8_isClause_33 3 rfl ?_
          refine V.gsNum (by decide) dX8_isClause_34 ?_
          refine V.iload_n dX8_isClause_37 2 rfl ?_
          refine V.ldNum (vinI (n := 9) (by omega)) dX8_isClause_38 ?_
          refine V.topc (v := (nI (cntW wd))) (by rw [nI_clamp (by omega)]; exact stNum_w wd hw) ?_
          refine V.icmp_ge (tgt := 99) dX8_isClause_39 (by decide) (fun c3_39 => ?_) (fun c3_39 => ?_)
          · skip
            have hie : i = cntW wd := by have := (nI_leI (by omega) (by omega)).mp c3_39; omega
            have hok : numsG F n wd (cntW wd) 0 (teT F n t) = .inr (t', vs) := by rw [← hinv, hie, Nat.sub_self]; simp [numsG, preG]
            refine V.iconst (v := 1) dX8_isClause_99 (by decide) ?_
            subst hZ
            exact V.zret rfl (rfl) dX8_isClause_100 (⟨(1, (upd W c (nI wd)), G', f1, (nI t'), (nI (roomS wd sh))), rfl, rfl, rfl, ⟨fun j hj => pk_un hj, fun j hj => hGl j hj, by rw [hcl, hok]; exact ⟨rfl, rfl, rfl, pk_us, hw, by rw [hvl, hie], fun j hj => hGv j (by have h9 : j < cntW wd := hj; omega)⟩⟩⟩)
          · skip
            have hlt : i < cntW wd := Nat.lt_of_not_le (fun hh => c3_39 (nI_le hh (by omega)))
            have hsub : cntW wd - i = (cntW wd - (i + 1)) + 1 := by omega
            refine V.aload_n dX8_isClause_42 0 rfl ?_
            refine V.callVp (As := []) (rest := []) [0, 1] (c_Text_nextToken E l L _ tx tl tw tq n cl f1 ((nI (roomS wd sh))) F t' (ht') (hn)) rfl (by decide) mi_X8_nextToken 0 rfl rfl w_290 w_291 w_292 rfl rfl (Nat.le_of_ble_eq_true rfl) ⟨by decide, by decide⟩ ⟨by decide, by decide⟩ dX8_isClause_43 (vw2 := fun _ => [(tx, ob 7 [.ref tl, .int (nI n), .ref tw, .ref tq, .int cl, .int (nI (frT F n t')), .int (nI (teT F n t')), .int (nI (roomS wd sh))]), (tl, aC E 160 F), (tw, aI E 14 (upd W c (nI wd))), (tq, aI E 42 G')]) (st2 := fun _ => []) (fun _ => rfl) (fun _ => rfl) (fun _ => rfl) (fun _ _ => ?_)
            refine V.aload_n dX8_isClause_46 0 rfl ?_
            refine V.callVp (As := []) (rest := []) [0, 1] (c_Text_numberHere E l L _ tx tl tw tq n cl ((nI (roomS wd sh))) F ((frT F n t')) ((teT F n t')) (teT_ge) (teT_le ht') (hn)) rfl (by decide) mi_X8_numberHere 0 rfl rfl w_375 w_376 w_377 rfl rfl (Nat.le_of_ble_eq_true rfl) ⟨by decide, by decide⟩ ⟨by decide, by decide⟩ dX8_isClause_47 (vw2 := fun _ => [(tx, ob 7 [.ref tl, .int (nI n), .ref tw, .ref tq, .int cl, .int (nI (frT F n t')), .int (nI (teT F n t')), .int (nI (roomS wd sh))]), (tl, aC E 160 F), (tw, aI E 14 (upd W c (nI wd))), (tq, aI E 42 G')]) (st2 := fun _ => [.int (numW F (frT F n t') (teT F n t'))]) (fun _ => rfl) (fun _ => rfl) (fun _ => rfl) (fun _ _ => ?_)
            refine V.istore (lv2 := [(4, .int (numW F (frT F n t') (teT F n t'))), (0, .ref tx), (1, .int (nI c)), (2, .int (nI wd)), (3, .int (nI i))]) dX8_isClause_50 (by decide) rfl ?_
            refine V.iload_n dX8_isClause_52 3 rfl ?_
            refine V.iconst (v := 3) dX8_isClause_53 (by decide) ?_
            refine V.imul dX8_isClause_54 ?_
            refine V.topc (v := (nI (wd * 3))) (pk_mul wd 3) ?_
            refine V.iload_n dX8_isClause_55 4 rfl ?_
            refine V.iadd dX8_isClause_56 ?_
            refine V.topc (v := (nI (wd * 3 + i))) (nI_add _ _) ?_
            refine V.istore (lv2 := [(5, .int (nI (wd * 3 + i))), (4, .int (numW F (frT F n t') (teT F n t'))), (0, .ref tx), (1, .int (nI c)), (2, .int (nI wd)), (3, .int (nI i))]) dX8_isClause_57 (by decide) rfl ?_
            refine V.iload dX8_isClause_59 1 rfl ?_
            refine V.gsLow (by decide) dX8_isClause_61 ?_
            refine V.iload dX8_isClause_64 0 rfl ?_
            refine V.ldLow (vinI (n := 27) (by omega)) dX8_isClause_66 ?_
            refine V.topc (v := (lowW wd i)) (by rw [nI_clamp (by omega)]; rfl) ?_
            refine V.gsTop (by decide) dX8_isClause_67 ?_
            refine V.iload dX8_isClause_70 0 rfl ?_
            refine V.ldTop (vinI (n := 27) (by omega)) dX8_isClause_72 ?_
            refine V.topc (v := (topW wd i)) (by rw [nI_clamp (by omega)]; rfl) ?_
            refine V.callSNp (host := "RoseLane") (As := [.int (numW F (frT F n t') (teT F n t')), .int (lowW wd i), .int (topW wd i)]) (rest := []) [] (c_within E l L _ ((numW F (frT F n t') (teT F n t'))) ((lowW wd i)) ((topW wd i))) rfl (by decide) mi_X10_isWithin (by decide) w_268 rfl rfl (Nat.le_of_ble_eq_true rfl) ⟨by decide, by decide⟩ ⟨by decide, by decide⟩ dX8_isClause_73 (vw2 := fun _ => [(tx, ob 7 [.ref tl, .int (nI n), .ref tw, .ref tq, .int cl, .int (nI (frT F n t')), .int (nI (teT F n t')), .int (nI (roomS wd sh))]), (tl, aC E 160 F), (tw, aI E 14 (upd W c (nI wd))), (tq, aI E 42 G')]) (st2 := fun _ => [.int (withinI (numW F (frT F n t') (teT F n t')) (lowW wd i) (topW wd i))]) (fun _ => rfl) (fun _ => rfl) (fun _ => rfl) (fun _ _ => ?_)
            refine V.if_ne (tgt := 81) dX8_isClause_76 (by decide) (fun c4_76 => ?_) (fun c4_76 => ?_)
            · skip
              have hin9 : withinI (numW F (frT F n t') (teT F n t')) (lowW wd i) (topW wd i) = 1 := (withinI_01 _ _ _).resolve_left c4_76
              refine V.aload_n dX8_isClause_81 2 rfl ?_
              refine V.getf 0 3 rfl fa_X8_19_7 rfl dX8_isClause_82 ?_
              refine V.iload_n dX8_isClause_85 3 rfl ?_
              refine V.iconst (v := 3) dX8_isClause_86 (by decide) ?_
              refine V.imul dX8_isClause_87 ?_
              refine V.topc (v := (nI (c * 3))) (pk_mul c 3) ?_
              refine V.iload_n dX8_isClause_88 5 rfl ?_
              refine V.iadd dX8_isClause_89 ?_
              refine V.topc (v := (nI (c * 3 + i))) (nI_add _ _) ?_
              refine V.iload dX8_isClause_90 1 rfl ?_
              refine V.iast (vw2 := [(tx, ob 7 [.ref tl, .int (nI n), .ref tw, .ref tq, .int cl, .int (nI (frT F n t')), .int (nI (teT F n t')), .int (nI (roomS wd sh))]), (tl, aC E 160 F), (tw, aI E 14 (upd W c (nI wd))), (tq, aI E 42 (upd G' (c * 3 + i) (numW F (frT F n t') (teT F n t'))))]) 3 rfl (vinI (by omega)) (by rw [nI_clamp (by omega)] <;> rfl) dX8_isClause_92 ?_
              refine V.iinc (v := (nI (i + 1))) (lv2 := [(3, .int (nI (i + 1))), (5, .int (nI (wd * 3 + i))), (4, .int (numW F (frT F n t') (teT F n t'))), (0, .ref tx), (1, .int (nI c)), (2, .int (nI wd))]) dX8_isClause_93 5 rfl (nI_1 _) (by decide) rfl ?_
              refine V.goto (tgt := 33) dX8_isClause_96 (by decide) ?_
              refine V.locals [3, 4, 5, 0] (by rfl) ?_
              exact ih_33 (i + 1) _ _ _ (vs ++ [(numW F (frT F n t') (teT F n t'))]) (by omega) (teT_le ht') (by rw [← hinv, hsub, preG_step hin9]) (by simp [hvl]) (fun j hj => by rw [pk_un (by omega)]; exact hGl j hj) (fun j hj => by
              rcases Nat.lt_succ_iff_lt_or_eq.mp hj with hj2 | rfl
              · rw [pk_un (by omega), hGv j hj2, List.getD_eq_getElem?_getD, List.getD_eq_getElem?_getD, List.getElem?_append_left (by omega)]
              · rw [pk_us, List.getD_eq_getElem?_getD, List.getElem?_append_right (by omega), hvl, Nat.sub_self]; rfl) (by omega)
            · skip
              have hbad : numsG F n wd (cntW wd) 0 (teT F n t) = .inl (frT F n t') := by rw [← hinv, hsub, preG_bad c4_76]
              refine V.iconst (v := 0) dX8_isClause_79 (by decide) ?_
              subst hZ
              exact V.zret rfl (rfl) dX8_isClause_80 (⟨(0, (upd W c (nI wd)), G', (nI (frT F n t')), (nI (teT F n t')), (nI (roomS wd sh))), rfl, rfl, rfl, ⟨fun j hj => pk_un hj, fun j hj => hGl j hj, by rw [hcl, hbad]; exact ⟨rfl, rfl⟩⟩⟩)
      exact lp_33 (cntW wd + 1) 0 (teT F n t) G _ [] (Nat.zero_le _) hte (preG_nil _) rfl (fun _ _ => rfl) (fun j hj => absurd hj (Nat.not_lt_zero _)) (by omega)
    · skip
      have hroom : ¬ roomS wd sh ≤ 6 := fun hh => absurd ((boolI_t hh).symm.trans c2_19) (by decide)
      have hcl : (clauseG F n t sh) = .inl (frT F n t) := by rw [clauseG_word hw hww, if_neg hroom]
      refine V.iconst (v := 0) dX8_isClause_22 (by decide) ?_
      subst hZ
      exact V.zret rfl (rfl) dX8_isClause_23 (⟨(0, W, G, (nI (frT F n t)), (nI (teT F n t)), (nI (roomS wd sh))), rfl, rfl, rfl, ⟨fun _ _ => rfl, fun _ _ => rfl, by rw [hcl]; exact ⟨rfl, rfl⟩⟩⟩)

set_option maxHeartbeats 4000000 in
set_option maxRecDepth 100000 in
theorem c_Text_read (E : vEnv) (l : Launch) (L : List Nat) (h : Nat → va_E) (tx : Nat) (tl : Nat) (tw : Nat) (tq : Nat) (n : Nat) (cl : Int32) (x1 : Int32) (x2 : Int32) (x3 : Int32) (F : Nat → Int32) (W : Nat → Int32) (G : Nat → Int32) (sh : Nat) (hn : n ≤ 160) (hs : sh ≤ 6) : CT E l yX8_read cX8_read 3 (some (.int)) 7 0 0 L h [(tx, ob 7 [.ref tl, .int (nI n), .ref tw, .ref tq, .int cl, .int x1, .int x2, .int x3]), (tl, aC E 160 F), (tw, aI E 14 W), (tq, aI E 42 G)] [.ref tx, .int (nI sh)] (qP L h (fun (u : RDS) => [(tx, ob 7 [.ref tl, .int (nI n), .ref tw, .ref tq, .int u.2.2.2.1, .int u.2.2.2.2.1, .int u.2.2.2.2.2.1, .int u.2.2.2.2.2.2]), (tl, aC E 160 F), (tw, aI E 14 u.2.1), (tq, aI E 42 u.2.2.1)]) (fun u => some (.int u.1)) (fun u => rdRel (readG F n 13 0 sh) u)) := by
  refine CT.ofV (by decide +kernel) (Nat.le_of_ble_eq_true rfl) ?_
  obtain ⟨Z, hZ⟩ : ∃ Z, Z = mZ E (qP L h (fun (u : RDS) => [(tx, ob 7 [.ref tl, .int (nI n), .ref tw, .ref tq, .int u.2.2.2.1, .int u.2.2.2.2.1, .int u.2.2.2.2.2.1, .int u.2.2.2.2.2.2]), (tl, aC E 160 F), (tw, aI E 14 u.2.1), (tq, aI E 42 u.2.2.1)]) (fun u => some (.int u.1)) (fun u => rdRel (readG F n 13 0 sh) u)) 0 0 := ⟨_, rfl⟩
  rw [← hZ]
  refine V.locals2 (lv2 := [(0, .ref tx), (1, .int (nI sh))]) rfl ?_
  refine V.aload_n dX8_read_0 0 rfl ?_
  refine V.iload_n dX8_read_1 1 rfl ?_
  refine V.putf 0 7 (vw2 := [(tx, ob 7 [.ref tl, .int (nI n), .ref tw, .ref tq, .int cl, .int x1, .int x2, .int (nI sh)]), (tl, aC E 160 F), (tw, aI E 14 W), (tq, aI E 42 G)]) rfl fp_X8_26_7 rfl rfl (Nat.le_of_ble_eq_true rfl) rfl dX8_read_2 ?_
  refine V.aload_n dX8_read_5 0 rfl ?_
  refine V.iconst (v := 0) dX8_read_6 (by decide) ?_
  refine V.putf 0 4 (vw2 := [(tx, ob 7 [.ref tl, .int (nI n), .ref tw, .ref tq, .int 0, .int x1, .int x2, .int (nI sh)]), (tl, aC E 160 F), (tw, aI E 14 W), (tq, aI E 42 G)]) rfl fp_X8_29_7 rfl rfl (Nat.le_of_ble_eq_true rfl) rfl dX8_read_7 ?_
  refine V.aload_n dX8_read_10 0 rfl ?_
  refine V.iconst (v := 0) dX8_read_11 (by decide) ?_
  refine V.putf 0 6 (vw2 := [(tx, ob 7 [.ref tl, .int (nI n), .ref tw, .ref tq, .int 0, .int x1, .int 0, .int (nI sh)]), (tl, aC E 160 F), (tw, aI E 14 W), (tq, aI E 42 G)]) rfl fp_X8_32_7 rfl rfl (Nat.le_of_ble_eq_true rfl) rfl dX8_read_12 ?_
  refine V.iconst (v := 0) dX8_read_15 (by decide) ?_
  refine V.istore_n (lv2 := [(2, .int 0), (0, .ref tx), (1, .int (nI sh))]) dX8_read_16 rfl (by decide) rfl ?_
  refine V.locals [1, 0] (by rfl) ?_
  have lp_17 : ∀ (fuel : Nat) (c : Nat) (t : Nat) (s : Nat) (W' : Nat → Int32) (G' : Nat → Int32) (f1 : Int32) (cs : List CLA) (hc : c ≤ 14) (ht : t ≤ n) (hs1 : s ≤ 6) (hl : cs.length = c) (hh : heldC W' G' cs) (hrun : c < 14 → preC cs (readG F n (13 - c) t s) = readG F n 13 0 sh) (hend : c = 14 → ∃ p, readG F n 13 0 sh = .inl p ∧ f1 = nI p) (hf : 14 < c + fuel), V E l yX8_read cX8_read 3 (some (.int)) (rmk 7 0 0) Z L h 0 0 [(tx, ob 7 [.ref tl, .int (nI n), .ref tw, .ref tq, .int (nI c), .int f1, .int (nI t), .int (nI s)]), (tl, aC E 160 F), (tw, aI E 14 W'), (tq, aI E 42 G')] 17 [(0, .ref tx), (2, .int (nI c))] [] := by
    intro fuel
    induction fuel with
    | zero =>
      intro c t s W' G' f1 cs hc ht hs1 hl hh hrun hend hf
      exfalso; omega
    | succ fuel ih_17 =>
      intro c t s W' G' f1 cs hc ht hs1 hl hh hrun hend hf
      refine V.iload_n dX8_read_17 1 rfl ?_
      refine V.bipush (v := 14) dX8_read_18 (by decide) ?_
      refine V.icmp_ge (tgt := 88) dX8_read_20 (by decide) (fun c1_20 => ?_) (fun c1_20 => ?_)
      · skip
        have hc20 : 14 ≤ c := (nI_leI (a := 14) (by omega) (by omega)).mp c1_20
        refine V.aload_n dX8_read_88 0 rfl ?_
        refine V.getf 0 5 rfl fa_X8_39_7 rfl dX8_read_89 ?_
        subst hZ
        exact V.iret rfl dX8_read_92 (⟨(f1, W', G', (nI c), f1, (nI t), (nI s)), rfl, rfl, rfl, by obtain ⟨p, hp1, hp2⟩ := hend (by omega); rw [hp1]; exact hp2⟩)
      · skip
        have hc20 : c < 14 := Nat.lt_of_not_le (fun hh => c1_20 (nI_le (a := 14) hh (by omega)))
        refine V.aload_n dX8_read_23 0 rfl ?_
        refine V.iload_n dX8_read_24 1 rfl ?_
        refine V.callVp (As := [.int (nI c)]) (rest := []) [0, 1, 2, 3] (c_Text_isClause E l L _ tx tl tw tq n ((nI c)) f1 F W' G' t s c (ht) (hn) (hs1) (hc20)) rfl (by decide) mi_X8_isClause 0 rfl rfl w_286 w_287 w_288 rfl rfl (Nat.le_of_ble_eq_true rfl) ⟨by decide, by decide⟩ ⟨by decide, by decide⟩ dX8_read_25 (vw2 := fun u => [(tx, ob 7 [.ref tl, .int (nI n), .ref tw, .ref tq, .int (nI c), .int u.2.2.2.1, .int u.2.2.2.2.1, .int u.2.2.2.2.2]), (tl, aC E 160 F), (tw, aI E 14 u.2.1), (tq, aI E 42 u.2.2.1)]) (st2 := fun u => [.int u.1]) (fun _ => rfl) (fun _ => rfl) (fun _ => rfl) (fun u hq_25 => ?_)
        refine V.if_ne (tgt := 36) dX8_read_28 (by decide) (fun c2_28 => ?_) (fun c2_28 => ?_)
        · skip
          obtain ⟨hW1, hG1, hrel⟩ := hq_25
          have hx : ∃ (cl1 : CLA) (t1 s1 : Nat), (clauseG F n t s) = .inr (cl1, t1, s1) ∧ u.2.2.2.2.1 = nI t1 ∧ u.2.2.2.2.2 = nI s1 ∧ (u.2.1 c = nI cl1.1 ∧ cl1.1 < 9 ∧ cl1.2.length = cntW cl1.1 ∧ ∀ j, j < cntW cl1.1 → u.2.2.1 (c * 3 + j) = cl1.2.getD j 0) := by
            cases hcg : (clauseG F n t s) with
            | inl p => rw [hcg] at hrel; exact absurd hrel.1 c2_28
            | inr q => rw [hcg] at hrel; exact ⟨q.1, q.2.1, q.2.2, rfl, hrel.2.1, hrel.2.2.1, hrel.2.2.2⟩
          obtain ⟨cl1, t1, s1, hcg, hr2, hr3, hr4⟩ := hx
          have ht1 : t1 ≤ n ∧ s1 ≤ 6 := clauseG_le ht hcg
          have hfl : frT F n t1 ≤ n := frT_le ht1.1
          have hheld := heldC_app hh (fun j hj => hW1 j (by rw [hl] at hj; exact hj)) (fun j hj => hG1 j (by rw [hl] at hj; exact hj)) (q := cl1) (by rw [hl]; exact hr4)
          rw [hr2, hr3]
          refine V.aload_n dX8_read_36 0 rfl ?_
          refine V.dup dX8_read_37 rfl ?_
          refine V.getf 0 4 rfl fa_X8_29_7 rfl dX8_read_38 ?_
          refine V.iconst (v := 1) dX8_read_41 (by decide) ?_
          refine V.iadd dX8_read_42 ?_
          refine V.topc (v := (nI (c + 1))) (nI_1 c) ?_
          refine V.putf 0 4 (vw2 := [(tx, ob 7 [.ref tl, .int (nI n), .ref tw, .ref tq, .int (nI (c + 1)), .int u.2.2.2.1, .int (nI t1), .int (nI s1)]), (tl, aC E 160 F), (tw, aI E 14 u.2.1), (tq, aI E 42 u.2.2.1)]) rfl fp_X8_29_7 rfl rfl (Nat.le_of_ble_eq_true rfl) rfl dX8_read_43 ?_
          refine V.aload_n dX8_read_46 0 rfl ?_
          refine V.callVp (As := []) (rest := []) [0, 1] (c_Text_nextToken E l L _ tx tl tw tq n ((nI (c + 1))) u.2.2.2.1 ((nI s1)) F t1 (ht1.1) (hn)) rfl (by decide) mi_X8_nextToken 0 rfl rfl w_290 w_291 w_292 rfl rfl (Nat.le_of_ble_eq_true rfl) ⟨by decide, by decide⟩ ⟨by decide, by decide⟩ dX8_read_47 (vw2 := fun _ => [(tx, ob 7 [.ref tl, .int (nI n), .ref tw, .ref tq, .int (nI (c + 1)), .int (nI (frT F n t1)), .int (nI (teT F n t1)), .int (nI s1)]), (tl, aC E 160 F), (tw, aI E 14 u.2.1), (tq, aI E 42 u.2.2.1)]) (st2 := fun _ => []) (fun _ => rfl) (fun _ => rfl) (fun _ => rfl) (fun _ _ => ?_)
          refine V.aload_n dX8_read_50 0 rfl ?_
          refine V.getf 0 5 rfl fa_X8_39_7 rfl dX8_read_51 ?_
          refine V.aload_n dX8_read_54 0 rfl ?_
          refine V.getf 0 1 rfl fa_X8_22_7 rfl dX8_read_55 ?_
          refine V.icmp_lt (tgt := 63) dX8_read_58 (by decide) (fun c3_58 => ?_) (fun c3_58 => ?_)
          · skip
            have h58 : ¬ n ≤ frT F n t1 := fun hh => absurd ((nI_ltI (by omega) (by omega)).mp c3_58) (by omega)
            have hfrl : frT F n t1 < n := by omega
            refine V.aload_n dX8_read_63 0 rfl ?_
            refine V.getf 0 0 rfl fa_X8_9_7 rfl dX8_read_64 ?_
            refine V.aload_n dX8_read_67 0 rfl ?_
            refine V.getf 0 5 rfl fa_X8_39_7 rfl dX8_read_68 ?_
            refine V.cald 1 rfl (vinI (by omega)) dX8_read_71 ?_
            refine V.topc (v := (F (frT F n t1))) (by rw [nI_clamp (by omega)]) ?_
            refine V.bipush (v := 59) dX8_read_72 (by decide) ?_
            refine V.icmp_eq (tgt := 82) dX8_read_74 (by decide) (fun c4_74 => ?_) (fun c4_74 => ?_)
            · skip
              have h74 : F (frT F n t1) = 59 := c4_74
              refine V.iinc (v := (nI (c + 1))) (lv2 := [(2, .int (nI (c + 1))), (0, .ref tx)]) dX8_read_82 1 rfl (nI_1 _) (by decide) rfl ?_
              refine V.goto (tgt := 17) dX8_read_85 (by decide) ?_
              refine V.locals [1, 0] (by rfl) ?_
              exact ih_17 (c + 1) (teT F n t1) s1 u.2.1 u.2.2.1 (nI (frT F n t1)) (cs ++ [cl1]) (by omega) (teT_le ht1.1) ht1.2 (by rw [List.length_append, hl]; rfl) hheld (fun hlt => by
                rw [← hrun hc20, show 13 - c = (13 - (c + 1)) + 1 by omega, readG_more hcg h58 h74]) (fun hce => by
                refine ⟨frT F n t1, ?_, rfl⟩
                rw [← hrun hc20, show 13 - c = 0 by omega, readG_full hcg h58 h74]; rfl) (by omega)
            · skip
              have hT : readG F n 13 0 sh = .inl (frT F n t1) := by rw [← hrun hc20, readG_not hcg h58 c4_74]; rfl
              refine V.aload_n dX8_read_77 0 rfl ?_
              refine V.getf 0 5 rfl fa_X8_39_7 rfl dX8_read_78 ?_
              subst hZ
              exact V.iret rfl dX8_read_81 (⟨((nI (frT F n t1)), u.2.1, u.2.2.1, (nI (c + 1)), (nI (frT F n t1)), (nI (teT F n t1)), (nI s1)), rfl, rfl, rfl, by rw [hT]; rfl⟩)
          · skip
            have h58 : n ≤ frT F n t1 := Nat.le_of_not_lt (fun hh => c3_58 (nI_lt hh (by omega)))
            have hT : readG F n 13 0 sh = .inr (cs ++ [cl1]) := by rw [← hrun hc20, readG_end hcg h58]; rfl
            refine V.iconst (v := (-1)) dX8_read_61 (by decide) ?_
            subst hZ
            exact V.iret rfl dX8_read_62 (⟨((-1), u.2.1, u.2.2.1, (nI (c + 1)), (nI (frT F n t1)), (nI (teT F n t1)), (nI s1)), rfl, rfl, rfl, by rw [hT]; exact ⟨rfl, by rw [List.length_append, hl]; rfl, by rw [List.length_append, hl]; exact hc20, hheld⟩⟩)
        · skip
          obtain ⟨-, -, hrel⟩ := hq_25
          have hq25 : u.2.2.2.1 = u.2.2.2.1 := rfl
          have hx : ∃ p, (clauseG F n t s) = .inl p ∧ u.2.2.2.1 = nI p := by
            cases hcg : (clauseG F n t s) with
            | inl p => rw [hcg] at hrel; exact ⟨p, rfl, hrel.2⟩
            | inr q => rw [hcg] at hrel; exact absurd (c2_28.symm.trans hrel.1) (by decide)
          obtain ⟨p, hp1, hp2⟩ := hx
          have hT : readG F n 13 0 sh = .inl p := by rw [← hrun hc20, readG_bad hp1]; rfl
          have hq25 := hp2
          refine V.aload_n dX8_read_31 0 rfl ?_
          refine V.getf 0 5 rfl fa_X8_39_7 rfl dX8_read_32 ?_
          subst hZ
          exact V.iret rfl dX8_read_35 (⟨(u.2.2.2.1, u.2.1, u.2.2.1, (nI c), u.2.2.2.1, u.2.2.2.2.1, u.2.2.2.2.2), rfl, rfl, rfl, by rw [hT]; exact hq25⟩)
  exact lp_17 (15) 0 0 sh W G x1 [] (by omega) (Nat.zero_le _) hs rfl (fun i q hq => by simp at hq) (fun _ => preC_nil _) (fun h9 => absurd h9 (by omega)) (by omega)
