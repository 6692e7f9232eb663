set_option maxHeartbeats 4000000 in
set_option maxRecDepth 100000 in
theorem c_Text_says (E : vEnv) (l : Launch) (L : List Nat) (h : Nat → va_E) (tx : Nat) (tl : Nat) (tw : Nat) (tq : Nat) (n : Nat) (cl : Int32) (x3 : Int32) (F : Nat → Int32) (a : Nat) (b : Nat) (s : Nat) (hab : a ≤ b) (hb : b ≤ n) (hn : n ≤ 160) (hs : s < 9) : CT E l yX8_says cX8_says 3 (some (.boolean)) 4 0 0 L h [(tx, ob 7 [.ref tl, .int (nI n), .ref tw, .ref tq, .int cl, .int (nI a), .int (nI b), .int x3]), (tl, aC E 160 F)] [.ref tx, .ref (eK E s)] (qP L h (fun (_ : Unit) => [(tx, ob 7 [.ref tl, .int (nI n), .ref tw, .ref tq, .int cl, .int (nI a), .int (nI b), .int x3]), (tl, aC E 160 F)]) (fun _ => some (.int (boolI (saysP F a b s)))) (fun _ => True)) := by
  refine CT.ofV (by decide +kernel) (Nat.le_of_ble_eq_true rfl) ?_
  obtain ⟨Z, hZ⟩ : ∃ Z, Z = mZ E (qP L h (fun (_ : Unit) => [(tx, ob 7 [.ref tl, .int (nI n), .ref tw, .ref tq, .int cl, .int (nI a), .int (nI b), .int x3]), (tl, aC E 160 F)]) (fun _ => some (.int (boolI (saysP F a b s)))) (fun _ => True)) 0 0 := ⟨_, rfl⟩
  rw [← hZ]
  refine V.locals2 (lv2 := [(0, .ref tx), (1, .ref (eK E s))]) rfl ?_
  refine V.aload_n dX8_says_0 0 rfl ?_
  refine V.getf 0 6 rfl fa_X8_32_7 rfl dX8_says_1 ?_
  refine V.aload_n dX8_says_4 0 rfl ?_
  refine V.getf 0 5 rfl fa_X8_39_7 rfl dX8_says_5 ?_
  refine V.isub dX8_says_8 ?_
  refine V.topc (v := (nI (b - a))) (nI_subN hab) ?_
  refine V.aload_n dX8_says_9 1 rfl ?_
  refine V.callK hs (As := []) (rest := [.int (nI (b - a))]) (c_slen E l L _ s hs) mi_J0_length_8abf5 w_312 w_313 w_314 rfl rfl (Nat.le_of_ble_eq_true rfl) ⟨by decide, by decide⟩ ⟨by decide, by decide⟩ dX8_says_10 ?_
  refine V.icmp_eq (tgt := 18) dX8_says_13 (by decide) (fun c1_13 => ?_) (fun c1_13 => ?_)
  · skip
    have hlen : b - a = sLen s := (nI_eq (by omega) (by have := sLen_le s hs; omega)).mp c1_13
    refine V.iconst (v := 0) dX8_says_18 (by decide) ?_
    refine V.istore_n (lv2 := [(2, .int 0), (0, .ref tx), (1, .ref (eK E s))]) dX8_says_19 rfl (by decide) rfl ?_
    refine V.locals [1, 2, 0] (by rfl) ?_
    have lp_20 : ∀ (fuel : Nat) (i : Nat) (hi : i ≤ sLen s) (hd : ∀ j, j < i → F (a + j) = sAt s j) (hf : sLen s < i + fuel), V E l yX8_says cX8_says 3 (some (.boolean)) (rmk 4 0 0) Z L h 0 0 [(tx, ob 7 [.ref tl, .int (nI n), .ref tw, .ref tq, .int cl, .int (nI a), .int (nI b), .int x3]), (tl, aC E 160 F)] 20 [(0, .ref tx), (1, .ref (eK E s)), (2, .int (nI i))] [] := by
      intro fuel
      induction fuel with
      | zero =>
        intro i hi hd hf
        exfalso; omega
      | succ fuel ih_20 =>
        intro i hi hd hf
        refine V.iload_n dX8_says_20 2 rfl ?_
        refine V.aload_n dX8_says_21 1 rfl ?_
        refine V.callK hs (As := []) (rest := [.int (nI i)]) (c_slen E l L _ s hs) mi_J0_length_8abf5 w_312 w_313 w_314 rfl rfl (Nat.le_of_ble_eq_true rfl) ⟨by decide, by decide⟩ ⟨by decide, by decide⟩ dX8_says_22 ?_
        refine V.icmp_ge (tgt := 55) dX8_says_25 (by decide) (fun c2_25 => ?_) (fun c2_25 => ?_)
        · skip
          have hc_25 : sLen s ≤ i := (nI_leI (by have := sLen_le s hs; omega) (by have := sLen_le s hs; omega)).mp c2_25
          refine V.iconst (v := 1) dX8_says_55 (by decide) ?_
          subst hZ
          exact V.zret rfl (rfl) dX8_says_56 (⟨(), by rw [boolI_t ⟨hlen, fun j hj => hd j (by omega)⟩], rfl, rfl, trivial⟩)
        · skip
          have hc_25 : i < sLen s := Nat.lt_of_not_le (fun hh => c2_25 (nI_le hh (by have := sLen_le s hs; omega)))
          refine V.aload_n dX8_says_28 0 rfl ?_
          refine V.getf 0 0 rfl fa_X8_9_7 rfl dX8_says_29 ?_
          refine V.aload_n dX8_says_32 0 rfl ?_
          refine V.getf 0 5 rfl fa_X8_39_7 rfl dX8_says_33 ?_
          refine V.iload_n dX8_says_36 2 rfl ?_
          refine V.iadd dX8_says_37 ?_
          refine V.topc (v := (nI (a + i))) (nI_add _ _) ?_
          refine V.cald 1 rfl (vinI (by omega)) dX8_says_38 ?_
          refine V.topc (v := (F (a + i))) (by rw [nI_clamp (by omega)]) ?_
          refine V.aload_n dX8_says_39 1 rfl ?_
          refine V.iload_n dX8_says_40 2 rfl ?_
          refine V.callK hs (As := [.int (nI i)]) (rest := [.int (F (a + i))]) (c_schar E l L _ s i hs (hc_25)) mi_J0_charAt_5068e w_322 w_323 w_324 rfl rfl (Nat.le_of_ble_eq_true rfl) ⟨by decide, by decide⟩ ⟨by decide, by decide⟩ dX8_says_41 ?_
          refine V.icmp_eq (tgt := 49) dX8_says_44 (by decide) (fun c3_44 => ?_) (fun c3_44 => ?_)
          · skip
            have h44 := c3_44
            refine V.iinc (v := (nI (i + 1))) (lv2 := [(2, .int (nI (i + 1))), (0, .ref tx), (1, .ref (eK E s))]) dX8_says_49 2 rfl (nI_1 _) (by decide) rfl ?_
            refine V.goto (tgt := 20) dX8_says_52 (by decide) ?_
            refine V.locals [1, 2, 0] (by rfl) ?_
            exact ih_20 (i + 1) (by omega) (fun j hj => by rcases Nat.lt_succ_iff_lt_or_eq.mp hj with hj | rfl; exact hd j hj; exact h44) (by omega)
          · skip
            have h44 := c3_44
            refine V.iconst (v := 0) dX8_says_47 (by decide) ?_
            subst hZ
            exact V.zret rfl (rfl) dX8_says_48 (⟨(), by rw [boolI_f]; intro hh; exact h44 (hh.2 i hc_25), rfl, rfl, trivial⟩)
    exact lp_20 (sLen s + 1) 0 (Nat.zero_le _) (fun j hj => absurd hj (Nat.not_lt_zero _)) (by omega)
  · skip
    refine V.iconst (v := 0) dX8_says_16 (by decide) ?_
    subst hZ
    exact V.zret rfl (rfl) dX8_says_17 (⟨(), by rw [boolI_f]; intro hh; exact c1_13 (by rw [hh.1]), rfl, rfl, trivial⟩)

set_option maxHeartbeats 4000000 in
set_option maxRecDepth 100000 in
theorem c_Text_wordHere (E : vEnv) (l : Launch) (L : List Nat) (h : Nat → va_E) (tx : Nat) (tl : Nat) (tw : Nat) (tq : Nat) (n : Nat) (cl : Int32) (x3 : Int32) (F : Nat → Int32) (a : Nat) (b : Nat) (hab : a ≤ b) (hb : b ≤ n) (hn : n ≤ 160) : CT E l yX8_wordHere cX8_wordHere 1 (some (.int)) 5 0 0 L h [(tx, ob 7 [.ref tl, .int (nI n), .ref tw, .ref tq, .int cl, .int (nI a), .int (nI b), .int x3]), (tl, aC E 160 F)] [.ref tx] (qP L h (fun (_ : Unit) => [(tx, ob 7 [.ref tl, .int (nI n), .ref tw, .ref tq, .int cl, .int (nI a), .int (nI b), .int x3]), (tl, aC E 160 F)]) (fun _ => some (.int (wordW F a b))) (fun _ => True)) := by
  refine CT.ofV (by decide +kernel) (Nat.le_of_ble_eq_true rfl) ?_
  refine V.locals2 (lv2 := [(0, .ref tx)]) rfl ?_
  refine V.aload_n dX8_wordHere_0 0 rfl ?_
  refine V.ldcS (i := 0) rfl rfl dX8_wordHere_1 ?_
  refine V.callVp (As := [.ref (eK E 0)]) (rest := []) [0, 1] (c_Text_says E l L _ tx tl tw tq n cl x3 F a b 0 (hab) (hb) (hn) (by omega)) rfl (by decide) mi_X8_says 0 rfl rfl w_308 w_309 w_310 rfl rfl (Nat.le_of_ble_eq_true rfl) ⟨by decide, by decide⟩ ⟨by decide, by decide⟩ dX8_wordHere_3 (vw2 := fun _ => [(tx, ob 7 [.ref tl, .int (nI n), .ref tw, .ref tq, .int cl, .int (nI a), .int (nI b), .int x3]), (tl, aC E 160 F)]) (st2 := fun _ => [.int (boolI (saysP F a b 0))]) (fun _ => rfl) (fun _ => rfl) (fun _ => rfl) (fun _ _ => ?_)
  refine V.if_eq (tgt := 11) dX8_wordHere_6 (by decide) (fun c1_6 => ?_) (fun c1_6 => ?_)
  · skip
    have g0 : ¬ saysP F a b 0 := fun hh => absurd ((boolI_t hh).symm.trans c1_6) (by decide)
    refine V.aload_n dX8_wordHere_11 0 rfl ?_
    refine V.ldcS (i := 1) rfl rfl dX8_wordHere_12 ?_
    refine V.callVp (As := [.ref (eK E 1)]) (rest := []) [0, 1] (c_Text_says E l L _ tx tl tw tq n cl x3 F a b 1 (hab) (hb) (hn) (by omega)) rfl (by decide) mi_X8_says 0 rfl rfl w_308 w_309 w_310 rfl rfl (Nat.le_of_ble_eq_true rfl) ⟨by decide, by decide⟩ ⟨by decide, by decide⟩ dX8_wordHere_14 (vw2 := fun _ => [(tx, ob 7 [.ref tl, .int (nI n), .ref tw, .ref tq, .int cl, .int (nI a), .int (nI b), .int x3]), (tl, aC E 160 F)]) (st2 := fun _ => [.int (boolI (saysP F a b 1))]) (fun _ => rfl) (fun _ => rfl) (fun _ => rfl) (fun _ _ => ?_)
    refine V.if_eq (tgt := 22) dX8_wordHere_17 (by decide) (fun c2_17 => ?_) (fun c2_17 => ?_)
    · skip
      have g1 : ¬ saysP F a b 1 := fun hh => absurd ((boolI_t hh).symm.trans c2_17) (by decide)
      refine V.aload_n dX8_wordHere_22 0 rfl ?_
      refine V.ldcS (i := 2) rfl rfl dX8_wordHere_23 ?_
      refine V.callVp (As := [.ref (eK E 2)]) (rest := []) [0, 1] (c_Text_says E l L _ tx tl tw tq n cl x3 F a b 2 (hab) (hb) (hn) (by omega)) rfl (by decide) mi_X8_says 0 rfl rfl w_308 w_309 w_310 rfl rfl (Nat.le_of_ble_eq_true rfl) ⟨by decide, by decide⟩ ⟨by decide, by decide⟩ dX8_wordHere_25 (vw2 := fun _ => [(tx, ob 7 [.ref tl, .int (nI n), .ref tw, .ref tq, .int cl, .int (nI a), .int (nI b), .int x3]), (tl, aC E 160 F)]) (st2 := fun _ => [.int (boolI (saysP F a b 2))]) (fun _ => rfl) (fun _ => rfl) (fun _ => rfl) (fun _ _ => ?_)
      refine V.if_eq (tgt := 33) dX8_wordHere_28 (by decide) (fun c3_28 => ?_) (fun c3_28 => ?_)
      · skip
        have g2 : ¬ saysP F a b 2 := fun hh => absurd ((boolI_t hh).symm.trans c3_28) (by decide)
        refine V.aload_n dX8_wordHere_33 0 rfl ?_
        refine V.ldcS (i := 3) rfl rfl dX8_wordHere_34 ?_
        refine V.callVp (As := [.ref (eK E 3)]) (rest := []) [0, 1] (c_Text_says E l L _ tx tl tw tq n cl x3 F a b 3 (hab) (hb) (hn) (by omega)) rfl (by decide) mi_X8_says 0 rfl rfl w_308 w_309 w_310 rfl rfl (Nat.le_of_ble_eq_true rfl) ⟨by decide, by decide⟩ ⟨by decide, by decide⟩ dX8_wordHere_36 (vw2 := fun _ => [(tx, ob 7 [.ref tl, .int (nI n), .ref tw, .ref tq, .int cl, .int (nI a), .int (nI b), .int x3]), (tl, aC E 160 F)]) (st2 := fun _ => [.int (boolI (saysP F a b 3))]) (fun _ => rfl) (fun _ => rfl) (fun _ => rfl) (fun _ _ => ?_)
        refine V.if_eq (tgt := 44) dX8_wordHere_39 (by decide) (fun c4_39 => ?_) (fun c4_39 => ?_)
        · skip
          have g3 : ¬ saysP F a b 3 := fun hh => absurd ((boolI_t hh).symm.trans c4_39) (by decide)
          refine V.aload_n dX8_wordHere_44 0 rfl ?_
          refine V.ldcS (i := 4) rfl rfl dX8_wordHere_45 ?_
          refine V.callVp (As := [.ref (eK E 4)]) (rest := []) [0, 1] (c_Text_says E l L _ tx tl tw tq n cl x3 F a b 4 (hab) (hb) (hn) (by omega)) rfl (by decide) mi_X8_says 0 rfl rfl w_308 w_309 w_310 rfl rfl (Nat.le_of_ble_eq_true rfl) ⟨by decide, by decide⟩ ⟨by decide, by decide⟩ dX8_wordHere_47 (vw2 := fun _ => [(tx, ob 7 [.ref tl, .int (nI n), .ref tw, .ref tq, .int cl, .int (nI a), .int (nI b), .int x3]), (tl, aC E 160 F)]) (st2 := fun _ => [.int (boolI (saysP F a b 4))]) (fun _ => rfl) (fun _ => rfl) (fun _ => rfl) (fun _ _ => ?_)
          refine V.if_eq (tgt := 55) dX8_wordHere_50 (by decide) (fun c5_50 => ?_) (fun c5_50 => ?_)
          · skip
            have g4 : ¬ saysP F a b 4 := fun hh => absurd ((boolI_t hh).symm.trans c5_50) (by decide)
            refine V.aload_n dX8_wordHere_55 0 rfl ?_
            refine V.ldcS (i := 5) rfl rfl dX8_wordHere_56 ?_
            refine V.callVp (As := [.ref (eK E 5)]) (rest := []) [0, 1] (c_Text_says E l L _ tx tl tw tq n cl x3 F a b 5 (hab) (hb) (hn) (by omega)) rfl (by decide) mi_X8_says 0 rfl rfl w_308 w_309 w_310 rfl rfl (Nat.le_of_ble_eq_true rfl) ⟨by decide, by decide⟩ ⟨by decide, by decide⟩ dX8_wordHere_58 (vw2 := fun _ => [(tx, ob 7 [.ref tl, .int (nI n), .ref tw, .ref tq, .int cl, .int (nI a), .int (nI b), .int x3]), (tl, aC E 160 F)]) (st2 := fun _ => [.int (boolI (saysP F a b 5))]) (fun _ => rfl) (fun _ => rfl) (fun _ => rfl) (fun _ _ => ?_)
            refine V.if_eq (tgt := 66) dX8_wordHere_61 (by decide) (fun c6_61 => ?_) (fun c6_61 => ?_)
            · skip
              have g5 : ¬ saysP F a b 5 := fun hh => absurd ((boolI_t hh).symm.trans c6_61) (by decide)
              refine V.aload_n dX8_wordHere_66 0 rfl ?_
              refine V.ldcS (i := 6) rfl rfl dX8_wordHere_67 ?_
              refine V.callVp (As := [.ref (eK E 6)]) (rest := []) [0, 1] (c_Text_says E l L _ tx tl tw tq n cl x3 F a b 6 (hab) (hb) (hn) (by omega)) rfl (by decide) mi_X8_says 0 rfl rfl w_308 w_309 w_310 rfl rfl (Nat.le_of_ble_eq_true rfl) ⟨by decide, by decide⟩ ⟨by decide, by decide⟩ dX8_wordHere_69 (vw2 := fun _ => [(tx, ob 7 [.ref tl, .int (nI n), .ref tw, .ref tq, .int cl, .int (nI a), .int (nI b), .int x3]), (tl, aC E 160 F)]) (st2 := fun _ => [.int (boolI (saysP F a b 6))]) (fun _ => rfl) (fun _ => rfl) (fun _ => rfl) (fun _ _ => ?_)
              refine V.if_eq (tgt := 78) dX8_wordHere_72 (by decide) (fun c7_72 => ?_) (fun c7_72 => ?_)
              · skip
                have g6 : ¬ saysP F a b 6 := fun hh => absurd ((boolI_t hh).symm.trans c7_72) (by decide)
                refine V.aload_n dX8_wordHere_78 0 rfl ?_
                refine V.ldcS (i := 7) rfl rfl dX8_wordHere_79 ?_
                refine V.callVp (As := [.ref (eK E 7)]) (rest := []) [0, 1] (c_Text_says E l L _ tx tl tw tq n cl x3 F a b 7 (hab) (hb) (hn) (by omega)) rfl (by decide) mi_X8_says 0 rfl rfl w_308 w_309 w_310 rfl rfl (Nat.le_of_ble_eq_true rfl) ⟨by decide, by decide⟩ ⟨by decide, by decide⟩ dX8_wordHere_81 (vw2 := fun _ => [(tx, ob 7 [.ref tl, .int (nI n), .ref tw, .ref tq, .int cl, .int (nI a), .int (nI b), .int x3]), (tl, aC E 160 F)]) (st2 := fun _ => [.int (boolI (saysP F a b 7))]) (fun _ => rfl) (fun _ => rfl) (fun _ => rfl) (fun _ _ => ?_)
                refine V.if_eq (tgt := 90) dX8_wordHere_84 (by decide) (fun c8_84 => ?_) (fun c8_84 => ?_)
                · skip
                  have g7 : ¬ saysP F a b 7 := fun hh => absurd ((boolI_t hh).symm.trans c8_84) (by decide)
                  refine V.aload_n dX8_wordHere_90 0 rfl ?_
                  refine V.ldcS (i := 8) rfl rfl dX8_wordHere_91 ?_
                  refine V.callVp (As := [.ref (eK E 8)]) (rest := []) [0, 1] (c_Text_says E l L _ tx tl tw tq n cl x3 F a b 8 (hab) (hb) (hn) (by omega)) rfl (by decide) mi_X8_says 0 rfl rfl w_308 w_309 w_310 rfl rfl (Nat.le_of_ble_eq_true rfl) ⟨by decide, by decide⟩ ⟨by decide, by decide⟩ dX8_wordHere_93 (vw2 := fun _ => [(tx, ob 7 [.ref tl, .int (nI n), .ref tw, .ref tq, .int cl, .int (nI a), .int (nI b), .int x3]), (tl, aC E 160 F)]) (st2 := fun _ => [.int (boolI (saysP F a b 8))]) (fun _ => rfl) (fun _ => rfl) (fun _ => rfl) (fun _ _ => ?_)
                  refine V.if_eq (tgt := 102) dX8_wordHere_96 (by decide) (fun c9_96 => ?_) (fun c9_96 => ?_)
                  · skip
                    have g8 : ¬ saysP F a b 8 := fun hh => absurd ((boolI_t hh).symm.trans c9_96) (by decide)
                    refine V.iconst (v := (-1)) dX8_wordHere_102 (by decide) ?_
                    exact V.iret rfl dX8_wordHere_103 (⟨(), by unfold wordW; rw [cI_f g0, cI_f g1, cI_f g2, cI_f g3, cI_f g4, cI_f g5, cI_f g6, cI_f g7, cI_f g8], rfl, rfl, trivial⟩)
                  · skip
                    have g8 : saysP F a b 8 := Classical.byContradiction (fun hh => c9_96 (boolI_f hh))
                    refine V.bipush (v := 8) dX8_wordHere_99 (by decide) ?_
                    exact V.iret rfl dX8_wordHere_101 (⟨(), by unfold wordW; rw [cI_f g0, cI_f g1, cI_f g2, cI_f g3, cI_f g4, cI_f g5, cI_f g6, cI_f g7, cI_t g8], rfl, rfl, trivial⟩)
                · skip
                  have g7 : saysP F a b 7 := Classical.byContradiction (fun hh => c8_84 (boolI_f hh))
                  refine V.bipush (v := 7) dX8_wordHere_87 (by decide) ?_
                  exact V.iret rfl dX8_wordHere_89 (⟨(), by unfold wordW; rw [cI_f g0, cI_f g1, cI_f g2, cI_f g3, cI_f g4, cI_f g5, cI_f g6, cI_t g7], rfl, rfl, trivial⟩)
              · skip
                have g6 : saysP F a b 6 := Classical.byContradiction (fun hh => c7_72 (boolI_f hh))
                refine V.bipush (v := 6) dX8_wordHere_75 (by decide) ?_
                exact V.iret rfl dX8_wordHere_77 (⟨(), by unfold wordW; rw [cI_f g0, cI_f g1, cI_f g2, cI_f g3, cI_f g4, cI_f g5, cI_t g6], rfl, rfl, trivial⟩)
            · skip
              have g5 : saysP F a b 5 := Classical.byContradiction (fun hh => c6_61 (boolI_f hh))
              refine V.iconst (v := 5) dX8_wordHere_64 (by decide) ?_
              exact V.iret rfl dX8_wordHere_65 (⟨(), by unfold wordW; rw [cI_f g0, cI_f g1, cI_f g2, cI_f g3, cI_f g4, cI_t g5], rfl, rfl, trivial⟩)
          · skip
            have g4 : saysP F a b 4 := Classical.byContradiction (fun hh => c5_50 (boolI_f hh))
            refine V.iconst (v := 4) dX8_wordHere_53 (by decide) ?_
            exact V.iret rfl dX8_wordHere_54 (⟨(), by unfold wordW; rw [cI_f g0, cI_f g1, cI_f g2, cI_f g3, cI_t g4], rfl, rfl, trivial⟩)
        · skip
          have g3 : saysP F a b 3 := Classical.byContradiction (fun hh => c4_39 (boolI_f hh))
          refine V.iconst (v := 3) dX8_wordHere_42 (by decide) ?_
          exact V.iret rfl dX8_wordHere_43 (⟨(), by unfold wordW; rw [cI_f g0, cI_f g1, cI_f g2, cI_t g3], rfl, rfl, trivial⟩)
      · skip
        have g2 : saysP F a b 2 := Classical.byContradiction (fun hh => c3_28 (boolI_f hh))
        refine V.iconst (v := 2) dX8_wordHere_31 (by decide) ?_
        exact V.iret rfl dX8_wordHere_32 (⟨(), by unfold wordW; rw [cI_f g0, cI_f g1, cI_t g2], rfl, rfl, trivial⟩)
    · skip
      have g1 : saysP F a b 1 := Classical.byContradiction (fun hh => c2_17 (boolI_f hh))
      refine V.iconst (v := 1) dX8_wordHere_20 (by decide) ?_
      exact V.iret rfl dX8_wordHere_21 (⟨(), by unfold wordW; rw [cI_f g0, cI_t g1], rfl, rfl, trivial⟩)
  · skip
    have g0 : saysP F a b 0 := Classical.byContradiction (fun hh => c1_6 (boolI_f hh))
    refine V.iconst (v := 0) dX8_wordHere_9 (by decide) ?_
    exact V.iret rfl dX8_wordHere_10 (⟨(), by unfold wordW; rw [cI_t g0], rfl, rfl, trivial⟩)

set_option maxHeartbeats 4000000 in
set_option maxRecDepth 100000 in
theorem c_Text_numberHere (E : vEnv) (l : Launch) (L : List Nat) (h : Nat → va_E) (tx : Nat) (tl : Nat) (tw : Nat) (tq : Nat) (n : Nat) (cl : Int32) (x3 : Int32) (F : Nat → Int32) (a : Nat) (b : Nat) (hab : a ≤ b) (hb : b ≤ n) (hn : n ≤ 160) : CT E l yX8_numberHere cX8_numberHere 3 (some (.int)) 2 0 0 L h [(tx, ob 7 [.ref tl, .int (nI n), .ref tw, .ref tq, .int cl, .int (nI a), .int (nI b), .int x3]), (tl, aC E 160 F)] [.ref tx] (qP L h (fun (_ : Unit) => [(tx, ob 7 [.ref tl, .int (nI n), .ref tw, .ref tq, .int cl, .int (nI a), .int (nI b), .int x3]), (tl, aC E 160 F)]) (fun _ => some (.int (numW F a b))) (fun _ => True)) := by
  refine CT.ofV (by decide +kernel) (Nat.le_of_ble_eq_true rfl) ?_
  obtain ⟨Z, hZ⟩ : ∃ Z, Z = mZ E (qP L h (fun (_ : Unit) => [(tx, ob 7 [.ref tl, .int (nI n), .ref tw, .ref tq, .int cl, .int (nI a), .int (nI b), .int x3]), (tl, aC E 160 F)]) (fun _ => some (.int (numW F a b))) (fun _ => True)) 0 0 := ⟨_, rfl⟩
  rw [← hZ]
  refine V.locals2 (lv2 := [(0, .ref tx)]) rfl ?_
  refine V.aload_n dX8_numberHere_0 0 rfl ?_
  refine V.getf 0 6 rfl fa_X8_32_7 rfl dX8_numberHere_1 ?_
  refine V.aload_n dX8_numberHere_4 0 rfl ?_
  refine V.getf 0 5 rfl fa_X8_39_7 rfl dX8_numberHere_5 ?_
  refine V.isub dX8_numberHere_8 ?_
  refine V.iconst (v := 1) dX8_numberHere_9 (by decide) ?_
  refine V.iconst (v := 2) dX8_numberHere_10 (by decide) ?_
  refine V.callSNp (host := "RoseLane") (As := [.int ((nI b) - (nI a)), .int 1, .int 2]) (rest := []) [] (c_within E l L _ (((nI b) - (nI a))) 1 2) rfl (by decide) mi_X10_isWithin (by decide) w_268 rfl rfl (Nat.le_of_ble_eq_true rfl) ⟨by decide, by decide⟩ ⟨by decide, by decide⟩ dX8_numberHere_11 (vw2 := fun _ => [(tx, ob 7 [.ref tl, .int (nI n), .ref tw, .ref tq, .int cl, .int (nI a), .int (nI b), .int x3]), (tl, aC E 160 F)]) (st2 := fun _ => [.int (withinI ((nI b) - (nI a)) 1 2)]) (fun _ => rfl) (fun _ => rfl) (fun _ => rfl) (fun _ _ => ?_)
  refine V.if_ne (tgt := 19) dX8_numberHere_14 (by decide) (fun c1_14 => ?_) (fun c1_14 => ?_)
  · skip
    have g14 : withinI (nI b - nI a) 1 2 = 1 := (withinI_01 _ _ _).resolve_left c1_14
    refine V.iconst (v := 0) dX8_numberHere_19 (by decide) ?_
    refine V.istore_n (lv2 := [(1, .int 0), (0, .ref tx)]) dX8_numberHere_20 rfl (by decide) rfl ?_
    refine V.aload_n dX8_numberHere_21 1 rfl ?_
    refine V.getf 0 5 rfl fa_X8_39_7 rfl dX8_numberHere_22 ?_
    refine V.istore_n (lv2 := [(2, .int (nI a)), (1, .int 0), (0, .ref tx)]) dX8_numberHere_25 rfl (by decide) rfl ?_
    refine V.locals [2, 1, 0] (by rfl) ?_
    have lp_26 : ∀ (fuel : Nat) (i : Nat) (acc : Int32) (hi : i ≤ b) (hinv : numG F (b - i) i acc = numG F (b - a) a 0) (hf : b < i + fuel), V E l yX8_numberHere cX8_numberHere 3 (some (.int)) (rmk 2 0 0) Z L h 0 0 [(tx, ob 7 [.ref tl, .int (nI n), .ref tw, .ref tq, .int cl, .int (nI a), .int (nI b), .int x3]), (tl, aC E 160 F)] 26 [(0, .ref tx), (1, .int acc), (2, .int (nI i))] [] := by
      intro fuel
      induction fuel with
      | zero =>
        intro i acc hi hinv hf
        exfalso; omega
      | succ fuel ih_26 =>
        intro i acc hi hinv hf
        refine V.iload_n dX8_numberHere_26 2 rfl ?_
        refine V.aload_n dX8_numberHere_27 0 rfl ?_
        refine V.getf 0 6 rfl fa_X8_32_7 rfl dX8_numberHere_28 ?_
        refine V.icmp_ge (tgt := 69) dX8_numberHere_31 (by decide) (fun c2_31 => ?_) (fun c2_31 => ?_)
        · skip
          have hc2_31 : b ≤ i := (nI_leI (by omega) (by omega)).mp c2_31
          refine V.iload_n dX8_numberHere_69 1 rfl ?_
          subst hZ
          exact V.iret rfl dX8_numberHere_70 (⟨(), by rw [numW, if_pos g14, ← hinv, show b - i = 0 by omega]; rfl, rfl, rfl, trivial⟩)
        · skip
          have hc2_31 : i < b := Nat.lt_of_not_le (fun hh => c2_31 (nI_le hh (by omega)))
          refine V.aload_n dX8_numberHere_34 0 rfl ?_
          refine V.getf 0 0 rfl fa_X8_9_7 rfl dX8_numberHere_35 ?_
          refine V.iload_n dX8_numberHere_38 2 rfl ?_
          refine V.cald 1 rfl (vinI (by omega)) dX8_numberHere_39 ?_
          refine V.topc (v := (F i)) (by rw [nI_clamp (by omega)]) ?_
          refine V.callSp (As := [.int (F i)]) (rest := []) [] (c_Text_isDigit E l L _ ((F i))) rfl (by decide) mi_X8_isDigit w_300 w_301 rfl rfl (Nat.le_of_ble_eq_true rfl) ⟨by decide, by decide⟩ ⟨by decide, by decide⟩ dX8_numberHere_40 (vw2 := fun _ => [(tx, ob 7 [.ref tl, .int (nI n), .ref tw, .ref tq, .int cl, .int (nI a), .int (nI b), .int x3]), (tl, aC E 160 F)]) (st2 := fun _ => [.int (withinI (F i) 48 57)]) (fun _ => rfl) (fun _ => rfl) (fun _ => rfl) (fun _ _ => ?_)
          refine V.if_ne (tgt := 48) dX8_numberHere_43 (by decide) (fun c3_43 => ?_) (fun c3_43 => ?_)
          · skip
            have g43 : withinI (F i) 48 57 = 1 := (withinI_01 _ _ _).resolve_left c3_43
            refine V.bipush (v := 10) dX8_numberHere_48 (by decide) ?_
            refine V.iload_n dX8_numberHere_50 1 rfl ?_
            refine V.imul dX8_numberHere_51 ?_
            refine V.aload_n dX8_numberHere_52 0 rfl ?_
            refine V.getf 0 0 rfl fa_X8_9_7 rfl dX8_numberHere_53 ?_
            refine V.iload_n dX8_numberHere_56 2 rfl ?_
            refine V.cald 1 rfl (vinI (by omega)) dX8_numberHere_57 ?_
            refine V.topc (v := (F i)) (by rw [nI_clamp (by omega)]) ?_
            refine V.iadd dX8_numberHere_58 ?_
            refine V.bipush (v := 48) dX8_numberHere_59 (by decide) ?_
            refine V.isub dX8_numberHere_61 ?_
            refine V.istore_n (lv2 := [(1, .int (((10 * acc) + (F i)) - 48)), (0, .ref tx), (2, .int (nI i))]) dX8_numberHere_62 rfl (by decide) rfl ?_
            refine V.iinc (v := (nI (i + 1))) (lv2 := [(2, .int (nI (i + 1))), (1, .int (((10 * acc) + (F i)) - 48)), (0, .ref tx)]) dX8_numberHere_63 2 rfl (nI_1 _) (by decide) rfl ?_
            refine V.goto (tgt := 26) dX8_numberHere_66 (by decide) ?_
            refine V.locals [2, 1, 0] (by rfl) ?_
            exact ih_26 (i + 1) _ (by omega) (by rw [← hinv, show b - i = (b - (i + 1)) + 1 by omega, numG, if_pos g43]) (by omega)
          · skip
            have g43 : withinI (F i) 48 57 = 0 := c3_43
            refine V.iconst (v := (-1)) dX8_numberHere_46 (by decide) ?_
            subst hZ
            exact V.iret rfl dX8_numberHere_47 (⟨(), by rw [numW, if_pos g14, ← hinv, show b - i = (b - (i + 1)) + 1 by omega, numG, if_neg (by rw [g43]; decide)], rfl, rfl, trivial⟩)
    exact lp_26 (b + 1) a 0 hab rfl (by omega)
  · skip
    have g14 : withinI (nI b - nI a) 1 2 = 0 := c1_14
    refine V.iconst (v := (-1)) dX8_numberHere_17 (by decide) ?_
    subst hZ
    exact V.iret rfl dX8_numberHere_18 (⟨(), by rw [numW, if_neg (by rw [g14]; decide)], rfl, rfl, trivial⟩)

set_option maxHeartbeats 4000000 in
set_option maxRecDepth 100000 in
theorem c_Text_hasRoom (E : vEnv) (l : Launch) (L : List Nat) (h : Nat → va_E) (tx : Nat) (tl : Nat) (tw : Nat) (tq : Nat) (n : Nat) (cl : Int32) (x1 : Int32) (x2 : Int32) (sh : Nat) (wd : Nat) (hw : wd < 9) (hs : sh ≤ 6) : CT E l yX8_hasRoom cX8_hasRoom 2 (some (.boolean)) 1 0 0 L h [(tx, ob 7 [.ref tl, .int (nI n), .ref tw, .ref tq, .int cl, .int x1, .int x2, .int (nI sh)])] [.ref tx, .int (nI wd)] (qP L h (fun (_ : Unit) => [(tx, ob 7 [.ref tl, .int (nI n), .ref tw, .ref tq, .int cl, .int x1, .int x2, .int (nI (roomS wd sh))])]) (fun _ => some (.int (boolI (roomS wd sh ≤ 6)))) (fun _ => True)) := by
  refine CT.ofV (by decide +kernel) (Nat.le_of_ble_eq_true rfl) ?_
  refine V.locals2 (lv2 := [(0, .ref tx), (1, .int (nI wd))]) rfl ?_
  refine V.iload_n dX8_hasRoom_0 1 rfl ?_
  refine V.if_eq (tgt := 10) dX8_hasRoom_1 (by decide) (fun c1_1 => ?_) (fun c1_1 => ?_)
  · skip
    have hw0 : wd = 0 := (nI_eq (b := 0) (by omega) (by omega)).mp c1_1
    subst hw0
    refine V.aload_n dX8_hasRoom_10 0 rfl ?_
    refine V.iconst (v := 0) dX8_hasRoom_11 (by decide) ?_
    refine V.putf 0 7 (vw2 := [(tx, ob 7 [.ref tl, .int (nI n), .ref tw, .ref tq, .int cl, .int x1, .int x2, .int 0])]) rfl fp_X8_26_7 rfl rfl (Nat.le_of_ble_eq_true rfl) rfl dX8_hasRoom_12 ?_
    refine V.iload_n dX8_hasRoom_15 1 rfl ?_
    refine V.iconst (v := 2) dX8_hasRoom_16 (by decide) ?_
    refine V.iconst (v := 5) dX8_hasRoom_17 (by decide) ?_
    refine V.callSNp (host := "RoseLane") (As := [.int (nI 0), .int 2, .int 5]) (rest := []) [] (c_within E l L _ ((nI 0)) 2 5) rfl (by decide) mi_X10_isWithin (by decide) w_268 rfl rfl (Nat.le_of_ble_eq_true rfl) ⟨by decide, by decide⟩ ⟨by decide, by decide⟩ dX8_hasRoom_18 (vw2 := fun _ => [(tx, ob 7 [.ref tl, .int (nI n), .ref tw, .ref tq, .int cl, .int x1, .int x2, .int 0])]) (st2 := fun _ => [.int (withinI (nI 0) 2 5)]) (fun _ => rfl) (fun _ => rfl) (fun _ => rfl) (fun _ _ => ?_)
    refine V.topc (v := 0) (by decide +kernel) ?_
    refine V.if_eq (tgt := 34) dX8_hasRoom_21 (by decide) (fun _ => ?_) (fun hc => absurd (by decide) hc)
    refine V.aload_n dX8_hasRoom_34 0 rfl ?_
    refine V.getf 0 7 rfl fa_X8_26_7 rfl dX8_hasRoom_35 ?_
    refine V.bipush (v := 6) dX8_hasRoom_38 (by decide) ?_
    refine V.icmp_gt (tgt := 47) dX8_hasRoom_40 (by decide) (fun hc => absurd hc (by decide)) (fun _ => ?_)
    refine V.iconst (v := 1) dX8_hasRoom_43 (by decide) ?_
    refine V.goto (tgt := 48) dX8_hasRoom_44 (by decide) ?_
    exact V.zret rfl (rfl) dX8_hasRoom_48 (⟨(), by rw [boolI_t (show roomS _ sh ≤ 6 from Nat.zero_le _)], rfl, rfl, trivial⟩)
  · skip
    have hw0 : wd ≠ 0 := fun hh => c1_1 (by rw [hh]; rfl)
    refine V.iload_n dX8_hasRoom_4 1 rfl ?_
    refine V.bipush (v := 8) dX8_hasRoom_5 (by decide) ?_
    refine V.icmp_ne (tgt := 15) dX8_hasRoom_7 (by decide) (fun c2_7 => ?_) (fun c2_7 => ?_)
    · skip
      have hw8 : wd ≠ 8 := fun hh => c2_7 (by rw [hh]; rfl)
      refine V.iload_n dX8_hasRoom_15 1 rfl ?_
      refine V.iconst (v := 2) dX8_hasRoom_16 (by decide) ?_
      refine V.iconst (v := 5) dX8_hasRoom_17 (by decide) ?_
      refine V.callSNp (host := "RoseLane") (As := [.int (nI wd), .int 2, .int 5]) (rest := []) [] (c_within E l L _ ((nI wd)) 2 5) rfl (by decide) mi_X10_isWithin (by decide) w_268 rfl rfl (Nat.le_of_ble_eq_true rfl) ⟨by decide, by decide⟩ ⟨by decide, by decide⟩ dX8_hasRoom_18 (vw2 := fun _ => [(tx, ob 7 [.ref tl, .int (nI n), .ref tw, .ref tq, .int cl, .int x1, .int x2, .int (nI sh)])]) (st2 := fun _ => [.int (withinI (nI wd) 2 5)]) (fun _ => rfl) (fun _ => rfl) (fun _ => rfl) (fun _ _ => ?_)
      refine V.topc (v := (withinI (nI wd) 2 5)) (rfl) ?_
      refine V.if_eq (tgt := 34) dX8_hasRoom_21 (by decide) (fun c3_21 => ?_) (fun c3_21 => ?_)
      · skip
        have h25 : ¬ (2 ≤ wd ∧ wd ≤ 5) := fun hh => by have h9 := c3_21; rw [within25 wd hw, if_pos hh] at h9; exact absurd h9 (by decide)
        have hr : roomS wd sh = sh := by rw [roomS, if_neg (by omega), if_neg h25]
        refine V.aload_n dX8_hasRoom_34 0 rfl ?_
        refine V.getf 0 7 rfl fa_X8_26_7 rfl dX8_hasRoom_35 ?_
        refine V.bipush (v := 6) dX8_hasRoom_38 (by decide) ?_
        refine V.icmp_gt (tgt := 47) dX8_hasRoom_40 (by decide) (fun c4_40 => ?_) (fun c4_40 => ?_)
        · skip
          have c40 := c4_40
          refine V.iconst (v := 0) dX8_hasRoom_47 (by decide) ?_
          exact V.zret rfl (rfl) dX8_hasRoom_48 (⟨(), by rw [boolI_f (by rw [hr]; exact Nat.not_le.mpr ((nI_ltI (a := 6) (by omega) (by omega)).mp c40))], rfl, by rw [hr], trivial⟩)
        · skip
          have c40 := c4_40
          refine V.iconst (v := 1) dX8_hasRoom_43 (by decide) ?_
          refine V.goto (tgt := 48) dX8_hasRoom_44 (by decide) ?_
          exact V.zret rfl (rfl) dX8_hasRoom_48 (⟨(), by rw [boolI_t (by rw [hr]; exact Nat.le_of_not_lt (fun hh => c40 (nI_lt (a := 6) hh (by omega))))], rfl, by rw [hr], trivial⟩)
      · skip
        have h25 : 2 ≤ wd ∧ wd ≤ 5 := Classical.byContradiction (fun hh => c3_21 (by rw [within25 wd hw, if_neg hh]))
        have hr : roomS wd sh = sh + 1 := by rw [roomS, if_neg (by omega), if_pos h25]
        refine V.aload_n dX8_hasRoom_24 0 rfl ?_
        refine V.dup dX8_hasRoom_25 rfl ?_
        refine V.getf 0 7 rfl fa_X8_26_7 rfl dX8_hasRoom_26 ?_
        refine V.iconst (v := 1) dX8_hasRoom_29 (by decide) ?_
        refine V.iadd dX8_hasRoom_30 ?_
        refine V.topc (v := (nI (sh + 1))) (nI_1 sh) ?_
        refine V.putf 0 7 (vw2 := [(tx, ob 7 [.ref tl, .int (nI n), .ref tw, .ref tq, .int cl, .int x1, .int x2, .int (nI (sh + 1))])]) rfl fp_X8_26_7 rfl rfl (Nat.le_of_ble_eq_true rfl) rfl dX8_hasRoom_31 ?_
        refine V.aload_n dX8_hasRoom_34 0 rfl ?_
        refine V.getf 0 7 rfl fa_X8_26_7 rfl dX8_hasRoom_35 ?_
        refine V.bipush (v := 6) dX8_hasRoom_38 (by decide) ?_
        refine V.icmp_gt (tgt := 47) dX8_hasRoom_40 (by decide) (fun c5_40 => ?_) (fun c5_40 => ?_)
        · skip
          have c40 := c5_40
          refine V.iconst (v := 0) dX8_hasRoom_47 (by decide) ?_
          exact V.zret rfl (rfl) dX8_hasRoom_48 (⟨(), by rw [boolI_f (by rw [hr]; exact Nat.not_le.mpr ((nI_ltI (a := 6) (by omega) (by omega)).mp c40))], rfl, by rw [hr], trivial⟩)
        · skip
          have c40 := c5_40
          refine V.iconst (v := 1) dX8_hasRoom_43 (by decide) ?_
          refine V.goto (tgt := 48) dX8_hasRoom_44 (by decide) ?_
          exact V.zret rfl (rfl) dX8_hasRoom_48 (⟨(), by rw [boolI_t (by rw [hr]; exact Nat.le_of_not_lt (fun hh => c40 (nI_lt (a := 6) hh (by omega))))], rfl, by rw [hr], trivial⟩)
    · skip
      have hw8 : wd = 8 := (nI_eq (b := 8) (by omega) (by omega)).mp c2_7
      subst hw8
      refine V.aload_n dX8_hasRoom_10 0 rfl ?_
      refine V.iconst (v := 0) dX8_hasRoom_11 (by decide) ?_
      refine V.putf 0 7 (vw2 := [(tx, ob 7 [.ref tl, .int (nI n), .ref tw, .ref tq, .int cl, .int x1, .int x2, .int 0])]) rfl fp_X8_26_7 rfl rfl (Nat.le_of_ble_eq_true rfl) rfl dX8_hasRoom_12 ?_
      refine V.iload_n dX8_hasRoom_15 1 rfl ?_
      refine V.iconst (v := 2) dX8_hasRoom_16 (by decide) ?_
      refine V.iconst (v := 5) dX8_hasRoom_17 (by decide) ?_
      refine V.callSNp (host := "RoseLane") (As := [.int (nI 8), .int 2, .int 5]) (rest := []) [] (c_within E l L _ ((nI 8)) 2 5) rfl (by decide) mi_X10_isWithin (by decide) w_268 rfl rfl (Nat.le_of_ble_eq_true rfl) ⟨by decide, by decide⟩ ⟨by decide, by decide⟩ dX8_hasRoom_18 (vw2 := fun _ => [(tx, ob 7 [.ref tl, .int (nI n), .ref tw, .ref tq, .int cl, .int x1, .int x2, .int 0])]) (st2 := fun _ => [.int (withinI (nI 8) 2 5)]) (fun _ => rfl) (fun _ => rfl) (fun _ => rfl) (fun _ _ => ?_)
      refine V.topc (v := 0) (by decide +kernel) ?_
      refine V.if_eq (tgt := 34) dX8_hasRoom_21 (by decide) (fun _ => ?_) (fun hc => absurd (by decide) hc)
      refine V.aload_n dX8_hasRoom_34 0 rfl ?_
      refine V.getf 0 7 rfl fa_X8_26_7 rfl dX8_hasRoom_35 ?_
      refine V.bipush (v := 6) dX8_hasRoom_38 (by decide) ?_
      refine V.icmp_gt (tgt := 47) dX8_hasRoom_40 (by decide) (fun hc => absurd hc (by decide)) (fun _ => ?_)
      refine V.iconst (v := 1) dX8_hasRoom_43 (by decide) ?_
      refine V.goto (tgt := 48) dX8_hasRoom_44 (by decide) ?_
      exact V.zret rfl (rfl) dX8_hasRoom_48 (⟨(), by rw [boolI_t (show roomS _ sh ≤ 6 from Nat.zero_le _)], rfl, rfl, trivial⟩)
