set_option maxHeartbeats 4000000 in
set_option maxRecDepth 100000 in
theorem c_Text_isSmall (E : vEnv) (l : Launch) (L : List Nat) (h : Nat → va_E) (x : Int32) : CT E l yX8_isSmall cX8_isSmall 1 (some (.boolean)) 0 0 0 L h [] [.int x] (qP L h (fun (_ : Unit) => []) (fun _ => some (.int (withinI x 97 122))) (fun _ => True)) := by
  refine CT.ofV (by decide +kernel) (Nat.le_of_ble_eq_true rfl) ?_
  refine V.locals2 (lv2 := [(0, .int x)]) rfl ?_
  refine V.bipush (v := 97) dX8_isSmall_0 (by decide) ?_
  refine V.iload_n dX8_isSmall_2 0 rfl ?_
  refine V.icmp_gt (tgt := 16) dX8_isSmall_3 (by decide) (fun c1_3 => ?_) (fun c1_3 => ?_)
  · skip
    refine V.iconst (v := 0) dX8_isSmall_16 (by decide) ?_
    exact V.zret rfl (rfl) dX8_isSmall_17 (⟨(), by first | rw [within1 (by assumption) (by assumption)] | rw [within0a (by assumption)] | rw [within0b (by assumption)], rfl, rfl, trivial⟩)
  · skip
    refine V.iload_n dX8_isSmall_6 0 rfl ?_
    refine V.bipush (v := 122) dX8_isSmall_7 (by decide) ?_
    refine V.icmp_gt (tgt := 16) dX8_isSmall_9 (by decide) (fun c2_9 => ?_) (fun c2_9 => ?_)
    · skip
      refine V.iconst (v := 0) dX8_isSmall_16 (by decide) ?_
      exact V.zret rfl (rfl) dX8_isSmall_17 (⟨(), by first | rw [within1 (by assumption) (by assumption)] | rw [within0a (by assumption)] | rw [within0b (by assumption)], rfl, rfl, trivial⟩)
    · skip
      refine V.iconst (v := 1) dX8_isSmall_12 (by decide) ?_
      refine V.goto (tgt := 17) dX8_isSmall_13 (by decide) ?_
      exact V.zret rfl (rfl) dX8_isSmall_17 (⟨(), by first | rw [within1 (by assumption) (by assumption)] | rw [within0a (by assumption)] | rw [within0b (by assumption)], rfl, rfl, trivial⟩)

set_option maxHeartbeats 4000000 in
set_option maxRecDepth 100000 in
theorem c_Text_isDigit (E : vEnv) (l : Launch) (L : List Nat) (h : Nat → va_E) (x : Int32) : CT E l yX8_isDigit cX8_isDigit 1 (some (.boolean)) 0 0 0 L h [] [.int x] (qP L h (fun (_ : Unit) => []) (fun _ => some (.int (withinI x 48 57))) (fun _ => True)) := by
  refine CT.ofV (by decide +kernel) (Nat.le_of_ble_eq_true rfl) ?_
  refine V.locals2 (lv2 := [(0, .int x)]) rfl ?_
  refine V.bipush (v := 48) dX8_isDigit_0 (by decide) ?_
  refine V.iload_n dX8_isDigit_2 0 rfl ?_
  refine V.icmp_gt (tgt := 16) dX8_isDigit_3 (by decide) (fun c1_3 => ?_) (fun c1_3 => ?_)
  · skip
    refine V.iconst (v := 0) dX8_isDigit_16 (by decide) ?_
    exact V.zret rfl (rfl) dX8_isDigit_17 (⟨(), by first | rw [within1 (by assumption) (by assumption)] | rw [within0a (by assumption)] | rw [within0b (by assumption)], rfl, rfl, trivial⟩)
  · skip
    refine V.iload_n dX8_isDigit_6 0 rfl ?_
    refine V.bipush (v := 57) dX8_isDigit_7 (by decide) ?_
    refine V.icmp_gt (tgt := 16) dX8_isDigit_9 (by decide) (fun c2_9 => ?_) (fun c2_9 => ?_)
    · skip
      refine V.iconst (v := 0) dX8_isDigit_16 (by decide) ?_
      exact V.zret rfl (rfl) dX8_isDigit_17 (⟨(), by first | rw [within1 (by assumption) (by assumption)] | rw [within0a (by assumption)] | rw [within0b (by assumption)], rfl, rfl, trivial⟩)
    · skip
      refine V.iconst (v := 1) dX8_isDigit_12 (by decide) ?_
      refine V.goto (tgt := 17) dX8_isDigit_13 (by decide) ?_
      exact V.zret rfl (rfl) dX8_isDigit_17 (⟨(), by first | rw [within1 (by assumption) (by assumption)] | rw [within0a (by assumption)] | rw [within0b (by assumption)], rfl, rfl, trivial⟩)

set_option maxHeartbeats 4000000 in
set_option maxRecDepth 100000 in
theorem c_Text_isOneRow (E : vEnv) (l : Launch) (L : List Nat) (h : Nat → va_E) (x : Int32) (z : Int32) : CT E l yX8_isOneRow cX8_isOneRow 2 (some (.boolean)) 1 0 0 L h [] [.int x, .int z] (qP L h (fun (_ : Unit) => []) (fun _ => some (.int (rowB x z))) (fun _ => True)) := by
  refine CT.ofV (by decide +kernel) (Nat.le_of_ble_eq_true rfl) ?_
  refine V.locals2 (lv2 := [(0, .int x), (1, .int z)]) rfl ?_
  refine V.iload_n dX8_isOneRow_0 0 rfl ?_
  refine V.callSp (As := [.int x]) (rest := []) [] (c_Text_isSmall E l L _ x) rfl (by decide) mi_X8_isSmall w_297 w_298 rfl rfl (Nat.le_of_ble_eq_true rfl) ⟨by decide, by decide⟩ ⟨by decide, by decide⟩ dX8_isOneRow_1 (vw2 := fun _ => []) (st2 := fun _ => [.int (withinI x 97 122)]) (fun _ => rfl) (fun _ => rfl) (fun _ => rfl) (fun _ _ => ?_)
  refine V.if_eq (tgt := 14) dX8_isOneRow_4 (by decide) (fun c1_4 => ?_) (fun c1_4 => ?_)
  · skip
    have g4 : withinI x 97 122 = 0 := c1_4
    refine V.iload_n dX8_isOneRow_14 0 rfl ?_
    refine V.callSp (As := [.int x]) (rest := []) [] (c_Text_isDigit E l L _ x) rfl (by decide) mi_X8_isDigit w_300 w_301 rfl rfl (Nat.le_of_ble_eq_true rfl) ⟨by decide, by decide⟩ ⟨by decide, by decide⟩ dX8_isOneRow_15 (vw2 := fun _ => []) (st2 := fun _ => [.int (withinI x 48 57)]) (fun _ => rfl) (fun _ => rfl) (fun _ => rfl) (fun _ _ => ?_)
    refine V.if_eq (tgt := 32) dX8_isOneRow_18 (by decide) (fun c2_18 => ?_) (fun c2_18 => ?_)
    · skip
      have g18 : withinI x 48 57 = 0 := c2_18
      refine V.iconst (v := 0) dX8_isOneRow_32 (by decide) ?_
      exact V.zret rfl (rfl) dX8_isOneRow_33 (⟨(), by simp [rowB, *], rfl, rfl, trivial⟩)
    · skip
      have g18 : withinI x 48 57 = 1 := (withinI_01 _ _ _).resolve_left c2_18
      refine V.iload_n dX8_isOneRow_21 1 rfl ?_
      refine V.callSp (As := [.int z]) (rest := []) [] (c_Text_isDigit E l L _ z) rfl (by decide) mi_X8_isDigit w_300 w_301 rfl rfl (Nat.le_of_ble_eq_true rfl) ⟨by decide, by decide⟩ ⟨by decide, by decide⟩ dX8_isOneRow_22 (vw2 := fun _ => []) (st2 := fun _ => [.int (withinI z 48 57)]) (fun _ => rfl) (fun _ => rfl) (fun _ => rfl) (fun _ _ => ?_)
      refine V.if_eq (tgt := 32) dX8_isOneRow_25 (by decide) (fun c3_25 => ?_) (fun c3_25 => ?_)
      · skip
        have g25 : withinI z 48 57 = 0 := c3_25
        refine V.iconst (v := 0) dX8_isOneRow_32 (by decide) ?_
        exact V.zret rfl (rfl) dX8_isOneRow_33 (⟨(), by simp [rowB, *], rfl, rfl, trivial⟩)
      · skip
        have g25 : withinI z 48 57 = 1 := (withinI_01 _ _ _).resolve_left c3_25
        refine V.iconst (v := 1) dX8_isOneRow_28 (by decide) ?_
        refine V.goto (tgt := 33) dX8_isOneRow_29 (by decide) ?_
        exact V.zret rfl (rfl) dX8_isOneRow_33 (⟨(), by simp [rowB, *], rfl, rfl, trivial⟩)
  · skip
    have g4 : withinI x 97 122 = 1 := (withinI_01 _ _ _).resolve_left c1_4
    refine V.iload_n dX8_isOneRow_7 1 rfl ?_
    refine V.callSp (As := [.int z]) (rest := []) [] (c_Text_isSmall E l L _ z) rfl (by decide) mi_X8_isSmall w_297 w_298 rfl rfl (Nat.le_of_ble_eq_true rfl) ⟨by decide, by decide⟩ ⟨by decide, by decide⟩ dX8_isOneRow_8 (vw2 := fun _ => []) (st2 := fun _ => [.int (withinI z 97 122)]) (fun _ => rfl) (fun _ => rfl) (fun _ => rfl) (fun _ _ => ?_)
    refine V.if_ne (tgt := 28) dX8_isOneRow_11 (by decide) (fun c4_11 => ?_) (fun c4_11 => ?_)
    · skip
      have g11 : withinI z 97 122 = 1 := (withinI_01 _ _ _).resolve_left c4_11
      refine V.iconst (v := 1) dX8_isOneRow_28 (by decide) ?_
      refine V.goto (tgt := 33) dX8_isOneRow_29 (by decide) ?_
      exact V.zret rfl (rfl) dX8_isOneRow_33 (⟨(), by simp [rowB, *], rfl, rfl, trivial⟩)
    · skip
      have g11 : withinI z 97 122 = 0 := c4_11
      refine V.iload_n dX8_isOneRow_14 0 rfl ?_
      refine V.callSp (As := [.int x]) (rest := []) [] (c_Text_isDigit E l L _ x) rfl (by decide) mi_X8_isDigit w_300 w_301 rfl rfl (Nat.le_of_ble_eq_true rfl) ⟨by decide, by decide⟩ ⟨by decide, by decide⟩ dX8_isOneRow_15 (vw2 := fun _ => []) (st2 := fun _ => [.int (withinI x 48 57)]) (fun _ => rfl) (fun _ => rfl) (fun _ => rfl) (fun _ _ => ?_)
      refine V.if_eq (tgt := 32) dX8_isOneRow_18 (by decide) (fun c5_18 => ?_) (fun c5_18 => ?_)
      · skip
        have g18 : withinI x 48 57 = 0 := c5_18
        refine V.iconst (v := 0) dX8_isOneRow_32 (by decide) ?_
        exact V.zret rfl (rfl) dX8_isOneRow_33 (⟨(), by simp [rowB, *], rfl, rfl, trivial⟩)
      · skip
        have g18 : withinI x 48 57 = 1 := (withinI_01 _ _ _).resolve_left c5_18
        refine V.iload_n dX8_isOneRow_21 1 rfl ?_
        refine V.callSp (As := [.int z]) (rest := []) [] (c_Text_isDigit E l L _ z) rfl (by decide) mi_X8_isDigit w_300 w_301 rfl rfl (Nat.le_of_ble_eq_true rfl) ⟨by decide, by decide⟩ ⟨by decide, by decide⟩ dX8_isOneRow_22 (vw2 := fun _ => []) (st2 := fun _ => [.int (withinI z 48 57)]) (fun _ => rfl) (fun _ => rfl) (fun _ => rfl) (fun _ _ => ?_)
        refine V.if_eq (tgt := 32) dX8_isOneRow_25 (by decide) (fun c6_25 => ?_) (fun c6_25 => ?_)
        · skip
          have g25 : withinI z 48 57 = 0 := c6_25
          refine V.iconst (v := 0) dX8_isOneRow_32 (by decide) ?_
          exact V.zret rfl (rfl) dX8_isOneRow_33 (⟨(), by simp [rowB, *], rfl, rfl, trivial⟩)
        · skip
          have g25 : withinI z 48 57 = 1 := (withinI_01 _ _ _).resolve_left c6_25
          refine V.iconst (v := 1) dX8_isOneRow_28 (by decide) ?_
          refine V.goto (tgt := 33) dX8_isOneRow_29 (by decide) ?_
          exact V.zret rfl (rfl) dX8_isOneRow_33 (⟨(), by simp [rowB, *], rfl, rfl, trivial⟩)

set_option maxHeartbeats 4000000 in
set_option maxRecDepth 100000 in
theorem c_Text_add (E : vEnv) (l : Launch) (L : List Nat) (h : Nat → va_E) (tx : Nat) (tl : Nat) (tw : Nat) (tq : Nat) (n : Nat) (cl : Int32) (x1 : Int32) (x2 : Int32) (x3 : Int32) (F : Nat → Int32) (k : Int32) (hn : n < 160) (hk : vp_nar .char k = k) : CT E l yX8_add cX8_add 2 (some (.boolean)) 0 0 0 L h [(tx, ob 7 [.ref tl, .int (nI n), .ref tw, .ref tq, .int cl, .int x1, .int x2, .int x3]), (tl, aC E 160 F)] [.ref tx, .int k] (qP L h (fun (_ : Unit) => [(tx, ob 7 [.ref tl, .int (nI (n + 1)), .ref tw, .ref tq, .int cl, .int x1, .int x2, .int x3]), (tl, aC E 160 (upd F n k))]) (fun _ => some (.int 1)) (fun _ => True)) := by
  refine CT.ofV (by decide +kernel) (Nat.le_of_ble_eq_true rfl) ?_
  refine V.locals2 (lv2 := [(0, .ref tx), (1, .int k)]) rfl ?_
  refine V.aload_n dX8_add_0 0 rfl ?_
  refine V.getf 0 1 rfl fa_X8_22_7 rfl dX8_add_1 ?_
  refine V.sipush (v := 160) dX8_add_4 (by decide) ?_
  refine V.icmp_lt (tgt := 12) dX8_add_7 (by decide) (fun _ => ?_) (fun hc => absurd (show nI n < nI 160 from nI_lt hn (by omega)) hc)
  refine V.aload_n dX8_add_12 0 rfl ?_
  refine V.getf 0 0 rfl fa_X8_9_7 rfl dX8_add_13 ?_
  refine V.aload_n dX8_add_16 0 rfl ?_
  refine V.getf 0 1 rfl fa_X8_22_7 rfl dX8_add_17 ?_
  refine V.iload_n dX8_add_20 1 rfl ?_
  refine V.cast (vw2 := [(tx, ob 7 [.ref tl, .int (nI n), .ref tw, .ref tq, .int cl, .int x1, .int x2, .int x3]), (tl, aC E 160 (upd F n k))]) 1 rfl (vinI (by omega)) (by rw [nI_clamp (by omega), hk] <;> rfl) dX8_add_21 ?_
  refine V.aload_n dX8_add_22 0 rfl ?_
  refine V.dup dX8_add_23 rfl ?_
  refine V.getf 0 1 rfl fa_X8_22_7 rfl dX8_add_24 ?_
  refine V.iconst (v := 1) dX8_add_27 (by decide) ?_
  refine V.iadd dX8_add_28 ?_
  refine V.topc (v := (nI (n + 1))) (nI_1 n) ?_
  refine V.putf 0 1 (vw2 := [(tx, ob 7 [.ref tl, .int (nI (n + 1)), .ref tw, .ref tq, .int cl, .int x1, .int x2, .int x3]), (tl, aC E 160 (upd F n k))]) rfl fp_X8_22_7 rfl rfl (Nat.le_of_ble_eq_true rfl) rfl dX8_add_29 ?_
  refine V.iconst (v := 1) dX8_add_32 (by decide) ?_
  exact V.zret rfl (rfl) dX8_add_33 (⟨(), rfl, rfl, rfl, trivial⟩)

set_option maxHeartbeats 4000000 in
set_option maxRecDepth 100000 in
theorem c_Text_addF (E : vEnv) (l : Launch) (L : List Nat) (h : Nat → va_E) (tx : Nat) (tl : Nat) (tw : Nat) (tq : Nat) (n : Nat) (cl : Int32) (x1 : Int32) (x2 : Int32) (x3 : Int32) (k : Int32) : CT E l yX8_add cX8_add 2 (some (.boolean)) 0 0 0 L h [(tx, ob 7 [.ref tl, .int 160, .ref tw, .ref tq, .int cl, .int x1, .int x2, .int x3])] [.ref tx, .int k] (qP L h (fun (_ : Unit) => [(tx, ob 7 [.ref tl, .int 160, .ref tw, .ref tq, .int cl, .int x1, .int x2, .int x3])]) (fun _ => some (.int 0)) (fun _ => True)) := by
  refine CT.ofV (by decide +kernel) (Nat.le_of_ble_eq_true rfl) ?_
  refine V.locals2 (lv2 := [(0, .ref tx), (1, .int k)]) rfl ?_
  refine V.aload_n dX8_add_0 0 rfl ?_
  refine V.getf 0 1 rfl fa_X8_22_7 rfl dX8_add_1 ?_
  refine V.sipush (v := 160) dX8_add_4 (by decide) ?_
  refine V.icmp_lt (tgt := 12) dX8_add_7 (by decide) (fun hc => absurd hc (by decide)) (fun _ => ?_)
  refine V.iconst (v := 0) dX8_add_10 (by decide) ?_
  exact V.zret rfl (rfl) dX8_add_11 (⟨(), rfl, rfl, rfl, trivial⟩)

set_option maxHeartbeats 4000000 in
set_option maxRecDepth 100000 in
theorem c_Text_numberOf (E : vEnv) (l : Launch) (L : List Nat) (h : Nat → va_E) (tx : Nat) (tl : Nat) (tw : Nat) (tq : Nat) (n : Nat) (cl : Int32) (x1 : Int32) (x2 : Int32) (x3 : Int32) (G : Nat → Int32) (c : Nat) (i : Nat) (hc : c < 14) (hi : i < 3) : CT E l yX8_numberOf cX8_numberOf 3 (some (.int)) 0 0 0 L h [(tx, ob 7 [.ref tl, .int (nI n), .ref tw, .ref tq, .int cl, .int x1, .int x2, .int x3]), (tq, aI E 42 G)] [.ref tx, .int (nI c), .int (nI i)] (qP L h (fun (_ : Unit) => [(tx, ob 7 [.ref tl, .int (nI n), .ref tw, .ref tq, .int cl, .int x1, .int x2, .int x3]), (tq, aI E 42 G)]) (fun _ => some (.int (G (c * 3 + i)))) (fun _ => True)) := by
  refine CT.ofV (by decide +kernel) (Nat.le_of_ble_eq_true rfl) ?_
  refine V.locals2 (lv2 := [(0, .ref tx), (1, .int (nI c)), (2, .int (nI i))]) rfl ?_
  refine V.aload_n dX8_numberOf_0 0 rfl ?_
  refine V.getf 0 3 rfl fa_X8_19_7 rfl dX8_numberOf_1 ?_
  refine V.iload_n dX8_numberOf_4 1 rfl ?_
  refine V.iconst (v := 3) dX8_numberOf_5 (by decide) ?_
  refine V.imul dX8_numberOf_6 ?_
  refine V.topc (v := (nI (c * 3))) (pk_mul c 3) ?_
  refine V.iload_n dX8_numberOf_7 2 rfl ?_
  refine V.iadd dX8_numberOf_8 ?_
  refine V.topc (v := (nI (c * 3 + i))) (nI_add _ _) ?_
  refine V.iald 1 rfl (vinI (by omega)) dX8_numberOf_9 ?_
  refine V.topc (v := (G ((c * 3 + i)))) (by rw [nI_clamp (by omega)] <;> rfl) ?_
  exact V.iret rfl dX8_numberOf_10 (⟨(), rfl, rfl, rfl, trivial⟩)

set_option maxHeartbeats 4000000 in
set_option maxRecDepth 100000 in
theorem c_Text_nextToken (E : vEnv) (l : Launch) (L : List Nat) (h : Nat → va_E) (tx : Nat) (tl : Nat) (tw : Nat) (tq : Nat) (n : Nat) (cl : Int32) (x1 : Int32) (x3 : Int32) (F : Nat → Int32) (t : Nat) (ht : t ≤ n) (hn : n ≤ 160) : CT E l yX8_nextToken cX8_nextToken 2 none 2 0 0 L h [(tx, ob 7 [.ref tl, .int (nI n), .ref tw, .ref tq, .int cl, .int x1, .int (nI t), .int x3]), (tl, aC E 160 F)] [.ref tx] (qP L h (fun (_ : Unit) => [(tx, ob 7 [.ref tl, .int (nI n), .ref tw, .ref tq, .int cl, .int (nI (frT F n t)), .int (nI (teT F n t)), .int x3]), (tl, aC E 160 F)]) (fun _ => none) (fun _ => True)) := by
  refine CT.ofV (by decide +kernel) (Nat.le_of_ble_eq_true rfl) ?_
  obtain ⟨Z, hZ⟩ : ∃ Z, Z = mZ E (qP L h (fun (_ : Unit) => [(tx, ob 7 [.ref tl, .int (nI n), .ref tw, .ref tq, .int cl, .int (nI (frT F n t)), .int (nI (teT F n t)), .int x3]), (tl, aC E 160 F)]) (fun _ => none) (fun _ => True)) 0 0 := ⟨_, rfl⟩
  rw [← hZ]
  refine V.locals2 (lv2 := [(0, .ref tx)]) rfl ?_
  refine V.aload_n dX8_nextToken_0 0 rfl ?_
  refine V.aload_n dX8_nextToken_1 0 rfl ?_
  refine V.getf 0 6 rfl fa_X8_32_7 rfl dX8_nextToken_2 ?_
  refine V.putf 0 5 (vw2 := [(tx, ob 7 [.ref tl, .int (nI n), .ref tw, .ref tq, .int cl, .int (nI t), .int (nI t), .int x3]), (tl, aC E 160 F)]) rfl fp_X8_39_7 rfl rfl (Nat.le_of_ble_eq_true rfl) rfl dX8_nextToken_5 ?_
  have lp_8 : ∀ (fuel : Nat) (i : Nat) (hi : i ≤ n) (hsk : skipB F n (n - i) i = skipB F n (n - t) t) (hf : n < i + fuel), V E l yX8_nextToken cX8_nextToken 2 none (rmk 2 0 0) Z L h 0 0 [(tx, ob 7 [.ref tl, .int (nI n), .ref tw, .ref tq, .int cl, .int (nI i), .int (nI t), .int x3]), (tl, aC E 160 F)] 8 [(0, .ref tx)] [] := by
    intro fuel
    induction fuel with
    | zero =>
      intro i hi hsk hf
      exfalso; omega
    | succ fuel ih_8 =>
      intro i hi hsk hf
      refine V.aload_n dX8_nextToken_8 0 rfl ?_
      refine V.getf 0 5 rfl fa_X8_39_7 rfl dX8_nextToken_9 ?_
      refine V.aload_n dX8_nextToken_12 0 rfl ?_
      refine V.getf 0 1 rfl fa_X8_22_7 rfl dX8_nextToken_13 ?_
      refine V.icmp_ge (tgt := 46) dX8_nextToken_16 (by decide) (fun c1_16 => ?_) (fun c1_16 => ?_)
      · skip
        have hge : n ≤ i := (nI_leI (by omega) (by omega)).mp c1_16
        have hin : i = n := by omega
        have hfr : frT F n t = i := by rw [frT, ← hsk, show n - i = 0 by omega]; rfl
        have hte : teT F n t = i := by rw [teT, hfr, if_neg (by omega)]
        refine V.aload_n dX8_nextToken_46 0 rfl ?_
        refine V.aload_n dX8_nextToken_47 0 rfl ?_
        refine V.getf 0 5 rfl fa_X8_39_7 rfl dX8_nextToken_48 ?_
        refine V.putf 0 6 (vw2 := [(tx, ob 7 [.ref tl, .int (nI n), .ref tw, .ref tq, .int cl, .int (nI i), .int (nI i), .int x3]), (tl, aC E 160 F)]) rfl fp_X8_32_7 rfl rfl (Nat.le_of_ble_eq_true rfl) rfl dX8_nextToken_51 ?_
        refine V.aload_n dX8_nextToken_54 0 rfl ?_
        refine V.getf 0 5 rfl fa_X8_39_7 rfl dX8_nextToken_55 ?_
        refine V.aload_n dX8_nextToken_58 0 rfl ?_
        refine V.getf 0 1 rfl fa_X8_22_7 rfl dX8_nextToken_59 ?_
        refine V.icmp_lt (tgt := 66) dX8_nextToken_62 (by decide) (fun hc => absurd hc (nI_nlt (by omega) (by omega))) (fun _ => ?_)
        subst hZ
        exact V.vret rfl dX8_nextToken_65 (⟨(), rfl, rfl, by rw [hfr, hte], trivial⟩)
      · skip
        have hlt : i < n := Nat.lt_of_not_le (fun hh => c1_16 (nI_le hh (by omega)))
        refine V.aload_n dX8_nextToken_19 0 rfl ?_
        refine V.getf 0 0 rfl fa_X8_9_7 rfl dX8_nextToken_20 ?_
        refine V.aload_n dX8_nextToken_23 0 rfl ?_
        refine V.getf 0 5 rfl fa_X8_39_7 rfl dX8_nextToken_24 ?_
        refine V.cald 1 rfl (vinI (by omega)) dX8_nextToken_27 ?_
        refine V.topc (v := (F i)) (by rw [nI_clamp (by omega)]) ?_
        refine V.bipush (v := 32) dX8_nextToken_28 (by decide) ?_
        refine V.icmp_ne (tgt := 46) dX8_nextToken_30 (by decide) (fun c2_30 => ?_) (fun c2_30 => ?_)
        · skip
          have hfr : frT F n t = i := by rw [frT, ← hsk, show n - i = (n - (i + 1)) + 1 by omega, skipB, if_neg (fun h9 => c2_30 h9.2)]
          refine V.aload_n dX8_nextToken_46 0 rfl ?_
          refine V.aload_n dX8_nextToken_47 0 rfl ?_
          refine V.getf 0 5 rfl fa_X8_39_7 rfl dX8_nextToken_48 ?_
          refine V.putf 0 6 (vw2 := [(tx, ob 7 [.ref tl, .int (nI n), .ref tw, .ref tq, .int cl, .int (nI i), .int (nI i), .int x3]), (tl, aC E 160 F)]) rfl fp_X8_32_7 rfl rfl (Nat.le_of_ble_eq_true rfl) rfl dX8_nextToken_51 ?_
          refine V.aload_n dX8_nextToken_54 0 rfl ?_
          refine V.getf 0 5 rfl fa_X8_39_7 rfl dX8_nextToken_55 ?_
          refine V.aload_n dX8_nextToken_58 0 rfl ?_
          refine V.getf 0 1 rfl fa_X8_22_7 rfl dX8_nextToken_59 ?_
          refine V.icmp_lt (tgt := 66) dX8_nextToken_62 (by decide) (fun _ => ?_) (fun hc => absurd (show nI i < nI n from nI_lt hlt (by omega)) hc)
          refine V.aload_n dX8_nextToken_66 0 rfl ?_
          refine V.getf 0 0 rfl fa_X8_9_7 rfl dX8_nextToken_67 ?_
          refine V.aload_n dX8_nextToken_70 0 rfl ?_
          refine V.getf 0 5 rfl fa_X8_39_7 rfl dX8_nextToken_71 ?_
          refine V.cald 1 rfl (vinI (by omega)) dX8_nextToken_74 ?_
          refine V.topc (v := (F i)) (by rw [nI_clamp (by omega)]) ?_
          refine V.istore_n (lv2 := [(1, .int (F i)), (0, .ref tx)]) dX8_nextToken_75 rfl (by decide) rfl ?_
          refine V.aload_n dX8_nextToken_76 1 rfl ?_
          refine V.dup dX8_nextToken_77 rfl ?_
          refine V.getf 0 6 rfl fa_X8_32_7 rfl dX8_nextToken_78 ?_
          refine V.iconst (v := 1) dX8_nextToken_81 (by decide) ?_
          refine V.iadd dX8_nextToken_82 ?_
          refine V.topc (v := (nI (i + 1))) (nI_1 i) ?_
          refine V.putf 0 6 (vw2 := [(tx, ob 7 [.ref tl, .int (nI n), .ref tw, .ref tq, .int cl, .int (nI i), .int (nI (i + 1)), .int x3]), (tl, aC E 160 F)]) rfl fp_X8_32_7 rfl rfl (Nat.le_of_ble_eq_true rfl) rfl dX8_nextToken_83 ?_
          refine V.locals [1, 0] (by rfl) ?_
          have lp_86 : ∀ (fuel : Nat) (j : Nat) (hj : j ≤ n) (hji : i < j) (hen : endT F n (F i) (n - j) j = endT F n (F i) (n - (i + 1)) (i + 1)) (hf2 : n < j + fuel), V E l yX8_nextToken cX8_nextToken 2 none (rmk 2 0 0) Z L h 0 0 [(tx, ob 7 [.ref tl, .int (nI n), .ref tw, .ref tq, .int cl, .int (nI i), .int (nI j), .int x3]), (tl, aC E 160 F)] 86 [(0, .ref tx), (1, .int (F i))] [] := by
            intro fuel
            induction fuel with
            | zero =>
              intro j hj hji hen hf2
              exfalso; omega
            | succ fuel ih_86 =>
              intro j hj hji hen hf2
              refine V.aload_n dX8_nextToken_86 0 rfl ?_
              refine V.getf 0 6 rfl fa_X8_32_7 rfl dX8_nextToken_87 ?_
              refine V.aload_n dX8_nextToken_90 0 rfl ?_
              refine V.getf 0 1 rfl fa_X8_22_7 rfl dX8_nextToken_91 ?_
              refine V.icmp_ge (tgt := 126) dX8_nextToken_94 (by decide) (fun c3_94 => ?_) (fun c3_94 => ?_)
              · skip
                have hjn : j = n := by have := (nI_leI (by omega) (by omega)).mp c3_94; omega
                have hte : teT F n t = j := by rw [teT, hfr, if_pos hlt, ← hen, hjn, Nat.sub_self]; rfl
                subst hZ
                exact V.vret rfl dX8_nextToken_126 (⟨(), rfl, rfl, by rw [hfr, hte], trivial⟩)
              · skip
                have hjlt : j < n := Nat.lt_of_not_le (fun hh => c3_94 (nI_le hh (by omega)))
                refine V.iload_n dX8_nextToken_97 1 rfl ?_
                refine V.aload_n dX8_nextToken_98 0 rfl ?_
                refine V.getf 0 0 rfl fa_X8_9_7 rfl dX8_nextToken_99 ?_
                refine V.aload_n dX8_nextToken_102 0 rfl ?_
                refine V.getf 0 6 rfl fa_X8_32_7 rfl dX8_nextToken_103 ?_
                refine V.cald 1 rfl (vinI (by omega)) dX8_nextToken_106 ?_
                refine V.topc (v := (F j)) (by rw [nI_clamp (by omega)]) ?_
                refine V.callSp (As := [.int (F i), .int (F j)]) (rest := []) [] (c_Text_isOneRow E l L _ ((F i)) ((F j))) rfl (by decide) mi_X8_isOneRow w_294 w_295 rfl rfl (Nat.le_of_ble_eq_true rfl) ⟨by decide, by decide⟩ ⟨by decide, by decide⟩ dX8_nextToken_107 (vw2 := fun _ => [(tx, ob 7 [.ref tl, .int (nI n), .ref tw, .ref tq, .int cl, .int (nI i), .int (nI j), .int x3]), (tl, aC E 160 F)]) (st2 := fun _ => [.int (rowB (F i) (F j))]) (fun _ => rfl) (fun _ => rfl) (fun _ => rfl) (fun _ _ => ?_)
                refine V.if_eq (tgt := 126) dX8_nextToken_110 (by decide) (fun c4_110 => ?_) (fun c4_110 => ?_)
                · skip
                  have hte : teT F n t = j := by rw [teT, hfr, if_pos hlt, ← hen, show n - j = (n - (j + 1)) + 1 by omega, endT, if_neg (fun h9 => absurd (h9.2.symm.trans c4_110) (by decide))]
                  subst hZ
                  exact V.vret rfl dX8_nextToken_126 (⟨(), rfl, rfl, by rw [hfr, hte], trivial⟩)
                · skip
                  have hr1 : rowB (F i) (F j) = 1 := by
                    have h8 := c4_110
                    unfold rowB at h8 ⊢
                    revert h8
                    rcases withinI_01 (F i) 97 122 with g1 | g1 <;> rcases withinI_01 (F j) 97 122 with g2 | g2 <;> rcases withinI_01 (F i) 48 57 with g3 | g3 <;> rcases withinI_01 (F j) 48 57 with g4 | g4 <;> simp [g1, g2, g3, g4]
                  refine V.aload_n dX8_nextToken_113 0 rfl ?_
                  refine V.dup dX8_nextToken_114 rfl ?_
                  refine V.getf 0 6 rfl fa_X8_32_7 rfl dX8_nextToken_115 ?_
                  refine V.iconst (v := 1) dX8_nextToken_118 (by decide) ?_
                  refine V.iadd dX8_nextToken_119 ?_
                  refine V.topc (v := (nI (j + 1))) (nI_1 j) ?_
                  refine V.putf 0 6 (vw2 := [(tx, ob 7 [.ref tl, .int (nI n), .ref tw, .ref tq, .int cl, .int (nI i), .int (nI (j + 1)), .int x3]), (tl, aC E 160 F)]) rfl fp_X8_32_7 rfl rfl (Nat.le_of_ble_eq_true rfl) rfl dX8_nextToken_120 ?_
                  refine V.goto (tgt := 86) dX8_nextToken_123 (by decide) ?_
                  exact ih_86 (j + 1) (by omega) (by omega) (by rw [← hen, show n - j = (n - (j + 1)) + 1 by omega, endT, if_pos ⟨hjlt, hr1⟩]) (by omega)
          exact lp_86 (n + 1) (i + 1) (by omega) (by omega) rfl (by omega)
        · skip
          refine V.aload_n dX8_nextToken_33 0 rfl ?_
          refine V.dup dX8_nextToken_34 rfl ?_
          refine V.getf 0 5 rfl fa_X8_39_7 rfl dX8_nextToken_35 ?_
          refine V.iconst (v := 1) dX8_nextToken_38 (by decide) ?_
          refine V.iadd dX8_nextToken_39 ?_
          refine V.topc (v := (nI (i + 1))) (nI_1 i) ?_
          refine V.putf 0 5 (vw2 := [(tx, ob 7 [.ref tl, .int (nI n), .ref tw, .ref tq, .int cl, .int (nI (i + 1)), .int (nI t), .int x3]), (tl, aC E 160 F)]) rfl fp_X8_39_7 rfl rfl (Nat.le_of_ble_eq_true rfl) rfl dX8_nextToken_40 ?_
          refine V.goto (tgt := 8) dX8_nextToken_43 (by decide) ?_
          exact ih_8 (i + 1) (by omega) (by rw [← hsk, show n - i = (n - (i + 1)) + 1 by omega, skipB, if_pos ⟨by omega, c2_30⟩]) (by omega)
  exact lp_8 (n + 1) t ht rfl (by omega)
