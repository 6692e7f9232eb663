set_option maxHeartbeats 4000000 in
set_option maxRecDepth 100000 in
theorem c_Tells_fit (E : vEnv) (l : Launch) (L : List Nat) (h : Nat → va_E) (to : Nat) (tS : Nat) (tV : Nat) (tM : Nat) (n : Nat) (fM : Nat → Int32) (lo : Nat) (lt : Nat) (lr : Nat) (lw : Nat) (m : Nat) (wa : Int32) (lp : Int32) (wf : Nat → Option Nat) (K : Nat → Prop) (sf : Nat → SHP) (tk : Nat → Nat) (tv : Nat → Nat) (so : Int32) (ti : Int32) (hn : n ≤ 6) (hm : m ≤ 6) (htk : ∀ i, i < n → tk i < m ∧ tv i ≤ 9) (hK : ∀ a ∈ [to, tS, tV, tM, lo, lw], K a) (hSh : ShopsAt L K m wf sf h) : CT E l yX7_fit cX7_fit 6 (some (.boolean)) 3 0 0 L h [(to, ob 6 [.ref tS, .ref tV, .ref tM, .int (nI n)]), (tS, aI E 6 (fun j => nI (tk j))), (tV, aI E 6 (fun j => nI (tv j))), (tM, aI E 6 fM), (lo, ob 1 [.ref lt, .ref lr, .ref lw, .int (nI m), .int wa, .int lp]), (lw, aS E 6 wf)] [.ref to, .ref lo, .int so, .int ti] (qP L h (fun (_ : Unit) => [(to, ob 6 [.ref tS, .ref tV, .ref tM, .int (nI n)]), (tS, aI E 6 (fun j => nI (tk j))), (tV, aI E 6 (fun j => nI (tv j))), (tM, aI E 6 fM), (lo, ob 1 [.ref lt, .ref lr, .ref lw, .int (nI m), .int wa, .int lp]), (lw, aS E 6 wf)]) (fun _ => some (.int (boolI (∀ i, i < n → tellFits sf tk tv fM so ti i)))) (fun _ => True)) := by
  refine CT.ofV (by decide +kernel) (Nat.le_of_ble_eq_true rfl) ?_
  obtain ⟨Z, hZ⟩ : ∃ Z, Z = mZ E (qP L h (fun (_ : Unit) => [(to, ob 6 [.ref tS, .ref tV, .ref tM, .int (nI n)]), (tS, aI E 6 (fun j => nI (tk j))), (tV, aI E 6 (fun j => nI (tv j))), (tM, aI E 6 fM), (lo, ob 1 [.ref lt, .ref lr, .ref lw, .int (nI m), .int wa, .int lp]), (lw, aS E 6 wf)]) (fun _ => some (.int (boolI (∀ i, i < n → tellFits sf tk tv fM so ti i)))) (fun _ => True)) 0 0 := ⟨_, rfl⟩
  rw [← hZ]
  refine V.locals2 (lv2 := [(0, .ref to), (1, .ref lo), (2, .int so), (3, .int ti)]) rfl ?_
  refine V.iconst (v := 0) dX7_fit_0 (by decide) ?_
  refine V.istore (lv2 := [(4, .int 0), (0, .ref to), (1, .ref lo), (2, .int so), (3, .int ti)]) dX7_fit_1 (by decide) rfl ?_
  refine V.locals [1, 2, 3, 4, 0] (by rfl) ?_
  have lp_3 : ∀ (fuel : Nat) (i : Nat) (hi : i ≤ n) (hd : ∀ j, j < i → tellFits sf tk tv fM so ti j) (hf : n < i + fuel), V E l yX7_fit cX7_fit 6 (some (.boolean)) (rmk 3 0 0) Z L h 0 0 [(to, ob 6 [.ref tS, .ref tV, .ref tM, .int (nI n)]), (tS, aI E 6 (fun j => nI (tk j))), (tV, aI E 6 (fun j => nI (tv j))), (tM, aI E 6 fM), (lo, ob 1 [.ref lt, .ref lr, .ref lw, .int (nI m), .int wa, .int lp]), (lw, aS E 6 wf)] 3 [(0, .ref to), (1, .ref lo), (2, .int so), (3, .int ti), (4, .int (nI i))] [] := by
    intro fuel
    induction fuel with
    | zero =>
      intro i hi hd hf
      exfalso; omega
    | succ fuel ih_3 =>
      intro i hi hd hf
      refine V.iload dX7_fit_3 4 rfl ?_
      refine V.aload_n dX7_fit_5 0 rfl ?_
      refine V.getf 0 3 rfl fa_X7_21_6 rfl dX7_fit_6 ?_
      refine V.icmp_ge (tgt := 70) dX7_fit_9 (by decide) (fun c1_9 => ?_) (fun c1_9 => ?_)
      · skip
        refine V.iconst (v := 1) dX7_fit_70 (by decide) ?_
        subst hZ
        exact V.zret rfl (rfl) dX7_fit_71 (⟨(), by rw [boolI_t]; intro j hj; exact hd j (by have := (nI_leI (by omega) (by omega)).mp c1_9; omega), rfl, rfl, trivial⟩)
      · skip
        refine V.aload_n dX7_fit_12 1 rfl ?_
        refine V.aload_n dX7_fit_13 0 rfl ?_
        refine V.getf 0 0 rfl fa_X7_9_6 rfl dX7_fit_14 ?_
        have hin : i < n := Nat.lt_of_not_le (fun hh => c1_9 (nI_le hh (by omega)))
        obtain ⟨q, hq1, hq2, hq3, hq4, hq5, hq6⟩ := hSh (tk i) (htk i hin).1
        refine V.iload dX7_fit_17 4 rfl ?_
        refine V.iald 1 rfl (vinI (by omega)) dX7_fit_19 ?_
        refine V.topc (v := (nI (tk i))) (by rw [nI_clamp (by omega)]) ?_
        refine V.callVp (As := [.int (nI (tk i))]) (rest := []) [4, 5] (c_Lane_shopOf E l L _ lo lt lr lw m wa lp wf ((tk i)) q ((htk i hin).1) (hm) (hq1)) rfl (by decide) mi_X1_shopOf 4 rfl rfl w_687 w_450 w_451 rfl rfl (Nat.le_of_ble_eq_true rfl) ⟨by decide, by decide⟩ ⟨by decide, by decide⟩ dX7_fit_20 (vw2 := fun _ => [(to, ob 6 [.ref tS, .ref tV, .ref tM, .int (nI n)]), (tS, aI E 6 (fun j => nI (tk j))), (tV, aI E 6 (fun j => nI (tv j))), (tM, aI E 6 fM), (lo, ob 1 [.ref lt, .ref lr, .ref lw, .int (nI m), .int wa, .int lp]), (lw, aS E 6 wf)]) (st2 := fun _ => [.ref q]) (fun _ => rfl) (fun _ => rfl) (fun _ => rfl) (fun _ _ => ?_)
        refine V.astore (lv2 := [(5, .ref q), (0, .ref to), (1, .ref lo), (2, .int so), (3, .int ti), (4, .int (nI i))]) dX7_fit_23 (by decide) rfl ?_
        refine V.see q (e := ob (kci (sf (tk i)).1) [.int (nI (sf (tk i)).2.1), .int (sf (tk i)).2.2.1, .int (sf (tk i)).2.2.2]) (hq2) (fun hm => hq3 (hK _ hm)) (hq4) ?_
        refine V.view (vw2 := [(to, ob 6 [.ref tS, .ref tV, .ref tM, .int (nI n)]), (tS, aI E 6 (fun j => nI (tk j))), (tV, aI E 6 (fun j => nI (tv j))), (tM, aI E 6 fM), (lo, ob 1 [.ref lt, .ref lr, .ref lw, .int (nI m), .int wa, .int lp]), (lw, aS E 6 wf), (q, ob (kci (sf (tk i)).1) [.int (nI (sf (tk i)).2.1), .int (sf (tk i)).2.2.1, .int (sf (tk i)).2.2.2])]) (L2 := L) rfl rfl ?_
        refine V.aload dX7_fit_25 0 rfl ?_
        refine V.ifnull dX7_fit_27 ?_
        refine V.aload dX7_fit_30 0 rfl ?_
        refine V.getf 6 0 rfl (fas_X7_31 (by assumption)) rfl dX7_fit_32 ?_
        refine V.iload_n dX7_fit_35 3 rfl ?_
        refine V.icmp_ne (tgt := 64) dX7_fit_36 (by decide) (fun c2_36 => ?_) (fun c2_36 => ?_)
        · skip
          refine V.unsee (vw := [(to, ob 6 [.ref tS, .ref tV, .ref tM, .int (nI n)]), (tS, aI E 6 (fun j => nI (tk j))), (tV, aI E 6 (fun j => nI (tv j))), (tM, aI E 6 fM), (lo, ob 1 [.ref lt, .ref lr, .ref lw, .int (nI m), .int wa, .int lp]), (lw, aS E 6 wf)]) (a := q) (e := ob (kci (sf (tk i)).1) [.int (nI (sf (tk i)).2.1), .int (sf (tk i)).2.2.1, .int (sf (tk i)).2.2.2]) (hq4) ?_
          refine V.iinc (v := (nI (i + 1))) (lv2 := [(4, .int (nI (i + 1))), (5, .ref q), (0, .ref to), (1, .ref lo), (2, .int so), (3, .int ti)]) dX7_fit_64 5 rfl (nI_1 _) (by decide) rfl ?_
          refine V.goto (tgt := 3) dX7_fit_67 (by decide) ?_
          refine V.locals [2, 3, 4, 5, 0] (by rfl) ?_
          exact ih_3 (i + 1) (by omega) (fun j hj => by rcases Nat.lt_succ_iff_lt_or_eq.mp hj with hj | rfl; exact hd j hj; exact fun hh => absurd hh c2_36) (by omega)
        · skip
          refine V.aload dX7_fit_39 0 rfl ?_
          refine V.aload_n dX7_fit_41 1 rfl ?_
          refine V.getf 0 1 rfl fa_X7_15_6 rfl dX7_fit_42 ?_
          refine V.iload dX7_fit_45 5 rfl ?_
          refine V.iald 2 rfl (vinI (by omega)) dX7_fit_47 ?_
          refine V.topc (v := (nI (tv i))) (by rw [nI_clamp (by omega)]) ?_
          refine V.iload_n dX7_fit_48 4 rfl ?_
          refine V.callSp (As := [.ref q, .int (nI (tv i)), .int ti]) (rest := []) [6] (c_Tells_smeltBehind E l L _ q ((sf (tk i)).1) ((sf (tk i)).2.1) ((sf (tk i)).2.2.1) ((sf (tk i)).2.2.2) ((tv i)) ti (hq5) (hq6) ((htk i hin).2)) rfl (by decide) mi_X7_smeltBehind w_688 w_689 rfl rfl (Nat.le_of_ble_eq_true rfl) ⟨by decide, by decide⟩ ⟨by decide, by decide⟩ dX7_fit_49 (vw2 := fun _ => [(to, ob 6 [.ref tS, .ref tV, .ref tM, .int (nI n)]), (tS, aI E 6 (fun j => nI (tk j))), (tV, aI E 6 (fun j => nI (tv j))), (tM, aI E 6 fM), (lo, ob 1 [.ref lt, .ref lr, .ref lw, .int (nI m), .int wa, .int lp]), (lw, aS E 6 wf), (q, ob (kci (sf (tk i)).1) [.int (nI (sf (tk i)).2.1), .int (sf (tk i)).2.2.1, .int (sf (tk i)).2.2.2])]) (st2 := fun _ => [.int (smeltI (sf (tk i)).1 (sf (tk i)).2.2.1 (tiredBy (sf (tk i)).1 (sf (tk i)).2.1 ti (tv i)) 0)]) (fun _ => rfl) (fun _ => rfl) (fun _ => rfl) (fun _ _ => ?_)
          refine V.aload_n dX7_fit_52 1 rfl ?_
          refine V.getf 0 2 rfl fa_X7_18_6 rfl dX7_fit_53 ?_
          refine V.iload dX7_fit_56 5 rfl ?_
          refine V.iald 3 rfl (vinI (by omega)) dX7_fit_58 ?_
          refine V.topc (v := (fM i)) (by rw [nI_clamp (by omega)]) ?_
          refine V.icmp_eq (tgt := 64) dX7_fit_59 (by decide) (fun c3_59 => ?_) (fun c3_59 => ?_)
          · skip
            refine V.unsee (vw := [(to, ob 6 [.ref tS, .ref tV, .ref tM, .int (nI n)]), (tS, aI E 6 (fun j => nI (tk j))), (tV, aI E 6 (fun j => nI (tv j))), (tM, aI E 6 fM), (lo, ob 1 [.ref lt, .ref lr, .ref lw, .int (nI m), .int wa, .int lp]), (lw, aS E 6 wf)]) (a := q) (e := ob (kci (sf (tk i)).1) [.int (nI (sf (tk i)).2.1), .int (sf (tk i)).2.2.1, .int (sf (tk i)).2.2.2]) (hq4) ?_
            refine V.iinc (v := (nI (i + 1))) (lv2 := [(4, .int (nI (i + 1))), (5, .ref q), (0, .ref to), (1, .ref lo), (2, .int so), (3, .int ti)]) dX7_fit_64 5 rfl (nI_1 _) (by decide) rfl ?_
            refine V.goto (tgt := 3) dX7_fit_67 (by decide) ?_
            refine V.locals [2, 3, 4, 5, 0] (by rfl) ?_
            exact ih_3 (i + 1) (by omega) (fun j hj => by rcases Nat.lt_succ_iff_lt_or_eq.mp hj with hj | rfl; exact hd j hj; exact fun _ => c3_59) (by omega)
          · skip
            refine V.unsee (vw := [(to, ob 6 [.ref tS, .ref tV, .ref tM, .int (nI n)]), (tS, aI E 6 (fun j => nI (tk j))), (tV, aI E 6 (fun j => nI (tv j))), (tM, aI E 6 fM), (lo, ob 1 [.ref lt, .ref lr, .ref lw, .int (nI m), .int wa, .int lp]), (lw, aS E 6 wf)]) (a := q) (e := ob (kci (sf (tk i)).1) [.int (nI (sf (tk i)).2.1), .int (sf (tk i)).2.2.1, .int (sf (tk i)).2.2.2]) (hq4) ?_
            refine V.iconst (v := 0) dX7_fit_62 (by decide) ?_
            subst hZ
            exact V.zret rfl (rfl) dX7_fit_63 (⟨(), by rw [boolI_f]; intro hall; exact c3_59 (hall i hin c2_36), rfl, rfl, trivial⟩)
  exact lp_3 (n + 1) 0 (Nat.zero_le _) (fun j hj => absurd hj (Nat.not_lt_zero _)) (by omega)

set_option maxHeartbeats 4000000 in
set_option maxRecDepth 100000 in
theorem c_Walks_exchange (E : vEnv) (l : Launch) (L : List Nat) (h : Nat → va_E) (w : Nat) (wr : Nat) (ws : Nat) (wn : Nat) (n : Nat) (ρ : Nat → Nat) (i : Nat) (j : Nat) (hi : i < 6) (hj : j < 6) : CT E l yX9_exchange cX9_exchange 4 none 0 0 0 L h [(w, ob 8 [.ref wr, .ref ws, .ref wn, .int (nI n)]), (wr, aI E 6 (fun j => nI (ρ j)))] [.ref w, .int (nI i), .int (nI j)] (qP L h (fun (_ : Unit) => [(w, ob 8 [.ref wr, .ref ws, .ref wn, .int (nI n)]), (wr, aI E 6 (fun x => nI (va_up (va_up ρ i (ρ j)) j (ρ i) x)))]) (fun _ => none) (fun _ => True)) := by
  refine CT.ofV (by decide +kernel) (Nat.le_of_ble_eq_true rfl) ?_
  refine V.locals2 (lv2 := [(0, .ref w), (1, .int (nI i)), (2, .int (nI j))]) rfl ?_
  refine V.aload_n dX9_exchange_0 0 rfl ?_
  refine V.getf 0 0 rfl fa_X9_9_8 rfl dX9_exchange_1 ?_
  refine V.iload_n dX9_exchange_4 1 rfl ?_
  refine V.iald 1 rfl (vinI (by omega)) dX9_exchange_5 ?_
  refine V.topc (v := (nI (ρ i))) (by rw [nI_clamp (by omega)]) ?_
  refine V.istore_n (lv2 := [(3, .int (nI (ρ i))), (0, .ref w), (1, .int (nI i)), (2, .int (nI j))]) dX9_exchange_6 rfl (by decide) rfl ?_
  refine V.aload_n dX9_exchange_7 1 rfl ?_
  refine V.getf 0 0 rfl fa_X9_9_8 rfl dX9_exchange_8 ?_
  refine V.iload_n dX9_exchange_11 2 rfl ?_
  refine V.aload_n dX9_exchange_12 1 rfl ?_
  refine V.getf 0 0 rfl fa_X9_9_8 rfl dX9_exchange_13 ?_
  refine V.iload_n dX9_exchange_16 3 rfl ?_
  refine V.iald 1 rfl (vinI (by omega)) dX9_exchange_17 ?_
  refine V.topc (v := (nI (ρ j))) (by rw [nI_clamp (by omega)]) ?_
  refine V.iast (vw2 := [(w, ob 8 [.ref wr, .ref ws, .ref wn, .int (nI n)]), (wr, aI E 6 (upd (fun j => nI (ρ j)) i (nI (ρ j))))]) 1 rfl (vinI (by omega)) (by rw [nI_clamp (by omega)] <;> rfl) dX9_exchange_18 ?_
  refine V.aload_n dX9_exchange_19 1 rfl ?_
  refine V.getf 0 0 rfl fa_X9_9_8 rfl dX9_exchange_20 ?_
  refine V.iload_n dX9_exchange_23 3 rfl ?_
  refine V.iload_n dX9_exchange_24 0 rfl ?_
  refine V.iast (vw2 := [(w, ob 8 [.ref wr, .ref ws, .ref wn, .int (nI n)]), (wr, aI E 6 (upd (upd (fun j => nI (ρ j)) i (nI (ρ j))) j (nI (ρ i))))]) 1 rfl (vinI (by omega)) (by rw [nI_clamp (by omega)] <;> rfl) dX9_exchange_25 ?_
  refine V.arrEq (vw2 := [(w, ob 8 [.ref wr, .ref ws, .ref wn, .int (nI n)]), (wr, aI E 6 (fun x => nI (va_up (va_up ρ i (ρ j)) j (ρ i) x)))]) 1 0 rfl (fun x _ => by simp only [upd, va_up]; (repeat' split) <;> rfl) rfl ?_
  exact V.vret rfl dX9_exchange_26 (⟨(), rfl, rfl, rfl, trivial⟩)

set_option maxHeartbeats 4000000 in
set_option maxRecDepth 100000 in
theorem c_Walks_shopAt (E : vEnv) (l : Launch) (L : List Nat) (h : Nat → va_E) (w : Nat) (wr : Nat) (ws : Nat) (wn : Nat) (n : Nat) (ρ : Nat → Nat) (i : Nat) (hi : i < n) (hn : n ≤ 6) : CT E l yX9_shopAt cX9_shopAt 2 (some (.int)) 1 0 0 L h [(w, ob 8 [.ref wr, .ref ws, .ref wn, .int (nI n)]), (wr, aI E 6 (fun j => nI (ρ j)))] [.ref w, .int (nI i)] (qP L h (fun (_ : Unit) => [(w, ob 8 [.ref wr, .ref ws, .ref wn, .int (nI n)]), (wr, aI E 6 (fun j => nI (ρ j)))]) (fun _ => some (.int (nI (ρ i)))) (fun _ => True)) := by
  refine CT.ofV (by decide +kernel) (Nat.le_of_ble_eq_true rfl) ?_
  refine V.locals2 (lv2 := [(0, .ref w), (1, .int (nI i))]) rfl ?_
  refine V.iload_n dX9_shopAt_0 1 rfl ?_
  refine V.iconst (v := 0) dX9_shopAt_1 (by decide) ?_
  refine V.aload_n dX9_shopAt_2 0 rfl ?_
  refine V.getf 0 3 rfl fa_X9_25_8 rfl dX9_shopAt_3 ?_
  refine V.iconst (v := 1) dX9_shopAt_6 (by decide) ?_
  refine V.isub dX9_shopAt_7 ?_
  refine V.callSNp (host := "RoseLane") (As := [.int (nI i), .int 0, .int ((nI n) - 1)]) (rest := []) [] (c_within E l L _ ((nI i)) 0 (((nI n) - 1))) rfl (by decide) mi_X10_isWithin (by decide) w_268 rfl rfl (Nat.le_of_ble_eq_true rfl) ⟨by decide, by decide⟩ ⟨by decide, by decide⟩ dX9_shopAt_8 (vw2 := fun _ => [(w, ob 8 [.ref wr, .ref ws, .ref wn, .int (nI n)]), (wr, aI E 6 (fun j => nI (ρ j)))]) (st2 := fun _ => [.int (withinI (nI i) 0 ((nI n) - 1))]) (fun _ => rfl) (fun _ => rfl) (fun _ => rfl) (fun _ _ => ?_)
  refine V.topc (v := 1) (within_nI hi (by omega)) ?_
  refine V.if_eq (tgt := 23) dX9_shopAt_11 (by decide) (fun hc => absurd hc (by decide)) (fun _ => ?_)
  refine V.aload_n dX9_shopAt_14 0 rfl ?_
  refine V.getf 0 0 rfl fa_X9_9_8 rfl dX9_shopAt_15 ?_
  refine V.iload_n dX9_shopAt_18 1 rfl ?_
  refine V.iald 1 rfl (vinI (by omega)) dX9_shopAt_19 ?_
  refine V.topc (v := (nI (ρ i))) (by rw [nI_clamp (by omega)]) ?_
  refine V.goto (tgt := 24) dX9_shopAt_20 (by decide) ?_
  exact V.iret rfl dX9_shopAt_24 (⟨(), rfl, rfl, rfl, trivial⟩)

set_option maxHeartbeats 4000000 in
set_option maxRecDepth 100000 in
theorem c_Walks_shopAtN (E : vEnv) (l : Launch) (L : List Nat) (h : Nat → va_E) (w : Nat) (wr : Nat) (ws : Nat) (wn : Nat) (n : Nat) (x : Int32) (hx : withinI x 0 (nI n - 1) = 0) : CT E l yX9_shopAt cX9_shopAt 2 (some (.int)) 1 0 0 L h [(w, ob 8 [.ref wr, .ref ws, .ref wn, .int (nI n)])] [.ref w, .int x] (qP L h (fun (_ : Unit) => [(w, ob 8 [.ref wr, .ref ws, .ref wn, .int (nI n)])]) (fun _ => some (.int (-1))) (fun _ => True)) := by
  refine CT.ofV (by decide +kernel) (Nat.le_of_ble_eq_true rfl) ?_
  refine V.locals2 (lv2 := [(0, .ref w), (1, .int x)]) rfl ?_
  refine V.iload_n dX9_shopAt_0 1 rfl ?_
  refine V.iconst (v := 0) dX9_shopAt_1 (by decide) ?_
  refine V.aload_n dX9_shopAt_2 0 rfl ?_
  refine V.getf 0 3 rfl fa_X9_25_8 rfl dX9_shopAt_3 ?_
  refine V.iconst (v := 1) dX9_shopAt_6 (by decide) ?_
  refine V.isub dX9_shopAt_7 ?_
  refine V.callSNp (host := "RoseLane") (As := [.int x, .int 0, .int ((nI n) - 1)]) (rest := []) [] (c_within E l L _ x 0 (((nI n) - 1))) rfl (by decide) mi_X10_isWithin (by decide) w_268 rfl rfl (Nat.le_of_ble_eq_true rfl) ⟨by decide, by decide⟩ ⟨by decide, by decide⟩ dX9_shopAt_8 (vw2 := fun _ => [(w, ob 8 [.ref wr, .ref ws, .ref wn, .int (nI n)])]) (st2 := fun _ => [.int (withinI x 0 ((nI n) - 1))]) (fun _ => rfl) (fun _ => rfl) (fun _ => rfl) (fun _ _ => ?_)
  refine V.topc (v := 0) (hx) ?_
  refine V.if_eq (tgt := 23) dX9_shopAt_11 (by decide) (fun _ => ?_) (fun hc => absurd (by decide) hc)
  refine V.iconst (v := (-1)) dX9_shopAt_23 (by decide) ?_
  exact V.iret rfl dX9_shopAt_24 (⟨(), rfl, rfl, rfl, trivial⟩)

set_option maxHeartbeats 4000000 in
set_option maxRecDepth 100000 in
theorem c_Walks_end (E : vEnv) (l : Launch) (L : List Nat) (h : Nat → va_E) (w : Nat) (wr : Nat) (ws : Nat) (wn : Nat) (n : Nat) (an : Nat → Nat) (hn : n ≤ 6) : CT E l yX9_end cX9_end 1 (some (.object "RoseLane$Nose")) 0 0 0 L h [(w, ob 8 [.ref wr, .ref ws, .ref wn, .int (nI n)]), (wn, aN E 7 (fun j => some (an j)))] [.ref w] (qP L h (fun (_ : Unit) => [(w, ob 8 [.ref wr, .ref ws, .ref wn, .int (nI n)]), (wn, aN E 7 (fun j => some (an j)))]) (fun _ => some (.ref (an n))) (fun _ => True)) := by
  refine CT.ofV (by decide +kernel) (Nat.le_of_ble_eq_true rfl) ?_
  refine V.locals2 (lv2 := [(0, .ref w)]) rfl ?_
  refine V.aload_n dX9_end_0 0 rfl ?_
  refine V.getf 0 2 rfl fa_X9_20_8 rfl dX9_end_1 ?_
  refine V.aload_n dX9_end_4 0 rfl ?_
  refine V.getf 0 3 rfl fa_X9_25_8 rfl dX9_end_5 ?_
  refine V.aldN 1 rfl (vinI (by omega)) dX9_end_8 ?_
  refine V.stack (st2 := [.ref (an n)]) (by rw [nI_clamp (by omega)]; rfl) ?_
  exact V.aret rfl (Or.inr ⟨_, rfl⟩) dX9_end_9 (⟨(), rfl, rfl, rfl, trivial⟩)

set_option maxHeartbeats 4000000 in
set_option maxRecDepth 100000 in
theorem c_Walks_isEach (E : vEnv) (l : Launch) (L : List Nat) (h : Nat → va_E) (w : Nat) (wr : Nat) (ws : Nat) (wn : Nat) (n : Nat) (sm : Nat → Int32) (x : Int32) (hn : n ≤ 6) : CT E l yX9_isEach cX9_isEach 3 (some (.boolean)) 0 0 0 L h [(w, ob 8 [.ref wr, .ref ws, .ref wn, .int (nI n)]), (ws, aI E 6 sm)] [.ref w, .int x] (qP L h (fun (_ : Unit) => [(w, ob 8 [.ref wr, .ref ws, .ref wn, .int (nI n)]), (ws, aI E 6 sm)]) (fun _ => some (.int (boolI (∀ i, i < n → x ≤ sm i)))) (fun _ => True)) := by
  refine CT.ofV (by decide +kernel) (Nat.le_of_ble_eq_true rfl) ?_
  obtain ⟨Z, hZ⟩ : ∃ Z, Z = mZ E (qP L h (fun (_ : Unit) => [(w, ob 8 [.ref wr, .ref ws, .ref wn, .int (nI n)]), (ws, aI E 6 sm)]) (fun _ => some (.int (boolI (∀ i, i < n → x ≤ sm i)))) (fun _ => True)) 0 0 := ⟨_, rfl⟩
  rw [← hZ]
  refine V.locals2 (lv2 := [(0, .ref w), (1, .int x)]) rfl ?_
  refine V.iconst (v := 0) dX9_isEach_0 (by decide) ?_
  refine V.istore_n (lv2 := [(2, .int 0), (0, .ref w), (1, .int x)]) dX9_isEach_1 rfl (by decide) rfl ?_
  refine V.locals [1, 2, 0] (by rfl) ?_
  have lp_2 : ∀ (fuel : Nat) (i : Nat) (hi : i ≤ n) (hd : ∀ j, j < i → x ≤ sm j) (hf : n < i + fuel), V E l yX9_isEach cX9_isEach 3 (some (.boolean)) (rmk 0 0 0) Z L h 0 0 [(w, ob 8 [.ref wr, .ref ws, .ref wn, .int (nI n)]), (ws, aI E 6 sm)] 2 [(0, .ref w), (1, .int x), (2, .int (nI i))] [] := by
    intro fuel
    induction fuel with
    | zero =>
      intro i hi hd hf
      exfalso; omega
    | succ fuel ih_2 =>
      intro i hi hd hf
      refine V.iload_n dX9_isEach_2 2 rfl ?_
      refine V.aload_n dX9_isEach_3 0 rfl ?_
      refine V.getf 0 3 rfl fa_X9_25_8 rfl dX9_isEach_4 ?_
      refine V.icmp_ge (tgt := 28) dX9_isEach_7 (by decide) (fun c1_7 => ?_) (fun c1_7 => ?_)
      · skip
        have hc1_7 : n ≤ i := (nI_leI (by omega) (by omega)).mp c1_7
        refine V.iconst (v := 1) dX9_isEach_28 (by decide) ?_
        subst hZ
        exact V.zret rfl (rfl) dX9_isEach_29 (⟨(), by rw [boolI_t]; intro j hj; exact hd j (by omega), rfl, rfl, trivial⟩)
      · skip
        have hc1_7 : i < n := Nat.lt_of_not_le (fun hh => c1_7 (nI_le hh (by omega)))
        refine V.aload_n dX9_isEach_10 0 rfl ?_
        refine V.getf 0 1 rfl fa_X9_15_8 rfl dX9_isEach_11 ?_
        refine V.iload_n dX9_isEach_14 2 rfl ?_
        refine V.iald 1 rfl (vinI (by omega)) dX9_isEach_15 ?_
        refine V.topc (v := (sm i)) (by rw [nI_clamp (by omega)]) ?_
        refine V.iload_n dX9_isEach_16 1 rfl ?_
        refine V.icmp_ge (tgt := 22) dX9_isEach_17 (by decide) (fun c2_17 => ?_) (fun c2_17 => ?_)
        · skip
          refine V.iinc (v := (nI (i + 1))) (lv2 := [(2, .int (nI (i + 1))), (0, .ref w), (1, .int x)]) dX9_isEach_22 2 rfl (nI_1 _) (by decide) rfl ?_
          refine V.goto (tgt := 2) dX9_isEach_25 (by decide) ?_
          refine V.locals [1, 2, 0] (by rfl) ?_
          exact ih_2 (i + 1) (by omega) (fun j hj => by rcases Nat.lt_succ_iff_lt_or_eq.mp hj with hj | rfl; exact hd j hj; exact c2_17) (by omega)
        · skip
          refine V.iconst (v := 0) dX9_isEach_20 (by decide) ?_
          subst hZ
          exact V.zret rfl (rfl) dX9_isEach_21 (⟨(), by rw [boolI_f]; intro hall; exact absurd (hall i hc1_7) (Int32.not_le.mpr (Int32.not_le.mp c2_17)), rfl, rfl, trivial⟩)
  exact lp_2 (n + 1) 0 (Nat.zero_le _) (fun j hj => absurd hj (Nat.not_lt_zero _)) (by omega)

set_option maxHeartbeats 4000000 in
set_option maxRecDepth 100000 in
theorem c_Walks_smeltAt (E : vEnv) (l : Launch) (L : List Nat) (h : Nat → va_E) (w : Nat) (wr : Nat) (ws : Nat) (wn : Nat) (n : Nat) (ρ : Nat → Nat) (sm : Nat → Int32) (k : Nat) (e : Nat) (hn : n ≤ 6) (hk : k < 6) (he : e < n) (hρ : ∀ i, i < n → ρ i < 6) (hρe : ρ e = k) (hinj : ∀ i, i < e → ρ i ≠ k) : CT E l yX9_smeltAt cX9_smeltAt 3 (some (.int)) 0 0 0 L h [(w, ob 8 [.ref wr, .ref ws, .ref wn, .int (nI n)]), (wr, aI E 6 (fun j => nI (ρ j))), (ws, aI E 6 sm)] [.ref w, .int (nI k)] (qP L h (fun (_ : Unit) => [(w, ob 8 [.ref wr, .ref ws, .ref wn, .int (nI n)]), (wr, aI E 6 (fun j => nI (ρ j))), (ws, aI E 6 sm)]) (fun _ => some (.int (sm e))) (fun _ => True)) := by
  refine CT.ofV (by decide +kernel) (Nat.le_of_ble_eq_true rfl) ?_
  obtain ⟨Z, hZ⟩ : ∃ Z, Z = mZ E (qP L h (fun (_ : Unit) => [(w, ob 8 [.ref wr, .ref ws, .ref wn, .int (nI n)]), (wr, aI E 6 (fun j => nI (ρ j))), (ws, aI E 6 sm)]) (fun _ => some (.int (sm e))) (fun _ => True)) 0 0 := ⟨_, rfl⟩
  rw [← hZ]
  refine V.locals2 (lv2 := [(0, .ref w), (1, .int (nI k))]) rfl ?_
  refine V.iconst (v := 0) dX9_smeltAt_0 (by decide) ?_
  refine V.istore_n (lv2 := [(2, .int 0), (0, .ref w), (1, .int (nI k))]) dX9_smeltAt_1 rfl (by decide) rfl ?_
  refine V.locals [1, 2, 0] (by rfl) ?_
  have lp_2 : ∀ (fuel : Nat) (i : Nat) (hi : i ≤ e) (hf : n < i + fuel), V E l yX9_smeltAt cX9_smeltAt 3 (some (.int)) (rmk 0 0 0) Z L h 0 0 [(w, ob 8 [.ref wr, .ref ws, .ref wn, .int (nI n)]), (wr, aI E 6 (fun j => nI (ρ j))), (ws, aI E 6 sm)] 2 [(0, .ref w), (1, .int (nI k)), (2, .int (nI i))] [] := by
    intro fuel
    induction fuel with
    | zero =>
      intro i hi hf
      exfalso; omega
    | succ fuel ih_2 =>
      intro i hi hf
      refine V.iload_n dX9_smeltAt_2 2 rfl ?_
      refine V.aload_n dX9_smeltAt_3 0 rfl ?_
      refine V.getf 0 3 rfl fa_X9_25_8 rfl dX9_smeltAt_4 ?_
      refine V.icmp_ge (tgt := 33) dX9_smeltAt_7 (by decide) (fun c1_7 => ?_) (fun c1_7 => ?_)
      · skip
        have hc1_7 : n ≤ i := (nI_leI (by omega) (by omega)).mp c1_7
        refine V.iconst (v := (-1)) dX9_smeltAt_33 (by decide) ?_
        subst hZ
        exact V.iret rfl dX9_smeltAt_34 (⟨(), by exfalso; omega, rfl, rfl, trivial⟩)
      · skip
        have hc1_7 : i < n := Nat.lt_of_not_le (fun hh => c1_7 (nI_le hh (by omega)))
        refine V.aload_n dX9_smeltAt_10 0 rfl ?_
        refine V.getf 0 0 rfl fa_X9_9_8 rfl dX9_smeltAt_11 ?_
        refine V.iload_n dX9_smeltAt_14 2 rfl ?_
        refine V.iald 1 rfl (vinI (by omega)) dX9_smeltAt_15 ?_
        refine V.topc (v := (nI (ρ i))) (by rw [nI_clamp (by omega)]) ?_
        refine V.iload_n dX9_smeltAt_16 1 rfl ?_
        refine V.icmp_ne (tgt := 27) dX9_smeltAt_17 (by decide) (fun c2_17 => ?_) (fun c2_17 => ?_)
        · skip
          refine V.iinc (v := (nI (i + 1))) (lv2 := [(2, .int (nI (i + 1))), (0, .ref w), (1, .int (nI k))]) dX9_smeltAt_27 2 rfl (nI_1 _) (by decide) rfl ?_
          refine V.goto (tgt := 2) dX9_smeltAt_30 (by decide) ?_
          refine V.locals [1, 2, 0] (by rfl) ?_
          exact ih_2 (i + 1) (by have : i ≠ e := fun h9 => c2_17 (by rw [h9, hρe]); omega) (by omega)
        · skip
          refine V.aload_n dX9_smeltAt_20 0 rfl ?_
          refine V.getf 0 1 rfl fa_X9_15_8 rfl dX9_smeltAt_21 ?_
          refine V.iload_n dX9_smeltAt_24 2 rfl ?_
          refine V.iald 2 rfl (vinI (by omega)) dX9_smeltAt_25 ?_
          refine V.topc (v := (sm i)) (by rw [nI_clamp (by omega)]) ?_
          subst hZ
          exact V.iret rfl dX9_smeltAt_26 (⟨(), by have h9 : ρ i = k := (nI_eq (by have := hρ i hc1_7; omega) (by omega)).mp c2_17; rw [show i = e from Classical.byContradiction (fun hne => hinj i (by omega) h9)], rfl, rfl, trivial⟩)
  exact lp_2 (n + 1) 0 (Nat.zero_le _) (by omega)
