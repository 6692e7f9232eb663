set_option maxHeartbeats 4000000 in
set_option maxRecDepth 100000 in
theorem c_RL_bestU (E : vEnv) (l : Launch) (L : List Nat) (h : Nat → va_E) (a : Nat) (tx : Nat) (lo : Nat) (no : Nat) (to : Nat) (pa : Nat) (ke : Nat) (ik : Nat) (sc : Nat) (w : Nat) (bp : Nat) (ac : Nat) (br : Nat) (pe : Int32) (un : Int32) (bs : Int32) (bm : Int32) (lt : Nat) (lr : Nat) (lw : Nat) (m : Nat) (wa : Int32) (lp : Int32) (xs : Int32) (mm : Int32) (y : Int32) (hm : m ≤ 6) (hx : withinI xs 0 (nI (2 ^ m - 1)) = 0) : CT E l yX10_best cX10_best 4 (some (.int)) 3 0 0 L h [(a, ob 9 [.ref tx, .ref lo, .ref no, .ref to, .ref pa, .int pe, .int un, .ref ke, .ref ik, .ref sc, .ref w, .ref bp, .ref ac, .ref br, .int bs, .int bm]), (lo, ob 1 [.ref lt, .ref lr, .ref lw, .int (nI m), .int wa, .int lp])] [.ref a, .int xs, .int mm, .int y] (qP L h (fun (_ : Unit) => [(a, ob 9 [.ref tx, .ref lo, .ref no, .ref to, .ref pa, .int pe, .int un, .ref ke, .ref ik, .ref sc, .ref w, .ref bp, .ref ac, .ref br, .int bs, .int bm]), (lo, ob 1 [.ref lt, .ref lr, .ref lw, .int (nI m), .int wa, .int lp])]) (fun _ => some (.int (-2))) (fun _ => True)) := by
  refine CT.ofV (by decide +kernel) (Nat.le_of_ble_eq_true rfl) ?_
  refine V.locals2 (lv2 := [(0, .ref a), (1, .int xs), (2, .int mm), (3, .int y)]) rfl ?_
  refine V.aload_n dX10_best_0 0 rfl ?_
  refine V.iload_n dX10_best_1 1 rfl ?_
  refine V.callVp (As := [.int xs]) (rest := []) [0, 1] (c_RL_isSet E l L _ a tx lo no to pa ke ik sc w bp ac br pe un bs bm lt lr lw m wa lp xs (by omega)) rfl (by decide) mi_X10_isSet 0 rfl rfl w_583 w_585 wp_1 rfl rfl (Nat.le_of_ble_eq_true rfl) ⟨by decide, by decide⟩ ⟨by decide, by decide⟩ dX10_best_2 (vw2 := fun _ => [(a, ob 9 [.ref tx, .ref lo, .ref no, .ref to, .ref pa, .int pe, .int un, .ref ke, .ref ik, .ref sc, .ref w, .ref bp, .ref ac, .ref br, .int bs, .int bm]), (lo, ob 1 [.ref lt, .ref lr, .ref lw, .int (nI m), .int wa, .int lp])]) (st2 := fun _ => [.int (withinI xs 0 (nI (2 ^ m - 1)))]) (fun _ => rfl) (fun _ => rfl) (fun _ => rfl) (fun _ _ => ?_)
  refine V.topc (v := 0) (hx) ?_
  refine V.if_ne (tgt := 11) dX10_best_5 (by decide) (fun hc => absurd (by decide) hc) (fun _ => ?_)
  refine V.bipush (v := (-2)) dX10_best_8 (by decide) ?_
  exact V.iret rfl dX10_best_10 (⟨(), rfl, rfl, rfl, trivial⟩)

set_option maxHeartbeats 4000000 in
set_option maxRecDepth 100000 in
theorem c_RL_bestO1 (E : vEnv) (l : Launch) (L : List Nat) (h : Nat → va_E) (a : Nat) (tx : Nat) (lo : Nat) (no : Nat) (to : Nat) (pa : Nat) (ke : Nat) (ik : Nat) (sc : Nat) (w : Nat) (bp : Nat) (ac : Nat) (br : Nat) (pe : Int32) (un : Int32) (bs : Int32) (bm : Int32) (lt : Nat) (lr : Nat) (lw : Nat) (m : Nat) (wa : Int32) (lp : Int32) (xs : Int32) (mm : Int32) (y : Int32) (hm : m ≤ 6) (hx : withinI xs 0 (nI (2 ^ m - 1)) = 1) (hmm : withinI mm 0 30 = 0) : CT E l yX10_best cX10_best 4 (some (.int)) 3 0 0 L h [(a, ob 9 [.ref tx, .ref lo, .ref no, .ref to, .ref pa, .int pe, .int un, .ref ke, .ref ik, .ref sc, .ref w, .ref bp, .ref ac, .ref br, .int bs, .int bm]), (lo, ob 1 [.ref lt, .ref lr, .ref lw, .int (nI m), .int wa, .int lp])] [.ref a, .int xs, .int mm, .int y] (qP L h (fun (_ : Unit) => [(a, ob 9 [.ref tx, .ref lo, .ref no, .ref to, .ref pa, .int pe, .int un, .ref ke, .ref ik, .ref sc, .ref w, .ref bp, .ref ac, .ref br, .int bs, .int bm]), (lo, ob 1 [.ref lt, .ref lr, .ref lw, .int (nI m), .int wa, .int lp])]) (fun _ => some (.int (-3))) (fun _ => True)) := by
  refine CT.ofV (by decide +kernel) (Nat.le_of_ble_eq_true rfl) ?_
  refine V.locals2 (lv2 := [(0, .ref a), (1, .int xs), (2, .int mm), (3, .int y)]) rfl ?_
  refine V.aload_n dX10_best_0 0 rfl ?_
  refine V.iload_n dX10_best_1 1 rfl ?_
  refine V.callVp (As := [.int xs]) (rest := []) [0, 1] (c_RL_isSet E l L _ a tx lo no to pa ke ik sc w bp ac br pe un bs bm lt lr lw m wa lp xs (by omega)) rfl (by decide) mi_X10_isSet 0 rfl rfl w_583 w_585 wp_1 rfl rfl (Nat.le_of_ble_eq_true rfl) ⟨by decide, by decide⟩ ⟨by decide, by decide⟩ dX10_best_2 (vw2 := fun _ => [(a, ob 9 [.ref tx, .ref lo, .ref no, .ref to, .ref pa, .int pe, .int un, .ref ke, .ref ik, .ref sc, .ref w, .ref bp, .ref ac, .ref br, .int bs, .int bm]), (lo, ob 1 [.ref lt, .ref lr, .ref lw, .int (nI m), .int wa, .int lp])]) (st2 := fun _ => [.int (withinI xs 0 (nI (2 ^ m - 1)))]) (fun _ => rfl) (fun _ => rfl) (fun _ => rfl) (fun _ _ => ?_)
  refine V.topc (v := 1) (hx) ?_
  refine V.if_ne (tgt := 11) dX10_best_5 (by decide) (fun _ => ?_) (fun hc => absurd hc (by decide))
  refine V.iload_n dX10_best_11 2 rfl ?_
  refine V.iconst (v := 0) dX10_best_12 (by decide) ?_
  refine V.bipush (v := 30) dX10_best_13 (by decide) ?_
  refine V.callSp (As := [.int mm, .int 0, .int 30]) (rest := []) [] (c_within E l L _ mm 0 30) rfl (by decide) mi_X10_isWithin w_267 w_268 rfl rfl (Nat.le_of_ble_eq_true rfl) ⟨by decide, by decide⟩ ⟨by decide, by decide⟩ dX10_best_15 (vw2 := fun _ => [(a, ob 9 [.ref tx, .ref lo, .ref no, .ref to, .ref pa, .int pe, .int un, .ref ke, .ref ik, .ref sc, .ref w, .ref bp, .ref ac, .ref br, .int bs, .int bm]), (lo, ob 1 [.ref lt, .ref lr, .ref lw, .int (nI m), .int wa, .int lp])]) (st2 := fun _ => [.int (withinI mm 0 30)]) (fun _ => rfl) (fun _ => rfl) (fun _ => rfl) (fun _ _ => ?_)
  refine V.topc (v := 0) (hmm) ?_
  refine V.if_eq (tgt := 31) dX10_best_18 (by decide) (fun _ => ?_) (fun hc => absurd (by decide) hc)
  refine V.bipush (v := (-3)) dX10_best_31 (by decide) ?_
  exact V.iret rfl dX10_best_33 (⟨(), rfl, rfl, rfl, trivial⟩)

set_option maxHeartbeats 4000000 in
set_option maxRecDepth 100000 in
theorem c_RL_bestO2 (E : vEnv) (l : Launch) (L : List Nat) (h : Nat → va_E) (a : Nat) (tx : Nat) (lo : Nat) (no : Nat) (to : Nat) (pa : Nat) (ke : Nat) (ik : Nat) (sc : Nat) (w : Nat) (bp : Nat) (ac : Nat) (br : Nat) (pe : Int32) (un : Int32) (bs : Int32) (bm : Int32) (lt : Nat) (lr : Nat) (lw : Nat) (m : Nat) (wa : Int32) (lp : Int32) (xs : Int32) (mm : Int32) (y : Int32) (hm : m ≤ 6) (hx : withinI xs 0 (nI (2 ^ m - 1)) = 1) (hmm : withinI mm 0 30 = 1) (hy : withinI y 0 7 = 0) : CT E l yX10_best cX10_best 4 (some (.int)) 3 0 0 L h [(a, ob 9 [.ref tx, .ref lo, .ref no, .ref to, .ref pa, .int pe, .int un, .ref ke, .ref ik, .ref sc, .ref w, .ref bp, .ref ac, .ref br, .int bs, .int bm]), (lo, ob 1 [.ref lt, .ref lr, .ref lw, .int (nI m), .int wa, .int lp])] [.ref a, .int xs, .int mm, .int y] (qP L h (fun (_ : Unit) => [(a, ob 9 [.ref tx, .ref lo, .ref no, .ref to, .ref pa, .int pe, .int un, .ref ke, .ref ik, .ref sc, .ref w, .ref bp, .ref ac, .ref br, .int bs, .int bm]), (lo, ob 1 [.ref lt, .ref lr, .ref lw, .int (nI m), .int wa, .int lp])]) (fun _ => some (.int (-3))) (fun _ => True)) := by
  refine CT.ofV (by decide +kernel) (Nat.le_of_ble_eq_true rfl) ?_
  refine V.locals2 (lv2 := [(0, .ref a), (1, .int xs), (2, .int mm), (3, .int y)]) rfl ?_
  refine V.aload_n dX10_best_0 0 rfl ?_
  refine V.iload_n dX10_best_1 1 rfl ?_
  refine V.callVp (As := [.int xs]) (rest := []) [0, 1] (c_RL_isSet E l L _ a tx lo no to pa ke ik sc w bp ac br pe un bs bm lt lr lw m wa lp xs (by omega)) rfl (by decide) mi_X10_isSet 0 rfl rfl w_583 w_585 wp_1 rfl rfl (Nat.le_of_ble_eq_true rfl) ⟨by decide, by decide⟩ ⟨by decide, by decide⟩ dX10_best_2 (vw2 := fun _ => [(a, ob 9 [.ref tx, .ref lo, .ref no, .ref to, .ref pa, .int pe, .int un, .ref ke, .ref ik, .ref sc, .ref w, .ref bp, .ref ac, .ref br, .int bs, .int bm]), (lo, ob 1 [.ref lt, .ref lr, .ref lw, .int (nI m), .int wa, .int lp])]) (st2 := fun _ => [.int (withinI xs 0 (nI (2 ^ m - 1)))]) (fun _ => rfl) (fun _ => rfl) (fun _ => rfl) (fun _ _ => ?_)
  refine V.topc (v := 1) (hx) ?_
  refine V.if_ne (tgt := 11) dX10_best_5 (by decide) (fun _ => ?_) (fun hc => absurd hc (by decide))
  refine V.iload_n dX10_best_11 2 rfl ?_
  refine V.iconst (v := 0) dX10_best_12 (by decide) ?_
  refine V.bipush (v := 30) dX10_best_13 (by decide) ?_
  refine V.callSp (As := [.int mm, .int 0, .int 30]) (rest := []) [] (c_within E l L _ mm 0 30) rfl (by decide) mi_X10_isWithin w_267 w_268 rfl rfl (Nat.le_of_ble_eq_true rfl) ⟨by decide, by decide⟩ ⟨by decide, by decide⟩ dX10_best_15 (vw2 := fun _ => [(a, ob 9 [.ref tx, .ref lo, .ref no, .ref to, .ref pa, .int pe, .int un, .ref ke, .ref ik, .ref sc, .ref w, .ref bp, .ref ac, .ref br, .int bs, .int bm]), (lo, ob 1 [.ref lt, .ref lr, .ref lw, .int (nI m), .int wa, .int lp])]) (st2 := fun _ => [.int (withinI mm 0 30)]) (fun _ => rfl) (fun _ => rfl) (fun _ => rfl) (fun _ _ => ?_)
  refine V.topc (v := 1) (hmm) ?_
  refine V.if_eq (tgt := 31) dX10_best_18 (by decide) (fun hc => absurd hc (by decide)) (fun _ => ?_)
  refine V.iload_n dX10_best_21 3 rfl ?_
  refine V.iconst (v := 0) dX10_best_22 (by decide) ?_
  refine V.bipush (v := 7) dX10_best_23 (by decide) ?_
  refine V.callSp (As := [.int y, .int 0, .int 7]) (rest := []) [] (c_within E l L _ y 0 7) rfl (by decide) mi_X10_isWithin w_267 w_268 rfl rfl (Nat.le_of_ble_eq_true rfl) ⟨by decide, by decide⟩ ⟨by decide, by decide⟩ dX10_best_25 (vw2 := fun _ => [(a, ob 9 [.ref tx, .ref lo, .ref no, .ref to, .ref pa, .int pe, .int un, .ref ke, .ref ik, .ref sc, .ref w, .ref bp, .ref ac, .ref br, .int bs, .int bm]), (lo, ob 1 [.ref lt, .ref lr, .ref lw, .int (nI m), .int wa, .int lp])]) (st2 := fun _ => [.int (withinI y 0 7)]) (fun _ => rfl) (fun _ => rfl) (fun _ => rfl) (fun _ _ => ?_)
  refine V.topc (v := 0) (hy) ?_
  refine V.if_ne (tgt := 34) dX10_best_28 (by decide) (fun hc => absurd (by decide) hc) (fun _ => ?_)
  refine V.bipush (v := (-3)) dX10_best_31 (by decide) ?_
  exact V.iret rfl dX10_best_33 (⟨(), rfl, rfl, rfl, trivial⟩)

set_option maxHeartbeats 4000000 in
set_option maxRecDepth 100000 in
theorem c_RL_bestN (E : vEnv) (l : Launch) (L : List Nat) (h : Nat → va_E) (a : Nat) (tx : Nat) (lo : Nat) (no : Nat) (to : Nat) (pa : Nat) (ke : Nat) (ik : Nat) (sc : Nat) (w : Nat) (bp : Nat) (ac : Nat) (br : Nat) (pe : Int32) (un : Int32) (bs : Int32) (bm : Int32) (wr : Nat) (ws : Nat) (wn : Nat) (lt : Nat) (lr : Nat) (lw : Nat) (m : Nat) (wa : Int32) (lp : Int32) (ti : Nat → Int32) (r : Nat → Int32) (wf : Nat → Option Nat) (tno : Nat) (s : NS) (an : Nat → Nat) (tn : Nat → Nat) (KV : Nat → Prop) (sf : Nat → SHP) (f0 : Nat → NS) (ρ0 : Nat → Nat) (sm0 : Nat → Int32) (n0 : Int32) (F0 : Nat → Int32) (xs : Int32) (mm : Int32) (y : Int32) (hm : m ≤ 6) (hset : ∀ i, i < (fillW xs ρ0 6).1 → (fillW xs ρ0 6).2 i < m) (hD : FD L KV an tn 7) (hK : ∀ b ∈ [w, wr, ws, wn, lo, lt, lr, lw, no, tno, a, br], KV b) (hSh : ShopsAt L (fun b => KV b ∨ inF an tn 7 b) m wf sf h) (hF0 : FN E an tn 7 f0 h) (hb0 : ∀ j, j < 7 → (f0 j).2.2.2.2.2.2.2 = 0 ∨ (f0 j).2.2.2.2.2.2.2 = 1) (hbs : s.2.2.2.2.2.2.2 = 0 ∨ s.2.2.2.2.2.2.2 = 1) (hx : withinI xs 0 (nI (2 ^ m - 1)) = 1) (hmm : withinI mm 0 30 = 1) (hy : withinI y 0 7 = 1) (hres : (List.foldl (bestStep (m, sf, wa, ti, r) s (fillW xs ρ0 6).1 mm) (0, bs, bm, F0) (rowsG (fillW xs ρ0 6).1 720 (fillW xs ρ0 6).2)).1 = 0) : CT E l yX10_best cX10_best 4 (some (.int)) 8 0 0 L h [(w, ob 8 [.ref wr, .ref ws, .ref wn, .int n0]), (wr, aI E 6 (fun j => nI (ρ0 j))), (ws, aI E 6 sm0), (wn, aN E 7 (fun j => some (an j))), (lo, ob 1 [.ref lt, .ref lr, .ref lw, .int (nI m), .int wa, .int lp]), (lt, aI E 4 ti), (lr, aI E 4 r), (lw, aS E 6 wf), (no, ob 3 [.ref tno, .int s.2.1, .int s.2.2.1, .int s.2.2.2.1, .int s.2.2.2.2.1, .int s.2.2.2.2.2.1, .int s.2.2.2.2.2.2.1, .int s.2.2.2.2.2.2.2]), (tno, aI E 4 s.1), (a, ob 9 [.ref tx, .ref lo, .ref no, .ref to, .ref pa, .int pe, .int un, .ref ke, .ref ik, .ref sc, .ref w, .ref bp, .ref ac, .ref br, .int bs, .int bm]), (br, aI E 6 F0)] [.ref a, .int xs, .int mm, .int y] (qG L h (inF an tn 7) (fun (u : (Nat → va_E) × (Nat → NS) × (Nat → Nat) × (Nat → Int32)) => u.1) (fun (u : (Nat → va_E) × (Nat → NS) × (Nat → Nat) × (Nat → Int32)) => [(w, ob 8 [.ref wr, .ref ws, .ref wn, .int (nI (fillW xs ρ0 6).1)]), (wr, aI E 6 (fun j => nI (u.2.2.1 j))), (ws, aI E 6 u.2.2.2), (wn, aN E 7 (fun j => some (an j))), (lo, ob 1 [.ref lt, .ref lr, .ref lw, .int (nI m), .int wa, .int lp]), (lt, aI E 4 ti), (lr, aI E 4 r), (lw, aS E 6 wf), (no, ob 3 [.ref tno, .int s.2.1, .int s.2.2.1, .int s.2.2.2.1, .int s.2.2.2.2.1, .int s.2.2.2.2.2.1, .int s.2.2.2.2.2.2.1, .int s.2.2.2.2.2.2.2]), (tno, aI E 4 s.1), (a, ob 9 [.ref tx, .ref lo, .ref no, .ref to, .ref pa, .int pe, .int un, .ref ke, .ref ik, .ref sc, .ref w, .ref bp, .ref ac, .ref br, .int (List.foldl (bestStep (m, sf, wa, ti, r) s (fillW xs ρ0 6).1 mm) (0, bs, bm, F0) (rowsG (fillW xs ρ0 6).1 720 (fillW xs ρ0 6).2)).2.1, .int (List.foldl (bestStep (m, sf, wa, ti, r) s (fillW xs ρ0 6).1 mm) (0, bs, bm, F0) (rowsG (fillW xs ρ0 6).1 720 (fillW xs ρ0 6).2)).2.2.1]), (br, aI E 6 (List.foldl (bestStep (m, sf, wa, ti, r) s (fillW xs ρ0 6).1 mm) (0, bs, bm, F0) (rowsG (fillW xs ρ0 6).1 720 (fillW xs ρ0 6).2)).2.2.2)]) (fun u => some (.int (-1))) (fun u => FN E an tn 7 u.2.1 u.1 ∧ (∀ j, j < 7 → (u.2.1 j).2.2.2.2.2.2.2 = 0 ∨ (u.2.1 j).2.2.2.2.2.2.2 = 1))) := by
  refine CT.ofV (by decide +kernel) (Nat.le_of_ble_eq_true rfl) ?_
  refine V.locals2 (lv2 := [(0, .ref a), (1, .int xs), (2, .int mm), (3, .int y)]) rfl ?_
  refine V.aload_n dX10_best_0 0 rfl ?_
  refine V.iload_n dX10_best_1 1 rfl ?_
  refine V.callVp (As := [.int xs]) (rest := []) [10, 4] (c_RL_isSet E l L _ a tx lo no to pa ke ik sc w bp ac br pe un bs bm lt lr lw m wa lp xs (by omega)) rfl (by decide) mi_X10_isSet 10 rfl rfl w_583 w_585 wp_1 rfl rfl (Nat.le_of_ble_eq_true rfl) ⟨by decide, by decide⟩ ⟨by decide, by decide⟩ dX10_best_2 (vw2 := fun _ => [(w, ob 8 [.ref wr, .ref ws, .ref wn, .int n0]), (wr, aI E 6 (fun j => nI (ρ0 j))), (ws, aI E 6 sm0), (wn, aN E 7 (fun j => some (an j))), (lo, ob 1 [.ref lt, .ref lr, .ref lw, .int (nI m), .int wa, .int lp]), (lt, aI E 4 ti), (lr, aI E 4 r), (lw, aS E 6 wf), (no, ob 3 [.ref tno, .int s.2.1, .int s.2.2.1, .int s.2.2.2.1, .int s.2.2.2.2.1, .int s.2.2.2.2.2.1, .int s.2.2.2.2.2.2.1, .int s.2.2.2.2.2.2.2]), (tno, aI E 4 s.1), (a, ob 9 [.ref tx, .ref lo, .ref no, .ref to, .ref pa, .int pe, .int un, .ref ke, .ref ik, .ref sc, .ref w, .ref bp, .ref ac, .ref br, .int bs, .int bm]), (br, aI E 6 F0)]) (st2 := fun _ => [.int (withinI xs 0 (nI (2 ^ m - 1)))]) (fun _ => rfl) (fun _ => rfl) (fun _ => rfl) (fun _ _ => ?_)
  refine V.topc (v := 1) (hx) ?_
  refine V.if_ne (tgt := 11) dX10_best_5 (by decide) (fun _ => ?_) (fun hc => absurd hc (by decide))
  refine V.iload_n dX10_best_11 2 rfl ?_
  refine V.iconst (v := 0) dX10_best_12 (by decide) ?_
  refine V.bipush (v := 30) dX10_best_13 (by decide) ?_
  refine V.callSp (As := [.int mm, .int 0, .int 30]) (rest := []) [] (c_within E l L _ mm 0 30) rfl (by decide) mi_X10_isWithin w_267 w_268 rfl rfl (Nat.le_of_ble_eq_true rfl) ⟨by decide, by decide⟩ ⟨by decide, by decide⟩ dX10_best_15 (vw2 := fun _ => [(w, ob 8 [.ref wr, .ref ws, .ref wn, .int n0]), (wr, aI E 6 (fun j => nI (ρ0 j))), (ws, aI E 6 sm0), (wn, aN E 7 (fun j => some (an j))), (lo, ob 1 [.ref lt, .ref lr, .ref lw, .int (nI m), .int wa, .int lp]), (lt, aI E 4 ti), (lr, aI E 4 r), (lw, aS E 6 wf), (no, ob 3 [.ref tno, .int s.2.1, .int s.2.2.1, .int s.2.2.2.1, .int s.2.2.2.2.1, .int s.2.2.2.2.2.1, .int s.2.2.2.2.2.2.1, .int s.2.2.2.2.2.2.2]), (tno, aI E 4 s.1), (a, ob 9 [.ref tx, .ref lo, .ref no, .ref to, .ref pa, .int pe, .int un, .ref ke, .ref ik, .ref sc, .ref w, .ref bp, .ref ac, .ref br, .int bs, .int bm]), (br, aI E 6 F0)]) (st2 := fun _ => [.int (withinI mm 0 30)]) (fun _ => rfl) (fun _ => rfl) (fun _ => rfl) (fun _ _ => ?_)
  refine V.topc (v := 1) (hmm) ?_
  refine V.if_eq (tgt := 31) dX10_best_18 (by decide) (fun hc => absurd hc (by decide)) (fun _ => ?_)
  refine V.iload_n dX10_best_21 3 rfl ?_
  refine V.iconst (v := 0) dX10_best_22 (by decide) ?_
  refine V.bipush (v := 7) dX10_best_23 (by decide) ?_
  refine V.callSp (As := [.int y, .int 0, .int 7]) (rest := []) [] (c_within E l L _ y 0 7) rfl (by decide) mi_X10_isWithin w_267 w_268 rfl rfl (Nat.le_of_ble_eq_true rfl) ⟨by decide, by decide⟩ ⟨by decide, by decide⟩ dX10_best_25 (vw2 := fun _ => [(w, ob 8 [.ref wr, .ref ws, .ref wn, .int n0]), (wr, aI E 6 (fun j => nI (ρ0 j))), (ws, aI E 6 sm0), (wn, aN E 7 (fun j => some (an j))), (lo, ob 1 [.ref lt, .ref lr, .ref lw, .int (nI m), .int wa, .int lp]), (lt, aI E 4 ti), (lr, aI E 4 r), (lw, aS E 6 wf), (no, ob 3 [.ref tno, .int s.2.1, .int s.2.2.1, .int s.2.2.2.1, .int s.2.2.2.2.1, .int s.2.2.2.2.2.1, .int s.2.2.2.2.2.2.1, .int s.2.2.2.2.2.2.2]), (tno, aI E 4 s.1), (a, ob 9 [.ref tx, .ref lo, .ref no, .ref to, .ref pa, .int pe, .int un, .ref ke, .ref ik, .ref sc, .ref w, .ref bp, .ref ac, .ref br, .int bs, .int bm]), (br, aI E 6 F0)]) (st2 := fun _ => [.int (withinI y 0 7)]) (fun _ => rfl) (fun _ => rfl) (fun _ => rfl) (fun _ _ => ?_)
  refine V.topc (v := 1) (hy) ?_
  refine V.if_ne (tgt := 34) dX10_best_28 (by decide) (fun _ => ?_) (fun hc => absurd hc (by decide))
  refine V.aload_n dX10_best_34 0 rfl ?_
  refine V.iload_n dX10_best_35 1 rfl ?_
  refine V.iload_n dX10_best_36 2 rfl ?_
  refine V.callVg (As := [.int xs, .int mm]) (rest := []) [0, 1, 2, 3, 4, 5, 6, 7, 8, 9, 10, 11] (c_RL_findBest E l L _ a tx lo no to pa ke ik sc w bp ac br pe un bs bm wr ws wn lt lr lw m wa lp ti r wf tno s an tn KV sf f0 ρ0 sm0 n0 F0 xs mm (hm) (hset) (hD) (hK) (hSh.over (vw := [(w, ob 8 [.ref wr, .ref ws, .ref wn, .int n0]), (wr, aI E 6 (fun j => nI (ρ0 j))), (ws, aI E 6 sm0), (wn, aN E 7 (fun j => some (an j))), (lo, ob 1 [.ref lt, .ref lr, .ref lw, .int (nI m), .int wa, .int lp]), (lt, aI E 4 ti), (lr, aI E 4 r), (lw, aS E 6 wf), (no, ob 3 [.ref tno, .int s.2.1, .int s.2.2.1, .int s.2.2.2.1, .int s.2.2.2.2.1, .int s.2.2.2.2.2.1, .int s.2.2.2.2.2.2.1, .int s.2.2.2.2.2.2.2]), (tno, aI E 4 s.1), (a, ob 9 [.ref tx, .ref lo, .ref no, .ref to, .ref pa, .int pe, .int un, .ref ke, .ref ik, .ref sc, .ref w, .ref bp, .ref ac, .ref br, .int bs, .int bm]), (br, aI E 6 F0)]) (fun b hb => Or.inl (hK b hb))) (FN.over (vw := [(w, ob 8 [.ref wr, .ref ws, .ref wn, .int n0]), (wr, aI E 6 (fun j => nI (ρ0 j))), (ws, aI E 6 sm0), (wn, aN E 7 (fun j => some (an j))), (lo, ob 1 [.ref lt, .ref lr, .ref lw, .int (nI m), .int wa, .int lp]), (lt, aI E 4 ti), (lr, aI E 4 r), (lw, aS E 6 wf), (no, ob 3 [.ref tno, .int s.2.1, .int s.2.2.1, .int s.2.2.2.1, .int s.2.2.2.2.1, .int s.2.2.2.2.2.1, .int s.2.2.2.2.2.2.1, .int s.2.2.2.2.2.2.2]), (tno, aI E 4 s.1), (a, ob 9 [.ref tx, .ref lo, .ref no, .ref to, .ref pa, .int pe, .int un, .ref ke, .ref ik, .ref sc, .ref w, .ref bp, .ref ac, .ref br, .int bs, .int bm]), (br, aI E 6 F0)]) hF0 (fun b hb => hD.off (hK b hb))) (hb0) (hbs)) rfl (by decide) mi_X10_findBest 10 rfl rfl w_591 w_593 wp_3 rfl rfl (Nat.le_of_ble_eq_true rfl) ⟨by decide, by decide⟩ ⟨by decide, by decide⟩ dX10_best_37 (vw2 := fun u37 => [(w, ob 8 [.ref wr, .ref ws, .ref wn, .int (nI (fillW xs ρ0 6).1)]), (wr, aI E 6 (fun j => nI (u37.2.2.1 j))), (ws, aI E 6 u37.2.2.2), (wn, aN E 7 (fun j => some (an j))), (lo, ob 1 [.ref lt, .ref lr, .ref lw, .int (nI m), .int wa, .int lp]), (lt, aI E 4 ti), (lr, aI E 4 r), (lw, aS E 6 wf), (no, ob 3 [.ref tno, .int s.2.1, .int s.2.2.1, .int s.2.2.2.1, .int s.2.2.2.2.1, .int s.2.2.2.2.2.1, .int s.2.2.2.2.2.2.1, .int s.2.2.2.2.2.2.2]), (tno, aI E 4 s.1), (a, ob 9 [.ref tx, .ref lo, .ref no, .ref to, .ref pa, .int pe, .int un, .ref ke, .ref ik, .ref sc, .ref w, .ref bp, .ref ac, .ref br, .int (List.foldl (bestStep (m, sf, wa, ti, r) s (fillW xs ρ0 6).1 mm) (0, bs, bm, F0) (rowsG (fillW xs ρ0 6).1 720 (fillW xs ρ0 6).2)).2.1, .int (List.foldl (bestStep (m, sf, wa, ti, r) s (fillW xs ρ0 6).1 mm) (0, bs, bm, F0) (rowsG (fillW xs ρ0 6).1 720 (fillW xs ρ0 6).2)).2.2.1]), (br, aI E 6 (List.foldl (bestStep (m, sf, wa, ti, r) s (fillW xs ρ0 6).1 mm) (0, bs, bm, F0) (rowsG (fillW xs ρ0 6).1 720 (fillW xs ρ0 6).2)).2.2.2)]) (st2 := fun u37 => [.int (List.foldl (bestStep (m, sf, wa, ti, r) s (fillW xs ρ0 6).1 mm) (0, bs, bm, F0) (rowsG (fillW xs ρ0 6).1 720 (fillW xs ρ0 6).2)).1]) (fun b hb => hD.off (hK b hb)) (fun _ => rfl) (fun _ => rfl) (fun _ => rfl) (fun u37 hq_37 => ?_)
  refine V.if_ne (tgt := 45) dX10_best_40 (by decide) (fun hc => absurd (hres) hc) (fun _ => ?_)
  refine V.iconst (v := (-1)) dX10_best_43 (by decide) ?_
  exact V.iret rfl dX10_best_44 (⟨u37, rfl, rfl, rfl, hq_37.1, hq_37.2.1⟩)

set_option maxHeartbeats 4000000 in
set_option maxRecDepth 100000 in
theorem c_RL_best (E : vEnv) (l : Launch) (L : List Nat) (h : Nat → va_E) (a : Nat) (tx : Nat) (lo : Nat) (no : Nat) (to : Nat) (pa : Nat) (ke : Nat) (ik : Nat) (sc : Nat) (w : Nat) (bp : Nat) (ac : Nat) (br : Nat) (pe : Int32) (un : Int32) (bs : Int32) (bm : Int32) (wr : Nat) (ws : Nat) (wn : Nat) (lt : Nat) (lr : Nat) (lw : Nat) (m : Nat) (wa : Int32) (lp : Int32) (ti : Nat → Int32) (r : Nat → Int32) (wf : Nat → Option Nat) (tno : Nat) (s : NS) (an : Nat → Nat) (tn : Nat → Nat) (KV : Nat → Prop) (sf : Nat → SHP) (f0 : Nat → NS) (ρ0 : Nat → Nat) (sm0 : Nat → Int32) (n0 : Int32) (F0 : Nat → Int32) (xs : Int32) (mm : Int32) (wh : Nat) (hm : m ≤ 6) (hset : ∀ i, i < (fillW xs ρ0 6).1 → (fillW xs ρ0 6).2 i < m) (hD : FD L KV an tn 7) (hK : ∀ b ∈ [w, wr, ws, wn, lo, lt, lr, lw, no, tno, a, br], KV b) (hSh : ShopsAt L (fun b => KV b ∨ inF an tn 7 b) m wf sf h) (hF0 : FN E an tn 7 f0 h) (hb0 : ∀ j, j < 7 → (f0 j).2.2.2.2.2.2.2 = 0 ∨ (f0 j).2.2.2.2.2.2.2 = 1) (hbs : s.2.2.2.2.2.2.2 = 0 ∨ s.2.2.2.2.2.2.2 = 1) (hx : withinI xs 0 (nI (2 ^ m - 1)) = 1) (hmm : withinI mm 0 30 = 1) (hy : wh ≤ 7) (hres : (List.foldl (bestStep (m, sf, wa, ti, r) s (fillW xs ρ0 6).1 mm) (0, bs, bm, F0) (rowsG (fillW xs ρ0 6).1 720 (fillW xs ρ0 6).2)).1 = 1) : CT E l yX10_best cX10_best 4 (some (.int)) 8 0 0 L h [(w, ob 8 [.ref wr, .ref ws, .ref wn, .int n0]), (wr, aI E 6 (fun j => nI (ρ0 j))), (ws, aI E 6 sm0), (wn, aN E 7 (fun j => some (an j))), (lo, ob 1 [.ref lt, .ref lr, .ref lw, .int (nI m), .int wa, .int lp]), (lt, aI E 4 ti), (lr, aI E 4 r), (lw, aS E 6 wf), (no, ob 3 [.ref tno, .int s.2.1, .int s.2.2.1, .int s.2.2.2.1, .int s.2.2.2.2.1, .int s.2.2.2.2.2.1, .int s.2.2.2.2.2.2.1, .int s.2.2.2.2.2.2.2]), (tno, aI E 4 s.1), (a, ob 9 [.ref tx, .ref lo, .ref no, .ref to, .ref pa, .int pe, .int un, .ref ke, .ref ik, .ref sc, .ref w, .ref bp, .ref ac, .ref br, .int bs, .int bm]), (br, aI E 6 F0)] [.ref a, .int xs, .int mm, .int (nI wh)] (qG L h (inF an tn 7) (fun (u : (Nat → va_E) × (Nat → NS) × (Nat → Nat) × (Nat → Int32)) => u.1) (fun (u : (Nat → va_E) × (Nat → NS) × (Nat → Nat) × (Nat → Int32)) => [(w, ob 8 [.ref wr, .ref ws, .ref wn, .int (nI (fillW xs ρ0 6).1)]), (wr, aI E 6 (fun j => nI (u.2.2.1 j))), (ws, aI E 6 u.2.2.2), (wn, aN E 7 (fun j => some (an j))), (lo, ob 1 [.ref lt, .ref lr, .ref lw, .int (nI m), .int wa, .int lp]), (lt, aI E 4 ti), (lr, aI E 4 r), (lw, aS E 6 wf), (no, ob 3 [.ref tno, .int s.2.1, .int s.2.2.1, .int s.2.2.2.1, .int s.2.2.2.2.1, .int s.2.2.2.2.2.1, .int s.2.2.2.2.2.2.1, .int s.2.2.2.2.2.2.2]), (tno, aI E 4 s.1), (a, ob 9 [.ref tx, .ref lo, .ref no, .ref to, .ref pa, .int pe, .int un, .ref ke, .ref ik, .ref sc, .ref w, .ref bp, .ref ac, .ref br, .int (List.foldl (bestStep (m, sf, wa, ti, r) s (fillW xs ρ0 6).1 mm) (0, bs, bm, F0) (rowsG (fillW xs ρ0 6).1 720 (fillW xs ρ0 6).2)).2.1, .int (List.foldl (bestStep (m, sf, wa, ti, r) s (fillW xs ρ0 6).1 mm) (0, bs, bm, F0) (rowsG (fillW xs ρ0 6).1 720 (fillW xs ρ0 6).2)).2.2.1]), (br, aI E 6 (List.foldl (bestStep (m, sf, wa, ti, r) s (fillW xs ρ0 6).1 mm) (0, bs, bm, F0) (rowsG (fillW xs ρ0 6).1 720 (fillW xs ρ0 6).2)).2.2.2)]) (fun u => some (.int (bestW wh (fillW xs ρ0 6).1 (List.foldl (bestStep (m, sf, wa, ti, r) s (fillW xs ρ0 6).1 mm) (0, bs, bm, F0) (rowsG (fillW xs ρ0 6).1 720 (fillW xs ρ0 6).2))))) (fun u => FN E an tn 7 u.2.1 u.1 ∧ (∀ j, j < 7 → (u.2.1 j).2.2.2.2.2.2.2 = 0 ∨ (u.2.1 j).2.2.2.2.2.2.2 = 1))) := by
  refine CT.ofV (by decide +kernel) (Nat.le_of_ble_eq_true rfl) ?_
  refine V.locals2 (lv2 := [(0, .ref a), (1, .int xs), (2, .int mm), (3, .int (nI wh))]) rfl ?_
  refine V.aload_n dX10_best_0 0 rfl ?_
  refine V.iload_n dX10_best_1 1 rfl ?_
  refine V.callVp (As := [.int xs]) (rest := []) [10, 4] (c_RL_isSet E l L _ a tx lo no to pa ke ik sc w bp ac br pe un bs bm lt lr lw m wa lp xs (by omega)) rfl (by decide) mi_X10_isSet 10 rfl rfl w_583 w_585 wp_1 rfl rfl (Nat.le_of_ble_eq_true rfl) ⟨by decide, by decide⟩ ⟨by decide, by decide⟩ dX10_best_2 (vw2 := fun _ => [(w, ob 8 [.ref wr, .ref ws, .ref wn, .int n0]), (wr, aI E 6 (fun j => nI (ρ0 j))), (ws, aI E 6 sm0), (wn, aN E 7 (fun j => some (an j))), (lo, ob 1 [.ref lt, .ref lr, .ref lw, .int (nI m), .int wa, .int lp]), (lt, aI E 4 ti), (lr, aI E 4 r), (lw, aS E 6 wf), (no, ob 3 [.ref tno, .int s.2.1, .int s.2.2.1, .int s.2.2.2.1, .int s.2.2.2.2.1, .int s.2.2.2.2.2.1, .int s.2.2.2.2.2.2.1, .int s.2.2.2.2.2.2.2]), (tno, aI E 4 s.1), (a, ob 9 [.ref tx, .ref lo, .ref no, .ref to, .ref pa, .int pe, .int un, .ref ke, .ref ik, .ref sc, .ref w, .ref bp, .ref ac, .ref br, .int bs, .int bm]), (br, aI E 6 F0)]) (st2 := fun _ => [.int (withinI xs 0 (nI (2 ^ m - 1)))]) (fun _ => rfl) (fun _ => rfl) (fun _ => rfl) (fun _ _ => ?_)
  refine V.topc (v := 1) (hx) ?_
  refine V.if_ne (tgt := 11) dX10_best_5 (by decide) (fun _ => ?_) (fun hc => absurd hc (by decide))
  refine V.iload_n dX10_best_11 2 rfl ?_
  refine V.iconst (v := 0) dX10_best_12 (by decide) ?_
  refine V.bipush (v := 30) dX10_best_13 (by decide) ?_
  refine V.callSp (As := [.int mm, .int 0, .int 30]) (rest := []) [] (c_within E l L _ mm 0 30) rfl (by decide) mi_X10_isWithin w_267 w_268 rfl rfl (Nat.le_of_ble_eq_true rfl) ⟨by decide, by decide⟩ ⟨by decide, by decide⟩ dX10_best_15 (vw2 := fun _ => [(w, ob 8 [.ref wr, .ref ws, .ref wn, .int n0]), (wr, aI E 6 (fun j => nI (ρ0 j))), (ws, aI E 6 sm0), (wn, aN E 7 (fun j => some (an j))), (lo, ob 1 [.ref lt, .ref lr, .ref lw, .int (nI m), .int wa, .int lp]), (lt, aI E 4 ti), (lr, aI E 4 r), (lw, aS E 6 wf), (no, ob 3 [.ref tno, .int s.2.1, .int s.2.2.1, .int s.2.2.2.1, .int s.2.2.2.2.1, .int s.2.2.2.2.2.1, .int s.2.2.2.2.2.2.1, .int s.2.2.2.2.2.2.2]), (tno, aI E 4 s.1), (a, ob 9 [.ref tx, .ref lo, .ref no, .ref to, .ref pa, .int pe, .int un, .ref ke, .ref ik, .ref sc, .ref w, .ref bp, .ref ac, .ref br, .int bs, .int bm]), (br, aI E 6 F0)]) (st2 := fun _ => [.int (withinI mm 0 30)]) (fun _ => rfl) (fun _ => rfl) (fun _ => rfl) (fun _ _ => ?_)
  refine V.topc (v := 1) (hmm) ?_
  refine V.if_eq (tgt := 31) dX10_best_18 (by decide) (fun hc => absurd hc (by decide)) (fun _ => ?_)
  refine V.iload_n dX10_best_21 3 rfl ?_
  refine V.iconst (v := 0) dX10_best_22 (by decide) ?_
  refine V.bipush (v := 7) dX10_best_23 (by decide) ?_
  refine V.callSp (As := [.int (nI wh), .int 0, .int 7]) (rest := []) [] (c_within E l L _ ((nI wh)) 0 7) rfl (by decide) mi_X10_isWithin w_267 w_268 rfl rfl (Nat.le_of_ble_eq_true rfl) ⟨by decide, by decide⟩ ⟨by decide, by decide⟩ dX10_best_25 (vw2 := fun _ => [(w, ob 8 [.ref wr, .ref ws, .ref wn, .int n0]), (wr, aI E 6 (fun j => nI (ρ0 j))), (ws, aI E 6 sm0), (wn, aN E 7 (fun j => some (an j))), (lo, ob 1 [.ref lt, .ref lr, .ref lw, .int (nI m), .int wa, .int lp]), (lt, aI E 4 ti), (lr, aI E 4 r), (lw, aS E 6 wf), (no, ob 3 [.ref tno, .int s.2.1, .int s.2.2.1, .int s.2.2.2.1, .int s.2.2.2.2.1, .int s.2.2.2.2.2.1, .int s.2.2.2.2.2.2.1, .int s.2.2.2.2.2.2.2]), (tno, aI E 4 s.1), (a, ob 9 [.ref tx, .ref lo, .ref no, .ref to, .ref pa, .int pe, .int un, .ref ke, .ref ik, .ref sc, .ref w, .ref bp, .ref ac, .ref br, .int bs, .int bm]), (br, aI E 6 F0)]) (st2 := fun _ => [.int (withinI (nI wh) 0 7)]) (fun _ => rfl) (fun _ => rfl) (fun _ => rfl) (fun _ _ => ?_)
  refine V.topc (v := 1) (within_nI (m := 8) (by omega) (by omega)) ?_
  refine V.if_ne (tgt := 34) dX10_best_28 (by decide) (fun _ => ?_) (fun hc => absurd hc (by decide))
  refine V.aload_n dX10_best_34 0 rfl ?_
  refine V.iload_n dX10_best_35 1 rfl ?_
  refine V.iload_n dX10_best_36 2 rfl ?_
  have hN6 : (fillW xs ρ0 6).1 ≤ 6 := fillW_le _ _ _
  refine V.callVg (As := [.int xs, .int mm]) (rest := []) [0, 1, 2, 3, 4, 5, 6, 7, 8, 9, 10, 11] (c_RL_findBest E l L _ a tx lo no to pa ke ik sc w bp ac br pe un bs bm wr ws wn lt lr lw m wa lp ti r wf tno s an tn KV sf f0 ρ0 sm0 n0 F0 xs mm (hm) (hset) (hD) (hK) (hSh.over (vw := [(w, ob 8 [.ref wr, .ref ws, .ref wn, .int n0]), (wr, aI E 6 (fun j => nI (ρ0 j))), (ws, aI E 6 sm0), (wn, aN E 7 (fun j => some (an j))), (lo, ob 1 [.ref lt, .ref lr, .ref lw, .int (nI m), .int wa, .int lp]), (lt, aI E 4 ti), (lr, aI E 4 r), (lw, aS E 6 wf), (no, ob 3 [.ref tno, .int s.2.1, .int s.2.2.1, .int s.2.2.2.1, .int s.2.2.2.2.1, .int s.2.2.2.2.2.1, .int s.2.2.2.2.2.2.1, .int s.2.2.2.2.2.2.2]), (tno, aI E 4 s.1), (a, ob 9 [.ref tx, .ref lo, .ref no, .ref to, .ref pa, .int pe, .int un, .ref ke, .ref ik, .ref sc, .ref w, .ref bp, .ref ac, .ref br, .int bs, .int bm]), (br, aI E 6 F0)]) (fun b hb => Or.inl (hK b hb))) (FN.over (vw := [(w, ob 8 [.ref wr, .ref ws, .ref wn, .int n0]), (wr, aI E 6 (fun j => nI (ρ0 j))), (ws, aI E 6 sm0), (wn, aN E 7 (fun j => some (an j))), (lo, ob 1 [.ref lt, .ref lr, .ref lw, .int (nI m), .int wa, .int lp]), (lt, aI E 4 ti), (lr, aI E 4 r), (lw, aS E 6 wf), (no, ob 3 [.ref tno, .int s.2.1, .int s.2.2.1, .int s.2.2.2.1, .int s.2.2.2.2.1, .int s.2.2.2.2.2.1, .int s.2.2.2.2.2.2.1, .int s.2.2.2.2.2.2.2]), (tno, aI E 4 s.1), (a, ob 9 [.ref tx, .ref lo, .ref no, .ref to, .ref pa, .int pe, .int un, .ref ke, .ref ik, .ref sc, .ref w, .ref bp, .ref ac, .ref br, .int bs, .int bm]), (br, aI E 6 F0)]) hF0 (fun b hb => hD.off (hK b hb))) (hb0) (hbs)) rfl (by decide) mi_X10_findBest 10 rfl rfl w_591 w_593 wp_3 rfl rfl (Nat.le_of_ble_eq_true rfl) ⟨by decide, by decide⟩ ⟨by decide, by decide⟩ dX10_best_37 (vw2 := fun u37 => [(w, ob 8 [.ref wr, .ref ws, .ref wn, .int (nI (fillW xs ρ0 6).1)]), (wr, aI E 6 (fun j => nI (u37.2.2.1 j))), (ws, aI E 6 u37.2.2.2), (wn, aN E 7 (fun j => some (an j))), (lo, ob 1 [.ref lt, .ref lr, .ref lw, .int (nI m), .int wa, .int lp]), (lt, aI E 4 ti), (lr, aI E 4 r), (lw, aS E 6 wf), (no, ob 3 [.ref tno, .int s.2.1, .int s.2.2.1, .int s.2.2.2.1, .int s.2.2.2.2.1, .int s.2.2.2.2.2.1, .int s.2.2.2.2.2.2.1, .int s.2.2.2.2.2.2.2]), (tno, aI E 4 s.1), (a, ob 9 [.ref tx, .ref lo, .ref no, .ref to, .ref pa, .int pe, .int un, .ref ke, .ref ik, .ref sc, .ref w, .ref bp, .ref ac, .ref br, .int (List.foldl (bestStep (m, sf, wa, ti, r) s (fillW xs ρ0 6).1 mm) (0, bs, bm, F0) (rowsG (fillW xs ρ0 6).1 720 (fillW xs ρ0 6).2)).2.1, .int (List.foldl (bestStep (m, sf, wa, ti, r) s (fillW xs ρ0 6).1 mm) (0, bs, bm, F0) (rowsG (fillW xs ρ0 6).1 720 (fillW xs ρ0 6).2)).2.2.1]), (br, aI E 6 (List.foldl (bestStep (m, sf, wa, ti, r) s (fillW xs ρ0 6).1 mm) (0, bs, bm, F0) (rowsG (fillW xs ρ0 6).1 720 (fillW xs ρ0 6).2)).2.2.2)]) (st2 := fun u37 => [.int (List.foldl (bestStep (m, sf, wa, ti, r) s (fillW xs ρ0 6).1 mm) (0, bs, bm, F0) (rowsG (fillW xs ρ0 6).1 720 (fillW xs ρ0 6).2)).1]) (fun b hb => hD.off (hK b hb)) (fun _ => rfl) (fun _ => rfl) (fun _ => rfl) (fun u37 hq_37 => ?_)
  refine V.if_ne (tgt := 45) dX10_best_40 (by decide) (fun _ => ?_) (fun hc => absurd hc (by rw [hres]; decide))
  refine V.iload_n dX10_best_45 3 rfl ?_
  rcases (show wh = 0 ∨ wh = 1 ∨ wh = 2 ∨ wh = 3 ∨ wh = 4 ∨ wh = 5 ∨ wh = 6 ∨ wh = 7 by omega) with rfl | rfl | rfl | rfl | rfl | rfl | rfl | rfl
  · skip
    refine V.topc (v := 0) (rfl) ?_
    refine V.lookup (tgt := 72) (off := 26) dX10_best_46 (by decide) (by decide) (by decide) ?_
    refine V.aload_n dX10_best_72 0 rfl ?_
    refine V.getf 10 14 rfl fa_X10_207_9 rfl dX10_best_73 ?_
    exact V.iret rfl dX10_best_76 (⟨u37, rfl, rfl, rfl, hq_37.1, hq_37.2.1⟩)
  · skip
    refine V.topc (v := 1) (rfl) ?_
    refine V.lookup (tgt := 77) (off := 31) dX10_best_46 (by decide) (by decide) (by decide) ?_
    refine V.aload_n dX10_best_77 0 rfl ?_
    refine V.getf 10 15 rfl fa_X10_210_9 rfl dX10_best_78 ?_
    exact V.iret rfl dX10_best_81 (⟨u37, rfl, rfl, rfl, hq_37.1, hq_37.2.1⟩)
  · skip
    refine V.topc (v := 2) (rfl) ?_
    refine V.lookup (tgt := 82) (off := 36) dX10_best_46 (by decide) (by decide) (by decide) ?_
    refine V.iload_n dX10_best_82 3 rfl ?_
    refine V.iconst (v := 2) dX10_best_83 (by decide) ?_
    refine V.isub dX10_best_84 ?_
    refine V.topc (v := 0) (by decide) ?_
    refine V.aload_n dX10_best_85 0 rfl ?_
    refine V.getf 10 10 rfl fa_X10_54_9 rfl dX10_best_86 ?_
    refine V.getf 0 3 rfl fa_X10_213_8 rfl dX10_best_89 ?_
    refine V.icmp_ge (tgt := 106) dX10_best_92 (by decide) (fun c1_92 => ?_) (fun c1_92 => ?_)
    · skip
      have h92 : ¬ 0 < (fillW xs ρ0 6).1 := Nat.not_lt.mpr ((nI_leI (b := 0) (by omega) (by omega)).mp c1_92)
      refine V.iconst (v := (-1)) dX10_best_106 (by decide) ?_
      exact V.iret rfl dX10_best_107 (⟨u37, by unfold bestW; rw [if_neg (by decide), if_neg (by decide), if_neg h92], rfl, rfl, hq_37.1, hq_37.2.1⟩)
    · skip
      have h92 : 0 < (fillW xs ρ0 6).1 := Nat.lt_of_not_le (fun hh => c1_92 (nI_le (b := 0) hh (by omega)))
      refine V.aload_n dX10_best_95 0 rfl ?_
      refine V.getf 10 13 rfl fa_X10_71_9 rfl dX10_best_96 ?_
      refine V.iload_n dX10_best_99 3 rfl ?_
      refine V.iconst (v := 2) dX10_best_100 (by decide) ?_
      refine V.isub dX10_best_101 ?_
      refine V.topc (v := 0) (by decide) ?_
      refine V.iald 11 rfl (vin rfl) dX10_best_102 ?_
      refine V.topc (v := ((List.foldl (bestStep (m, sf, wa, ti, r) s (fillW xs ρ0 6).1 mm) (0, bs, bm, F0) (rowsG (fillW xs ρ0 6).1 720 (fillW xs ρ0 6).2)).2.2.2 0)) (rfl) ?_
      refine V.goto (tgt := 107) dX10_best_103 (by decide) ?_
      exact V.iret rfl dX10_best_107 (⟨u37, by unfold bestW; rw [if_neg (by decide), if_neg (by decide), if_pos h92], rfl, rfl, hq_37.1, hq_37.2.1⟩)
  · skip
    refine V.topc (v := 3) (rfl) ?_
    refine V.lookup (tgt := 82) (off := 36) dX10_best_46 (by decide) (by decide) (by decide) ?_
    refine V.iload_n dX10_best_82 3 rfl ?_
    refine V.iconst (v := 2) dX10_best_83 (by decide) ?_
    refine V.isub dX10_best_84 ?_
    refine V.topc (v := 1) (by decide) ?_
    refine V.aload_n dX10_best_85 0 rfl ?_
    refine V.getf 10 10 rfl fa_X10_54_9 rfl dX10_best_86 ?_
    refine V.getf 0 3 rfl fa_X10_213_8 rfl dX10_best_89 ?_
    refine V.icmp_ge (tgt := 106) dX10_best_92 (by decide) (fun c2_92 => ?_) (fun c2_92 => ?_)
    · skip
      have h92 : ¬ 1 < (fillW xs ρ0 6).1 := Nat.not_lt.mpr ((nI_leI (b := 1) (by omega) (by omega)).mp c2_92)
      refine V.iconst (v := (-1)) dX10_best_106 (by decide) ?_
      exact V.iret rfl dX10_best_107 (⟨u37, by unfold bestW; rw [if_neg (by decide), if_neg (by decide), if_neg h92], rfl, rfl, hq_37.1, hq_37.2.1⟩)
    · skip
      have h92 : 1 < (fillW xs ρ0 6).1 := Nat.lt_of_not_le (fun hh => c2_92 (nI_le (b := 1) hh (by omega)))
      refine V.aload_n dX10_best_95 0 rfl ?_
      refine V.getf 10 13 rfl fa_X10_71_9 rfl dX10_best_96 ?_
      refine V.iload_n dX10_best_99 3 rfl ?_
      refine V.iconst (v := 2) dX10_best_100 (by decide) ?_
      refine V.isub dX10_best_101 ?_
      refine V.topc (v := 1) (by decide) ?_
      refine V.iald 11 rfl (vin rfl) dX10_best_102 ?_
      refine V.topc (v := ((List.foldl (bestStep (m, sf, wa, ti, r) s (fillW xs ρ0 6).1 mm) (0, bs, bm, F0) (rowsG (fillW xs ρ0 6).1 720 (fillW xs ρ0 6).2)).2.2.2 1)) (rfl) ?_
      refine V.goto (tgt := 107) dX10_best_103 (by decide) ?_
      exact V.iret rfl dX10_best_107 (⟨u37, by unfold bestW; rw [if_neg (by decide), if_neg (by decide), if_pos h92], rfl, rfl, hq_37.1, hq_37.2.1⟩)
  · skip
    refine V.topc (v := 4) (rfl) ?_
    refine V.lookup (tgt := 82) (off := 36) dX10_best_46 (by decide) (by decide) (by decide) ?_
    refine V.iload_n dX10_best_82 3 rfl ?_
    refine V.iconst (v := 2) dX10_best_83 (by decide) ?_
    refine V.isub dX10_best_84 ?_
    refine V.topc (v := 2) (by decide) ?_
    refine V.aload_n dX10_best_85 0 rfl ?_
    refine V.getf 10 10 rfl fa_X10_54_9 rfl dX10_best_86 ?_
    refine V.getf 0 3 rfl fa_X10_213_8 rfl dX10_best_89 ?_
    refine V.icmp_ge (tgt := 106) dX10_best_92 (by decide) (fun c3_92 => ?_) (fun c3_92 => ?_)
    · skip
      have h92 : ¬ 2 < (fillW xs ρ0 6).1 := Nat.not_lt.mpr ((nI_leI (b := 2) (by omega) (by omega)).mp c3_92)
      refine V.iconst (v := (-1)) dX10_best_106 (by decide) ?_
      exact V.iret rfl dX10_best_107 (⟨u37, by unfold bestW; rw [if_neg (by decide), if_neg (by decide), if_neg h92], rfl, rfl, hq_37.1, hq_37.2.1⟩)
    · skip
      have h92 : 2 < (fillW xs ρ0 6).1 := Nat.lt_of_not_le (fun hh => c3_92 (nI_le (b := 2) hh (by omega)))
      refine V.aload_n dX10_best_95 0 rfl ?_
      refine V.getf 10 13 rfl fa_X10_71_9 rfl dX10_best_96 ?_
      refine V.iload_n dX10_best_99 3 rfl ?_
      refine V.iconst (v := 2) dX10_best_100 (by decide) ?_
      refine V.isub dX10_best_101 ?_
      refine V.topc (v := 2) (by decide) ?_
      refine V.iald 11 rfl (vin rfl) dX10_best_102 ?_
      refine V.topc (v := ((List.foldl (bestStep (m, sf, wa, ti, r) s (fillW xs ρ0 6).1 mm) (0, bs, bm, F0) (rowsG (fillW xs ρ0 6).1 720 (fillW xs ρ0 6).2)).2.2.2 2)) (rfl) ?_
      refine V.goto (tgt := 107) dX10_best_103 (by decide) ?_
      exact V.iret rfl dX10_best_107 (⟨u37, by unfold bestW; rw [if_neg (by decide), if_neg (by decide), if_pos h92], rfl, rfl, hq_37.1, hq_37.2.1⟩)
  · skip
    refine V.topc (v := 5) (rfl) ?_
    refine V.lookup (tgt := 82) (off := 36) dX10_best_46 (by decide) (by decide) (by decide) ?_
    refine V.iload_n dX10_best_82 3 rfl ?_
    refine V.iconst (v := 2) dX10_best_83 (by decide) ?_
    refine V.isub dX10_best_84 ?_
    refine V.topc (v := 3) (by decide) ?_
    refine V.aload_n dX10_best_85 0 rfl ?_
    refine V.getf 10 10 rfl fa_X10_54_9 rfl dX10_best_86 ?_
    refine V.getf 0 3 rfl fa_X10_213_8 rfl dX10_best_89 ?_
    refine V.icmp_ge (tgt := 106) dX10_best_92 (by decide) (fun c4_92 => ?_) (fun c4_92 => ?_)
    · skip
      have h92 : ¬ 3 < (fillW xs ρ0 6).1 := Nat.not_lt.mpr ((nI_leI (b := 3) (by omega) (by omega)).mp c4_92)
      refine V.iconst (v := (-1)) dX10_best_106 (by decide) ?_
      exact V.iret rfl dX10_best_107 (⟨u37, by unfold bestW; rw [if_neg (by decide), if_neg (by decide), if_neg h92], rfl, rfl, hq_37.1, hq_37.2.1⟩)
    · skip
      have h92 : 3 < (fillW xs ρ0 6).1 := Nat.lt_of_not_le (fun hh => c4_92 (nI_le (b := 3) hh (by omega)))
      refine V.aload_n dX10_best_95 0 rfl ?_
      refine V.getf 10 13 rfl fa_X10_71_9 rfl dX10_best_96 ?_
      refine V.iload_n dX10_best_99 3 rfl ?_
      refine V.iconst (v := 2) dX10_best_100 (by decide) ?_
      refine V.isub dX10_best_101 ?_
      refine V.topc (v := 3) (by decide) ?_
      refine V.iald 11 rfl (vin rfl) dX10_best_102 ?_
      refine V.topc (v := ((List.foldl (bestStep (m, sf, wa, ti, r) s (fillW xs ρ0 6).1 mm) (0, bs, bm, F0) (rowsG (fillW xs ρ0 6).1 720 (fillW xs ρ0 6).2)).2.2.2 3)) (rfl) ?_
      refine V.goto (tgt := 107) dX10_best_103 (by decide) ?_
      exact V.iret rfl dX10_best_107 (⟨u37, by unfold bestW; rw [if_neg (by decide), if_neg (by decide), if_pos h92], rfl, rfl, hq_37.1, hq_37.2.1⟩)
  · skip
    refine V.topc (v := 6) (rfl) ?_
    refine V.lookup (tgt := 82) (off := 36) dX10_best_46 (by decide) (by decide) (by decide) ?_
    refine V.iload_n dX10_best_82 3 rfl ?_
    refine V.iconst (v := 2) dX10_best_83 (by decide) ?_
    refine V.isub dX10_best_84 ?_
    refine V.topc (v := 4) (by decide) ?_
    refine V.aload_n dX10_best_85 0 rfl ?_
    refine V.getf 10 10 rfl fa_X10_54_9 rfl dX10_best_86 ?_
    refine V.getf 0 3 rfl fa_X10_213_8 rfl dX10_best_89 ?_
    refine V.icmp_ge (tgt := 106) dX10_best_92 (by decide) (fun c5_92 => ?_) (fun c5_92 => ?_)
    · skip
      have h92 : ¬ 4 < (fillW xs ρ0 6).1 := Nat.not_lt.mpr ((nI_leI (b := 4) (by omega) (by omega)).mp c5_92)
      refine V.iconst (v := (-1)) dX10_best_106 (by decide) ?_
      exact V.iret rfl dX10_best_107 (⟨u37, by unfold bestW; rw [if_neg (by decide), if_neg (by decide), if_neg h92], rfl, rfl, hq_37.1, hq_37.2.1⟩)
    · skip
      have h92 : 4 < (fillW xs ρ0 6).1 := Nat.lt_of_not_le (fun hh => c5_92 (nI_le (b := 4) hh (by omega)))
      refine V.aload_n dX10_best_95 0 rfl ?_
      refine V.getf 10 13 rfl fa_X10_71_9 rfl dX10_best_96 ?_
      refine V.iload_n dX10_best_99 3 rfl ?_
      refine V.iconst (v := 2) dX10_best_100 (by decide) ?_
      refine V.isub dX10_best_101 ?_
      refine V.topc (v := 4) (by decide) ?_
      refine V.iald 11 rfl (vin rfl) dX10_best_102 ?_
      refine V.topc (v := ((List.foldl (bestStep (m, sf, wa, ti, r) s (fillW xs ρ0 6).1 mm) (0, bs, bm, F0) (rowsG (fillW xs ρ0 6).1 720 (fillW xs ρ0 6).2)).2.2.2 4)) (rfl) ?_
      refine V.goto (tgt := 107) dX10_best_103 (by decide) ?_
      exact V.iret rfl dX10_best_107 (⟨u37, by unfold bestW; rw [if_neg (by decide), if_neg (by decide), if_pos h92], rfl, rfl, hq_37.1, hq_37.2.1⟩)
  · skip
    refine V.topc (v := 7) (rfl) ?_
    refine V.lookup (tgt := 82) (off := 36) dX10_best_46 (by decide) (by decide) (by decide) ?_
    refine V.iload_n dX10_best_82 3 rfl ?_
    refine V.iconst (v := 2) dX10_best_83 (by decide) ?_
    refine V.isub dX10_best_84 ?_
    refine V.topc (v := 5) (by decide) ?_
    refine V.aload_n dX10_best_85 0 rfl ?_
    refine V.getf 10 10 rfl fa_X10_54_9 rfl dX10_best_86 ?_
    refine V.getf 0 3 rfl fa_X10_213_8 rfl dX10_best_89 ?_
    refine V.icmp_ge (tgt := 106) dX10_best_92 (by decide) (fun c6_92 => ?_) (fun c6_92 => ?_)
    · skip
      have h92 : ¬ 5 < (fillW xs ρ0 6).1 := Nat.not_lt.mpr ((nI_leI (b := 5) (by omega) (by omega)).mp c6_92)
      refine V.iconst (v := (-1)) dX10_best_106 (by decide) ?_
      exact V.iret rfl dX10_best_107 (⟨u37, by unfold bestW; rw [if_neg (by decide), if_neg (by decide), if_neg h92], rfl, rfl, hq_37.1, hq_37.2.1⟩)
    · skip
      have h92 : 5 < (fillW xs ρ0 6).1 := Nat.lt_of_not_le (fun hh => c6_92 (nI_le (b := 5) hh (by omega)))
      refine V.aload_n dX10_best_95 0 rfl ?_
      refine V.getf 10 13 rfl fa_X10_71_9 rfl dX10_best_96 ?_
      refine V.iload_n dX10_best_99 3 rfl ?_
      refine V.iconst (v := 2) dX10_best_100 (by decide) ?_
      refine V.isub dX10_best_101 ?_
      refine V.topc (v := 5) (by decide) ?_
      refine V.iald 11 rfl (vin rfl) dX10_best_102 ?_
      refine V.topc (v := ((List.foldl (bestStep (m, sf, wa, ti, r) s (fillW xs ρ0 6).1 mm) (0, bs, bm, F0) (rowsG (fillW xs ρ0 6).1 720 (fillW xs ρ0 6).2)).2.2.2 5)) (rfl) ?_
      refine V.goto (tgt := 107) dX10_best_103 (by decide) ?_
      exact V.iret rfl dX10_best_107 (⟨u37, by unfold bestW; rw [if_neg (by decide), if_neg (by decide), if_pos h92], rfl, rfl, hq_37.1, hq_37.2.1⟩)

set_option maxHeartbeats 4000000 in
set_option maxRecDepth 100000 in
theorem c_RL_byLotU (E : vEnv) (l : Launch) (L : List Nat) (h : Nat → va_E) (a : Nat) (tx : Nat) (lo : Nat) (no : Nat) (to : Nat) (pa : Nat) (ke : Nat) (ik : Nat) (sc : Nat) (w : Nat) (bp : Nat) (ac : Nat) (br : Nat) (pe : Int32) (un : Int32) (bs : Int32) (bm : Int32) (lt : Nat) (lr : Nat) (lw : Nat) (m : Nat) (wa : Int32) (lp : Int32) (x : Int32) (mm : Int32) (y : Int32) (hx : withinI x 0 (nI m - 1) = 0) : CT E l yX10_byLot cX10_byLot 8 (some (.int)) 2 0 0 L h [(a, ob 9 [.ref tx, .ref lo, .ref no, .ref to, .ref pa, .int pe, .int un, .ref ke, .ref ik, .ref sc, .ref w, .ref bp, .ref ac, .ref br, .int bs, .int bm]), (lo, ob 1 [.ref lt, .ref lr, .ref lw, .int (nI m), .int wa, .int lp])] [.ref a, .int x, .int mm, .int y] (qP L h (fun (_ : Unit) => [(a, ob 9 [.ref tx, .ref lo, .ref no, .ref to, .ref pa, .int pe, .int un, .ref ke, .ref ik, .ref sc, .ref w, .ref bp, .ref ac, .ref br, .int bs, .int bm]), (lo, ob 1 [.ref lt, .ref lr, .ref lw, .int (nI m), .int wa, .int lp])]) (fun _ => some (.int (-2))) (fun _ => True)) := by
  refine CT.ofV (by decide +kernel) (Nat.le_of_ble_eq_true rfl) ?_
  refine V.locals2 (lv2 := [(0, .ref a), (1, .int x), (2, .int mm), (3, .int y)]) rfl ?_
  refine V.aload_n dX10_byLot_0 0 rfl ?_
  refine V.getf 0 1 rfl fa_X10_19_9 rfl dX10_byLot_1 ?_
  refine V.iload_n dX10_byLot_4 1 rfl ?_
  refine V.callVp (As := [.int x]) (rest := []) [1] (c_Lane_shopOfN E l L _ lo lt lr lw m wa lp x (hx)) rfl (by decide) mi_X1_shopOf 1 rfl rfl w_449 w_450 w_451 rfl rfl (Nat.le_of_ble_eq_true rfl) ⟨by decide, by decide⟩ ⟨by decide, by decide⟩ dX10_byLot_5 (vw2 := fun _ => [(a, ob 9 [.ref tx, .ref lo, .ref no, .ref to, .ref pa, .int pe, .int un, .ref ke, .ref ik, .ref sc, .ref w, .ref bp, .ref ac, .ref br, .int bs, .int bm]), (lo, ob 1 [.ref lt, .ref lr, .ref lw, .int (nI m), .int wa, .int lp])]) (st2 := fun _ => [.null]) (fun _ => rfl) (fun _ => rfl) (fun _ => rfl) (fun _ _ => ?_)
  refine V.ifnonnullN dX10_byLot_8 ?_
  refine V.bipush (v := (-2)) dX10_byLot_11 (by decide) ?_
  exact V.iret rfl dX10_byLot_13 (⟨(), rfl, rfl, rfl, trivial⟩)

set_option maxHeartbeats 4000000 in
set_option maxRecDepth 100000 in
theorem c_RL_byLotO1 (E : vEnv) (l : Launch) (L : List Nat) (h : Nat → va_E) (a : Nat) (tx : Nat) (lo : Nat) (no : Nat) (to : Nat) (pa : Nat) (ke : Nat) (ik : Nat) (sc : Nat) (w : Nat) (bp : Nat) (ac : Nat) (br : Nat) (pe : Int32) (un : Int32) (bs : Int32) (bm : Int32) (lt : Nat) (lr : Nat) (lw : Nat) (m : Nat) (wa : Int32) (lp : Int32) (wf : Nat → Option Nat) (k : Nat) (q : Nat) (mm : Int32) (y : Int32) (hkm : k < m) (hm : m ≤ 6) (hq : wf k = some q) (hmm : withinI mm 0 30 = 0) : CT E l yX10_byLot cX10_byLot 8 (some (.int)) 2 0 0 L h [(a, ob 9 [.ref tx, .ref lo, .ref no, .ref to, .ref pa, .int pe, .int un, .ref ke, .ref ik, .ref sc, .ref w, .ref bp, .ref ac, .ref br, .int bs, .int bm]), (lo, ob 1 [.ref lt, .ref lr, .ref lw, .int (nI m), .int wa, .int lp]), (lw, aS E 6 wf)] [.ref a, .int (nI k), .int mm, .int y] (qP L h (fun (_ : Unit) => [(a, ob 9 [.ref tx, .ref lo, .ref no, .ref to, .ref pa, .int pe, .int un, .ref ke, .ref ik, .ref sc, .ref w, .ref bp, .ref ac, .ref br, .int bs, .int bm]), (lo, ob 1 [.ref lt, .ref lr, .ref lw, .int (nI m), .int wa, .int lp]), (lw, aS E 6 wf)]) (fun _ => some (.int (-3))) (fun _ => True)) := by
  refine CT.ofV (by decide +kernel) (Nat.le_of_ble_eq_true rfl) ?_
  refine V.locals2 (lv2 := [(0, .ref a), (1, .int (nI k)), (2, .int mm), (3, .int y)]) rfl ?_
  refine V.aload_n dX10_byLot_0 0 rfl ?_
  refine V.getf 0 1 rfl fa_X10_19_9 rfl dX10_byLot_1 ?_
  refine V.iload_n dX10_byLot_4 1 rfl ?_
  refine V.callVp (As := [.int (nI k)]) (rest := []) [1, 2] (c_Lane_shopOf E l L _ lo lt lr lw m wa lp wf k q (hkm) (hm) (hq)) rfl (by decide) mi_X1_shopOf 1 rfl rfl w_449 w_450 w_451 rfl rfl (Nat.le_of_ble_eq_true rfl) ⟨by decide, by decide⟩ ⟨by decide, by decide⟩ dX10_byLot_5 (vw2 := fun _ => [(a, ob 9 [.ref tx, .ref lo, .ref no, .ref to, .ref pa, .int pe, .int un, .ref ke, .ref ik, .ref sc, .ref w, .ref bp, .ref ac, .ref br, .int bs, .int bm]), (lo, ob 1 [.ref lt, .ref lr, .ref lw, .int (nI m), .int wa, .int lp]), (lw, aS E 6 wf)]) (st2 := fun _ => [.ref q]) (fun _ => rfl) (fun _ => rfl) (fun _ => rfl) (fun _ _ => ?_)
  refine V.ifnonnull (tgt := 14) dX10_byLot_8 (by decide) ?_
  refine V.iload_n dX10_byLot_14 2 rfl ?_
  refine V.iconst (v := 0) dX10_byLot_15 (by decide) ?_
  refine V.bipush (v := 30) dX10_byLot_16 (by decide) ?_
  refine V.callSp (As := [.int mm, .int 0, .int 30]) (rest := []) [] (c_within E l L _ mm 0 30) rfl (by decide) mi_X10_isWithin w_267 w_268 rfl rfl (Nat.le_of_ble_eq_true rfl) ⟨by decide, by decide⟩ ⟨by decide, by decide⟩ dX10_byLot_18 (vw2 := fun _ => [(a, ob 9 [.ref tx, .ref lo, .ref no, .ref to, .ref pa, .int pe, .int un, .ref ke, .ref ik, .ref sc, .ref w, .ref bp, .ref ac, .ref br, .int bs, .int bm]), (lo, ob 1 [.ref lt, .ref lr, .ref lw, .int (nI m), .int wa, .int lp]), (lw, aS E 6 wf)]) (st2 := fun _ => [.int (withinI mm 0 30)]) (fun _ => rfl) (fun _ => rfl) (fun _ => rfl) (fun _ _ => ?_)
  refine V.topc (v := 0) (hmm) ?_
  refine V.if_eq (tgt := 33) dX10_byLot_21 (by decide) (fun _ => ?_) (fun hc => absurd (by decide) hc)
  refine V.bipush (v := (-3)) dX10_byLot_33 (by decide) ?_
  exact V.iret rfl dX10_byLot_35 (⟨(), rfl, rfl, rfl, trivial⟩)

set_option maxHeartbeats 4000000 in
set_option maxRecDepth 100000 in
theorem c_RL_byLotO2 (E : vEnv) (l : Launch) (L : List Nat) (h : Nat → va_E) (a : Nat) (tx : Nat) (lo : Nat) (no : Nat) (to : Nat) (pa : Nat) (ke : Nat) (ik : Nat) (sc : Nat) (w : Nat) (bp : Nat) (ac : Nat) (br : Nat) (pe : Int32) (un : Int32) (bs : Int32) (bm : Int32) (lt : Nat) (lr : Nat) (lw : Nat) (m : Nat) (wa : Int32) (lp : Int32) (wf : Nat → Option Nat) (k : Nat) (q : Nat) (mm : Int32) (y : Int32) (hkm : k < m) (hm : m ≤ 6) (hq : wf k = some q) (hmm : withinI mm 0 30 = 1) (hy : withinI y 0 1 = 0) : CT E l yX10_byLot cX10_byLot 8 (some (.int)) 2 0 0 L h [(a, ob 9 [.ref tx, .ref lo, .ref no, .ref to, .ref pa, .int pe, .int un, .ref ke, .ref ik, .ref sc, .ref w, .ref bp, .ref ac, .ref br, .int bs, .int bm]), (lo, ob 1 [.ref lt, .ref lr, .ref lw, .int (nI m), .int wa, .int lp]), (lw, aS E 6 wf)] [.ref a, .int (nI k), .int mm, .int y] (qP L h (fun (_ : Unit) => [(a, ob 9 [.ref tx, .ref lo, .ref no, .ref to, .ref pa, .int pe, .int un, .ref ke, .ref ik, .ref sc, .ref w, .ref bp, .ref ac, .ref br, .int bs, .int bm]), (lo, ob 1 [.ref lt, .ref lr, .ref lw, .int (nI m), .int wa, .int lp]), (lw, aS E 6 wf)]) (fun _ => some (.int (-3))) (fun _ => True)) := by
  refine CT.ofV (by decide +kernel) (Nat.le_of_ble_eq_true rfl) ?_
  refine V.locals2 (lv2 := [(0, .ref a), (1, .int (nI k)), (2, .int mm), (3, .int y)]) rfl ?_
  refine V.aload_n dX10_byLot_0 0 rfl ?_
  refine V.getf 0 1 rfl fa_X10_19_9 rfl dX10_byLot_1 ?_
  refine V.iload_n dX10_byLot_4 1 rfl ?_
  refine V.callVp (As := [.int (nI k)]) (rest := []) [1, 2] (c_Lane_shopOf E l L _ lo lt lr lw m wa lp wf k q (hkm) (hm) (hq)) rfl (by decide) mi_X1_shopOf 1 rfl rfl w_449 w_450 w_451 rfl rfl (Nat.le_of_ble_eq_true rfl) ⟨by decide, by decide⟩ ⟨by decide, by decide⟩ dX10_byLot_5 (vw2 := fun _ => [(a, ob 9 [.ref tx, .ref lo, .ref no, .ref to, .ref pa, .int pe, .int un, .ref ke, .ref ik, .ref sc, .ref w, .ref bp, .ref ac, .ref br, .int bs, .int bm]), (lo, ob 1 [.ref lt, .ref lr, .ref lw, .int (nI m), .int wa, .int lp]), (lw, aS E 6 wf)]) (st2 := fun _ => [.ref q]) (fun _ => rfl) (fun _ => rfl) (fun _ => rfl) (fun _ _ => ?_)
  refine V.ifnonnull (tgt := 14) dX10_byLot_8 (by decide) ?_
  refine V.iload_n dX10_byLot_14 2 rfl ?_
  refine V.iconst (v := 0) dX10_byLot_15 (by decide) ?_
  refine V.bipush (v := 30) dX10_byLot_16 (by decide) ?_
  refine V.callSp (As := [.int mm, .int 0, .int 30]) (rest := []) [] (c_within E l L _ mm 0 30) rfl (by decide) mi_X10_isWithin w_267 w_268 rfl rfl (Nat.le_of_ble_eq_true rfl) ⟨by decide, by decide⟩ ⟨by decide, by decide⟩ dX10_byLot_18 (vw2 := fun _ => [(a, ob 9 [.ref tx, .ref lo, .ref no, .ref to, .ref pa, .int pe, .int un, .ref ke, .ref ik, .ref sc, .ref w, .ref bp, .ref ac, .ref br, .int bs, .int bm]), (lo, ob 1 [.ref lt, .ref lr, .ref lw, .int (nI m), .int wa, .int lp]), (lw, aS E 6 wf)]) (st2 := fun _ => [.int (withinI mm 0 30)]) (fun _ => rfl) (fun _ => rfl) (fun _ => rfl) (fun _ _ => ?_)
  refine V.topc (v := 1) (hmm) ?_
  refine V.if_eq (tgt := 33) dX10_byLot_21 (by decide) (fun hc => absurd hc (by decide)) (fun _ => ?_)
  refine V.iload_n dX10_byLot_24 3 rfl ?_
  refine V.iconst (v := 0) dX10_byLot_25 (by decide) ?_
  refine V.iconst (v := 1) dX10_byLot_26 (by decide) ?_
  refine V.callSp (As := [.int y, .int 0, .int 1]) (rest := []) [] (c_within E l L _ y 0 1) rfl (by decide) mi_X10_isWithin w_267 w_268 rfl rfl (Nat.le_of_ble_eq_true rfl) ⟨by decide, by decide⟩ ⟨by decide, by decide⟩ dX10_byLot_27 (vw2 := fun _ => [(a, ob 9 [.ref tx, .ref lo, .ref no, .ref to, .ref pa, .int pe, .int un, .ref ke, .ref ik, .ref sc, .ref w, .ref bp, .ref ac, .ref br, .int bs, .int bm]), (lo, ob 1 [.ref lt, .ref lr, .ref lw, .int (nI m), .int wa, .int lp]), (lw, aS E 6 wf)]) (st2 := fun _ => [.int (withinI y 0 1)]) (fun _ => rfl) (fun _ => rfl) (fun _ => rfl) (fun _ _ => ?_)
  refine V.topc (v := 0) (hy) ?_
  refine V.if_ne (tgt := 36) dX10_byLot_30 (by decide) (fun hc => absurd (by decide) hc) (fun _ => ?_)
  refine V.bipush (v := (-3)) dX10_byLot_33 (by decide) ?_
  exact V.iret rfl dX10_byLot_35 (⟨(), rfl, rfl, rfl, trivial⟩)

set_option maxHeartbeats 4000000 in
set_option maxRecDepth 100000 in
theorem c_RL_byLot (E : vEnv) (l : Launch) (L : List Nat) (h : Nat → va_E) (a : Nat) (tx : Nat) (lo : Nat) (no : Nat) (to : Nat) (pa : Nat) (ke : Nat) (ik : Nat) (sc : Nat) (w : Nat) (bp : Nat) (ac : Nat) (br : Nat) (pe : Int32) (un : Int32) (bs : Int32) (bm : Int32) (wr : Nat) (ws : Nat) (wn : Nat) (lt : Nat) (lr : Nat) (lw : Nat) (m : Nat) (wa : Int32) (lp : Int32) (ti : Nat → Int32) (r : Nat → Int32) (wf : Nat → Option Nat) (k : Nat) (q : Nat) (tno : Nat) (s : NS) (an : Nat → Nat) (tn : Nat → Nat) (KV : Nat → Prop) (sf : Nat → SHP) (f0 : Nat → NS) (ρ0 : Nat → Nat) (sm0 : Nat → Int32) (n0 : Int32) (mm : Int32) (y : Int32) (hm : m ≤ 6) (hset : ∀ i, i < (fillW (nI (2 ^ m - 1)) ρ0 6).1 → (fillW (nI (2 ^ m - 1)) ρ0 6).2 i < m) (hD : FD L KV an tn 7) (hK : ∀ b ∈ [w, wr, ws, wn, lo, lt, lr, lw, no, tno, a], KV b) (hSh : ShopsAt L (fun b => KV b ∨ inF an tn 7 b) m wf sf h) (hF0 : FN E an tn 7 f0 h) (hb0 : ∀ j, j < 7 → (f0 j).2.2.2.2.2.2.2 = 0 ∨ (f0 j).2.2.2.2.2.2.2 = 1) (hbs : s.2.2.2.2.2.2.2 = 0 ∨ s.2.2.2.2.2.2.2 = 1) (hkm : k < m) (hq : wf k = some q) (hmm : withinI mm 0 30 = 1) (hy : withinI y 0 1 = 1) : CT E l yX10_byLot cX10_byLot 8 (some (.int)) 8 0 0 L h [(w, ob 8 [.ref wr, .ref ws, .ref wn, .int n0]), (wr, aI E 6 (fun j => nI (ρ0 j))), (ws, aI E 6 sm0), (wn, aN E 7 (fun j => some (an j))), (lo, ob 1 [.ref lt, .ref lr, .ref lw, .int (nI m), .int wa, .int lp]), (lt, aI E 4 ti), (lr, aI E 4 r), (lw, aS E 6 wf), (no, ob 3 [.ref tno, .int s.2.1, .int s.2.2.1, .int s.2.2.2.1, .int s.2.2.2.2.1, .int s.2.2.2.2.2.1, .int s.2.2.2.2.2.2.1, .int s.2.2.2.2.2.2.2]), (tno, aI E 4 s.1), (a, ob 9 [.ref tx, .ref lo, .ref no, .ref to, .ref pa, .int pe, .int un, .ref ke, .ref ik, .ref sc, .ref w, .ref bp, .ref ac, .ref br, .int bs, .int bm])] [.ref a, .int (nI k), .int mm, .int y] (qG L h (inF an tn 7) (fun (u : (Nat → va_E) × (Nat → NS) × (Nat → Nat) × (Nat → Int32)) => u.1) (fun (u : (Nat → va_E) × (Nat → NS) × (Nat → Nat) × (Nat → Int32)) => [(w, ob 8 [.ref wr, .ref ws, .ref wn, .int (nI (fillW (nI (2 ^ m - 1)) ρ0 6).1)]), (wr, aI E 6 (fun j => nI (u.2.2.1 j))), (ws, aI E 6 u.2.2.2), (wn, aN E 7 (fun j => some (an j))), (lo, ob 1 [.ref lt, .ref lr, .ref lw, .int (nI m), .int wa, .int lp]), (lt, aI E 4 ti), (lr, aI E 4 r), (lw, aS E 6 wf), (no, ob 3 [.ref tno, .int s.2.1, .int s.2.2.1, .int s.2.2.2.1, .int s.2.2.2.2.1, .int s.2.2.2.2.2.1, .int s.2.2.2.2.2.2.1, .int s.2.2.2.2.2.2.2]), (tno, aI E 4 s.1), (a, ob 9 [.ref tx, .ref lo, .ref no, .ref to, .ref pa, .int pe, .int un, .ref ke, .ref ik, .ref sc, .ref w, .ref bp, .ref ac, .ref br, .int bs, .int bm])]) (fun u => some (.int (lotW (List.foldl (lotStep (m, sf, wa, ti, r) s (fillW (nI (2 ^ m - 1)) ρ0 6).1 k mm) (0, 0) (rowsG (fillW (nI (2 ^ m - 1)) ρ0 6).1 720 (fillW (nI (2 ^ m - 1)) ρ0 6).2)) y))) (fun u => FN E an tn 7 u.2.1 u.1 ∧ (∀ j, j < 7 → (u.2.1 j).2.2.2.2.2.2.2 = 0 ∨ (u.2.1 j).2.2.2.2.2.2.2 = 1))) := by
  refine CT.ofV (by decide +kernel) (Nat.le_of_ble_eq_true rfl) ?_
  obtain ⟨Z, hZ⟩ : ∃ Z, Z = mZ E (qG L h (inF an tn 7) (fun (u : (Nat → va_E) × (Nat → NS) × (Nat → Nat) × (Nat → Int32)) => u.1) (fun (u : (Nat → va_E) × (Nat → NS) × (Nat → Nat) × (Nat → Int32)) => [(w, ob 8 [.ref wr, .ref ws, .ref wn, .int (nI (fillW (nI (2 ^ m - 1)) ρ0 6).1)]), (wr, aI E 6 (fun j => nI (u.2.2.1 j))), (ws, aI E 6 u.2.2.2), (wn, aN E 7 (fun j => some (an j))), (lo, ob 1 [.ref lt, .ref lr, .ref lw, .int (nI m), .int wa, .int lp]), (lt, aI E 4 ti), (lr, aI E 4 r), (lw, aS E 6 wf), (no, ob 3 [.ref tno, .int s.2.1, .int s.2.2.1, .int s.2.2.2.1, .int s.2.2.2.2.1, .int s.2.2.2.2.2.1, .int s.2.2.2.2.2.2.1, .int s.2.2.2.2.2.2.2]), (tno, aI E 4 s.1), (a, ob 9 [.ref tx, .ref lo, .ref no, .ref to, .ref pa, .int pe, .int un, .ref ke, .ref ik, .ref sc, .ref w, .ref bp, .ref ac, .ref br, .int bs, .int bm])]) (fun u => some (.int (lotW (List.foldl (lotStep (m, sf, wa, ti, r) s (fillW (nI (2 ^ m - 1)) ρ0 6).1 k mm) (0, 0) (rowsG (fillW (nI (2 ^ m - 1)) ρ0 6).1 720 (fillW (nI (2 ^ m - 1)) ρ0 6).2)) y))) (fun u => FN E an tn 7 u.2.1 u.1 ∧ (∀ j, j < 7 → (u.2.1 j).2.2.2.2.2.2.2 = 0 ∨ (u.2.1 j).2.2.2.2.2.2.2 = 1))) 0 0 := ⟨_, rfl⟩
  rw [← hZ]
  refine V.locals2 (lv2 := [(0, .ref a), (1, .int (nI k)), (2, .int mm), (3, .int y)]) rfl ?_
  refine V.aload_n dX10_byLot_0 0 rfl ?_
  refine V.getf 10 1 rfl fa_X10_19_9 rfl dX10_byLot_1 ?_
  refine V.iload_n dX10_byLot_4 1 rfl ?_
  refine V.callVp (As := [.int (nI k)]) (rest := []) [4, 7] (c_Lane_shopOf E l L _ lo lt lr lw m wa lp wf k q (hkm) (hm) (hq)) rfl (by decide) mi_X1_shopOf 4 rfl rfl w_449 w_450 w_451 rfl rfl (Nat.le_of_ble_eq_true rfl) ⟨by decide, by decide⟩ ⟨by decide, by decide⟩ dX10_byLot_5 (vw2 := fun _ => [(w, ob 8 [.ref wr, .ref ws, .ref wn, .int n0]), (wr, aI E 6 (fun j => nI (ρ0 j))), (ws, aI E 6 sm0), (wn, aN E 7 (fun j => some (an j))), (lo, ob 1 [.ref lt, .ref lr, .ref lw, .int (nI m), .int wa, .int lp]), (lt, aI E 4 ti), (lr, aI E 4 r), (lw, aS E 6 wf), (no, ob 3 [.ref tno, .int s.2.1, .int s.2.2.1, .int s.2.2.2.1, .int s.2.2.2.2.1, .int s.2.2.2.2.2.1, .int s.2.2.2.2.2.2.1, .int s.2.2.2.2.2.2.2]), (tno, aI E 4 s.1), (a, ob 9 [.ref tx, .ref lo, .ref no, .ref to, .ref pa, .int pe, .int un, .ref ke, .ref ik, .ref sc, .ref w, .ref bp, .ref ac, .ref br, .int bs, .int bm])]) (st2 := fun _ => [.ref q]) (fun _ => rfl) (fun _ => rfl) (fun _ => rfl) (fun _ _ => ?_)
  refine V.ifnonnull (tgt := 14) dX10_byLot_8 (by decide) ?_
  refine V.iload_n dX10_byLot_14 2 rfl ?_
  refine V.iconst (v := 0) dX10_byLot_15 (by decide) ?_
  refine V.bipush (v := 30) dX10_byLot_16 (by decide) ?_
  refine V.callSp (As := [.int mm, .int 0, .int 30]) (rest := []) [] (c_within E l L _ mm 0 30) rfl (by decide) mi_X10_isWithin w_267 w_268 rfl rfl (Nat.le_of_ble_eq_true rfl) ⟨by decide, by decide⟩ ⟨by decide, by decide⟩ dX10_byLot_18 (vw2 := fun _ => [(w, ob 8 [.ref wr, .ref ws, .ref wn, .int n0]), (wr, aI E 6 (fun j => nI (ρ0 j))), (ws, aI E 6 sm0), (wn, aN E 7 (fun j => some (an j))), (lo, ob 1 [.ref lt, .ref lr, .ref lw, .int (nI m), .int wa, .int lp]), (lt, aI E 4 ti), (lr, aI E 4 r), (lw, aS E 6 wf), (no, ob 3 [.ref tno, .int s.2.1, .int s.2.2.1, .int s.2.2.2.1, .int s.2.2.2.2.1, .int s.2.2.2.2.2.1, .int s.2.2.2.2.2.2.1, .int s.2.2.2.2.2.2.2]), (tno, aI E 4 s.1), (a, ob 9 [.ref tx, .ref lo, .ref no, .ref to, .ref pa, .int pe, .int un, .ref ke, .ref ik, .ref sc, .ref w, .ref bp, .ref ac, .ref br, .int bs, .int bm])]) (st2 := fun _ => [.int (withinI mm 0 30)]) (fun _ => rfl) (fun _ => rfl) (fun _ => rfl) (fun _ _ => ?_)
  refine V.topc (v := 1) (hmm) ?_
  refine V.if_eq (tgt := 33) dX10_byLot_21 (by decide) (fun hc => absurd hc (by decide)) (fun _ => ?_)
  refine V.iload_n dX10_byLot_24 3 rfl ?_
  refine V.iconst (v := 0) dX10_byLot_25 (by decide) ?_
  refine V.iconst (v := 1) dX10_byLot_26 (by decide) ?_
  refine V.callSp (As := [.int y, .int 0, .int 1]) (rest := []) [] (c_within E l L _ y 0 1) rfl (by decide) mi_X10_isWithin w_267 w_268 rfl rfl (Nat.le_of_ble_eq_true rfl) ⟨by decide, by decide⟩ ⟨by decide, by decide⟩ dX10_byLot_27 (vw2 := fun _ => [(w, ob 8 [.ref wr, .ref ws, .ref wn, .int n0]), (wr, aI E 6 (fun j => nI (ρ0 j))), (ws, aI E 6 sm0), (wn, aN E 7 (fun j => some (an j))), (lo, ob 1 [.ref lt, .ref lr, .ref lw, .int (nI m), .int wa, .int lp]), (lt, aI E 4 ti), (lr, aI E 4 r), (lw, aS E 6 wf), (no, ob 3 [.ref tno, .int s.2.1, .int s.2.2.1, .int s.2.2.2.1, .int s.2.2.2.2.1, .int s.2.2.2.2.2.1, .int s.2.2.2.2.2.2.1, .int s.2.2.2.2.2.2.2]), (tno, aI E 4 s.1), (a, ob 9 [.ref tx, .ref lo, .ref no, .ref to, .ref pa, .int pe, .int un, .ref ke, .ref ik, .ref sc, .ref w, .ref bp, .ref ac, .ref br, .int bs, .int bm])]) (st2 := fun _ => [.int (withinI y 0 1)]) (fun _ => rfl) (fun _ => rfl) (fun _ => rfl) (fun _ _ => ?_)
  refine V.topc (v := 1) (hy) ?_
  refine V.if_ne (tgt := 36) dX10_byLot_30 (by decide) (fun _ => ?_) (fun hc => absurd hc (by decide))
  refine V.iconst (v := 0) dX10_byLot_36 (by decide) ?_
  refine V.istore (lv2 := [(4, .int 0), (0, .ref a), (1, .int (nI k)), (2, .int mm), (3, .int y)]) dX10_byLot_37 (by decide) rfl ?_
  refine V.iconst (v := 0) dX10_byLot_39 (by decide) ?_
  refine V.istore (lv2 := [(5, .int 0), (4, .int 0), (0, .ref a), (1, .int (nI k)), (2, .int mm), (3, .int y)]) dX10_byLot_40 (by decide) rfl ?_
  refine V.aload_n dX10_byLot_42 2 rfl ?_
  refine V.getf 10 10 rfl fa_X10_54_9 rfl dX10_byLot_43 ?_
  refine V.aload_n dX10_byLot_46 2 rfl ?_
  refine V.getf 10 1 rfl fa_X10_19_9 rfl dX10_byLot_47 ?_
  refine V.aload_n dX10_byLot_50 2 rfl ?_
  refine V.getf 10 2 rfl fa_X10_26_9 rfl dX10_byLot_51 ?_
  refine V.aload_n dX10_byLot_54 2 rfl ?_
  refine V.callVp (As := []) (rest := [.ref no, .ref lo, .ref w]) [10, 4] (c_RL_allShops E l L _ a tx lo no to pa ke ik sc w bp ac br pe un bs bm lt lr lw m wa lp (by omega)) rfl (by decide) mi_X10_allShops 10 rfl rfl w_587 w_589 wp_2 rfl rfl (Nat.le_of_ble_eq_true rfl) ⟨by decide, by decide⟩ ⟨by decide, by decide⟩ dX10_byLot_55 (vw2 := fun _ => [(w, ob 8 [.ref wr, .ref ws, .ref wn, .int n0]), (wr, aI E 6 (fun j => nI (ρ0 j))), (ws, aI E 6 sm0), (wn, aN E 7 (fun j => some (an j))), (lo, ob 1 [.ref lt, .ref lr, .ref lw, .int (nI m), .int wa, .int lp]), (lt, aI E 4 ti), (lr, aI E 4 r), (lw, aS E 6 wf), (no, ob 3 [.ref tno, .int s.2.1, .int s.2.2.1, .int s.2.2.2.1, .int s.2.2.2.2.1, .int s.2.2.2.2.2.1, .int s.2.2.2.2.2.2.1, .int s.2.2.2.2.2.2.2]), (tno, aI E 4 s.1), (a, ob 9 [.ref tx, .ref lo, .ref no, .ref to, .ref pa, .int pe, .int un, .ref ke, .ref ik, .ref sc, .ref w, .ref bp, .ref ac, .ref br, .int bs, .int bm])]) (st2 := fun _ => [.int (nI (2 ^ m - 1)), .ref no, .ref lo, .ref w]) (fun _ => rfl) (fun _ => rfl) (fun _ => rfl) (fun _ _ => ?_)
  refine V.callVg (As := [.ref lo, .ref no, .int (nI (2 ^ m - 1))]) (rest := []) [0, 1, 2, 3, 4, 5, 6, 7, 8, 9] (c_Walks_begin E l L _ no tno n0 ρ0 w wr ws wn sm0 an tn lo lt lr lw m wa lp ti r wf KV sf f0 s ((nI (2 ^ m - 1))) (hm) (hset) (hD) (fun b hb => hK b (List.mem_append_left [a] hb)) (hSh.over (vw := [(w, ob 8 [.ref wr, .ref ws, .ref wn, .int n0]), (wr, aI E 6 (fun j => nI (ρ0 j))), (ws, aI E 6 sm0), (wn, aN E 7 (fun j => some (an j))), (lo, ob 1 [.ref lt, .ref lr, .ref lw, .int (nI m), .int wa, .int lp]), (lt, aI E 4 ti), (lr, aI E 4 r), (lw, aS E 6 wf), (no, ob 3 [.ref tno, .int s.2.1, .int s.2.2.1, .int s.2.2.2.1, .int s.2.2.2.2.1, .int s.2.2.2.2.2.1, .int s.2.2.2.2.2.2.1, .int s.2.2.2.2.2.2.2]), (tno, aI E 4 s.1), (a, ob 9 [.ref tx, .ref lo, .ref no, .ref to, .ref pa, .int pe, .int un, .ref ke, .ref ik, .ref sc, .ref w, .ref bp, .ref ac, .ref br, .int bs, .int bm])]) (fun b hb => Or.inl (hK b hb))) (FN.over (vw := [(w, ob 8 [.ref wr, .ref ws, .ref wn, .int n0]), (wr, aI E 6 (fun j => nI (ρ0 j))), (ws, aI E 6 sm0), (wn, aN E 7 (fun j => some (an j))), (lo, ob 1 [.ref lt, .ref lr, .ref lw, .int (nI m), .int wa, .int lp]), (lt, aI E 4 ti), (lr, aI E 4 r), (lw, aS E 6 wf), (no, ob 3 [.ref tno, .int s.2.1, .int s.2.2.1, .int s.2.2.2.1, .int s.2.2.2.2.1, .int s.2.2.2.2.2.1, .int s.2.2.2.2.2.2.1, .int s.2.2.2.2.2.2.2]), (tno, aI E 4 s.1), (a, ob 9 [.ref tx, .ref lo, .ref no, .ref to, .ref pa, .int pe, .int un, .ref ke, .ref ik, .ref sc, .ref w, .ref bp, .ref ac, .ref br, .int bs, .int bm])]) hF0 (fun b hb => hD.off (hK b hb))) (hb0) (hbs)) rfl (by decide) mi_X9_begin 0 rfl rfl w_595 w_596 w_597 rfl rfl (Nat.le_of_ble_eq_true rfl) ⟨by decide, by decide⟩ ⟨by decide, by decide⟩ dX10_byLot_58 (vw2 := fun u58 => [(w, ob 8 [.ref wr, .ref ws, .ref wn, .int (nI (fillW (nI (2 ^ m - 1)) ρ0 6).1)]), (wr, aI E 6 (fun x => nI ((fillW (nI (2 ^ m - 1)) ρ0 6).2 x))), (ws, aI E 6 u58.2.2), (wn, aN E 7 (fun j => some (an j))), (lo, ob 1 [.ref lt, .ref lr, .ref lw, .int (nI m), .int wa, .int lp]), (lt, aI E 4 ti), (lr, aI E 4 r), (lw, aS E 6 wf), (no, ob 3 [.ref tno, .int s.2.1, .int s.2.2.1, .int s.2.2.2.1, .int s.2.2.2.2.1, .int s.2.2.2.2.2.1, .int s.2.2.2.2.2.2.1, .int s.2.2.2.2.2.2.2]), (tno, aI E 4 s.1), (a, ob 9 [.ref tx, .ref lo, .ref no, .ref to, .ref pa, .int pe, .int un, .ref ke, .ref ik, .ref sc, .ref w, .ref bp, .ref ac, .ref br, .int bs, .int bm])]) (st2 := fun u58 => [.int 1]) (fun b hb => hD.off (hK b hb)) (fun _ => rfl) (fun _ => rfl) (fun _ => rfl) (fun u58 hq_58 => ?_)
  generalize hN : (fillW (nI (2 ^ m - 1)) ρ0 6).1 = N at hset hq_58 hZ ⊢
  generalize hR : (fillW (nI (2 ^ m - 1)) ρ0 6).2 = ρ1 at hset hq_58 hZ ⊢
  have hN6 : N ≤ 6 := by rw [← hN]; exact fillW_le _ _ _
  refine V.istore (lv2 := [(6, .int 1), (5, .int 0), (4, .int 0), (0, .ref a), (1, .int (nI k)), (2, .int mm), (3, .int y)]) dX10_byLot_61 (by decide) rfl ?_
  refine V.locals [3, 4, 5, 6, 2, 1, 0] (by rfl) ?_
  have lp_63 : ∀ (fuel : Nat) (ρ : Nat → Nat) (g : Nat → va_E) (f : Nat → NS) (sm : Nat → Int32) (q : Nat × Nat) (mo : Int32) (hρ : ∀ i, i < N → ρ i < m) (hF : FN E an tn 7 f g) (hw : ∀ j, j ≤ N → f j = walkN (m, sf, wa, ti, r) ρ s j) (hs : ∀ j, j < N → sm j = visitS (m, sf, wa, ti, r) (ρ j) (walkN (m, sf, wa, ti, r) ρ s j)) (hb : ∀ j, j < 7 → (f j).2.2.2.2.2.2.2 = 0 ∨ (f j).2.2.2.2.2.2.2 = 1) (hle : q.1 ≤ q.2) (hn7 : q.2 ≤ 720) (hmo : (mo = 1 ∧ List.foldl (lotStep (m, sf, wa, ti, r) s N k mm) q (rowsG N (720 - q.2) ρ) = (List.foldl (lotStep (m, sf, wa, ti, r) s N k mm) (0, 0) (rowsG N 720 ρ1))) ∨ (mo = 0 ∧ q = (List.foldl (lotStep (m, sf, wa, ti, r) s N k mm) (0, 0) (rowsG N 720 ρ1)))) (hf : 720 < q.2 + fuel), V E l yX10_byLot cX10_byLot 8 (some (.int)) (rmk 8 0 0) Z L (mix (inF an tn 7) g h) 0 0 [(w, ob 8 [.ref wr, .ref ws, .ref wn, .int (nI N)]), (wr, aI E 6 (fun j => nI (ρ j))), (ws, aI E 6 sm), (wn, aN E 7 (fun j => some (an j))), (lo, ob 1 [.ref lt, .ref lr, .ref lw, .int (nI m), .int wa, .int lp]), (lt, aI E 4 ti), (lr, aI E 4 r), (lw, aS E 6 wf), (no, ob 3 [.ref tno, .int s.2.1, .int s.2.2.1, .int s.2.2.2.1, .int s.2.2.2.2.1, .int s.2.2.2.2.2.1, .int s.2.2.2.2.2.2.1, .int s.2.2.2.2.2.2.2]), (tno, aI E 4 s.1), (a, ob 9 [.ref tx, .ref lo, .ref no, .ref to, .ref pa, .int pe, .int un, .ref ke, .ref ik, .ref sc, .ref w, .ref bp, .ref ac, .ref br, .int bs, .int bm])] 63 [(0, .ref a), (1, .int (nI k)), (2, .int mm), (3, .int y), (4, .int (nI q.1)), (5, .int (nI q.2)), (6, .int mo)] [] := by
    intro fuel
    induction fuel with
    | zero =>
      intro ρ g f sm q mo hρ hF hw hs hb hle hn7 hmo hf
      exfalso; omega
    | succ fuel ih_63 =>
      intro ρ g f sm q mo hρ hF hw hs hb hle hn7 hmo hf
      refine V.iload dX10_byLot_63 6 rfl ?_
      refine V.if_eq (tgt := 110) dX10_byLot_65 (by decide) (fun c1_65 => ?_) (fun c1_65 => ?_)
      · skip
        have hfin : q = (List.foldl (lotStep (m, sf, wa, ti, r) s N k mm) (0, 0) (rowsG N 720 ρ1)) := (hmo.resolve_left (fun hh => absurd (hh.1.symm.trans c1_65) (by decide))).2
        refine V.iload dX10_byLot_110 5 rfl ?_
        refine V.iload dX10_byLot_112 4 rfl ?_
        refine V.callSp (As := [.int (nI q.2), .int (nI q.1)]) (rest := []) [] (c_RL_gcd E l L _ q.2 q.1 (by omega) (by omega)) rfl (by decide) mi_X10_commonDivisor w_655 w_656 rfl rfl (Nat.le_of_ble_eq_true rfl) ⟨by decide, by decide⟩ ⟨by decide, by decide⟩ dX10_byLot_114 (vw2 := fun _ => [(w, ob 8 [.ref wr, .ref ws, .ref wn, .int (nI N)]), (wr, aI E 6 (fun j => nI (ρ j))), (ws, aI E 6 sm), (wn, aN E 7 (fun j => some (an j))), (lo, ob 1 [.ref lt, .ref lr, .ref lw, .int (nI m), .int wa, .int lp]), (lt, aI E 4 ti), (lr, aI E 4 r), (lw, aS E 6 wf), (no, ob 3 [.ref tno, .int s.2.1, .int s.2.2.1, .int s.2.2.2.1, .int s.2.2.2.2.1, .int s.2.2.2.2.2.1, .int s.2.2.2.2.2.2.1, .int s.2.2.2.2.2.2.2]), (tno, aI E 4 s.1), (a, ob 9 [.ref tx, .ref lo, .ref no, .ref to, .ref pa, .int pe, .int un, .ref ke, .ref ik, .ref sc, .ref w, .ref bp, .ref ac, .ref br, .int bs, .int bm])]) (st2 := fun _ => [.int (nI (Nat.gcd q.2 q.1))]) (fun _ => rfl) (fun _ => rfl) (fun _ => rfl) (fun _ _ => ?_)
        refine V.istore (lv2 := [(7, .int (nI (Nat.gcd q.2 q.1))), (0, .ref a), (1, .int (nI k)), (2, .int mm), (3, .int y), (4, .int (nI q.1)), (5, .int (nI q.2)), (6, .int mo)]) dX10_byLot_117 (by decide) rfl ?_
        refine V.iload dX10_byLot_119 0 rfl ?_
        refine V.if_ne (tgt := 128) dX10_byLot_121 (by decide) (fun c2_121 => ?_) (fun c2_121 => ?_)
        · skip
          have hg : ¬ Nat.gcd q.2 q.1 = 0 := fun hh => c2_121 (by rw [hh]; rfl)
          have hgl : Nat.gcd q.2 q.1 < 2 ^ 30 := by
            by_cases h9 : q.2 = 0
            · rw [h9, Nat.gcd_zero_left]; omega
            · have h8 := Nat.le_of_dvd (Nat.pos_of_ne_zero h9) (Nat.gcd_dvd_left q.2 q.1); omega
          refine V.iload_n dX10_byLot_128 4 rfl ?_
          refine V.if_ne (tgt := 137) dX10_byLot_129 (by decide) (fun c3_129 => ?_) (fun c3_129 => ?_)
          · skip
            refine V.iload dX10_byLot_137 6 rfl ?_
            refine V.iload dX10_byLot_139 0 rfl ?_
            refine V.idiv dX10_byLot_141 (fun hh => hg ((nI_eq (b := 0) (by omega) (by omega)).mp hh)) ?_
            refine V.topc (v := (nI (q.2 / Nat.gcd q.2 q.1))) (pk_div (by omega) (Nat.pos_of_ne_zero hg) (by omega)) ?_
            subst hZ
            exact V.iret rfl dX10_byLot_142 (⟨(g, f, ρ, sm), by rw [← hfin]; unfold lotW; rw [if_neg hg, if_neg c3_129], rfl, rfl, hF, hb⟩)
          · skip
            refine V.iload dX10_byLot_132 5 rfl ?_
            refine V.goto (tgt := 139) dX10_byLot_134 (by decide) ?_
            refine V.iload dX10_byLot_139 0 rfl ?_
            refine V.idiv dX10_byLot_141 (fun hh => hg ((nI_eq (b := 0) (by omega) (by omega)).mp hh)) ?_
            refine V.topc (v := (nI (q.1 / Nat.gcd q.2 q.1))) (pk_div (by omega) (Nat.pos_of_ne_zero hg) (by omega)) ?_
            subst hZ
            exact V.iret rfl dX10_byLot_142 (⟨(g, f, ρ, sm), by rw [← hfin]; unfold lotW; rw [if_neg hg, if_pos c3_129], rfl, rfl, hF, hb⟩)
        · skip
          have hg : Nat.gcd q.2 q.1 = 0 := by
            have hgl : Nat.gcd q.2 q.1 < 2 ^ 30 := by
              by_cases h9 : q.2 = 0
              · rw [h9, Nat.gcd_zero_left]; omega
              · have h8 := Nat.le_of_dvd (Nat.pos_of_ne_zero h9) (Nat.gcd_dvd_left q.2 q.1); omega
            exact (nI_eq (b := 0) (by omega) (by omega)).mp c2_121
          refine V.iconst (v := 0) dX10_byLot_124 (by decide) ?_
          refine V.goto (tgt := 142) dX10_byLot_125 (by decide) ?_
          subst hZ
          exact V.iret rfl dX10_byLot_142 (⟨(g, f, ρ, sm), by rw [← hfin]; unfold lotW; rw [if_pos hg], rfl, rfl, hF, hb⟩)
      · skip
        have hrun := (hmo.resolve_right (fun hh => c1_65 hh.1)).2
        refine V.iload dX10_byLot_68 5 rfl ?_
        refine V.sipush (v := 720) dX10_byLot_70 (by decide) ?_
        refine V.icmp_ge (tgt := 110) dX10_byLot_73 (by decide) (fun c4_73 => ?_) (fun c4_73 => ?_)
        · skip
          have hfin : q = (List.foldl (lotStep (m, sf, wa, ti, r) s N k mm) (0, 0) (rowsG N 720 ρ1)) := by
            have h9 := (nI_leI (a := 720) (by omega) (by omega)).mp c4_73
            rw [show 720 - q.2 = 0 by omega] at hrun
            exact hrun
          refine V.iload dX10_byLot_110 5 rfl ?_
          refine V.iload dX10_byLot_112 4 rfl ?_
          refine V.callSp (As := [.int (nI q.2), .int (nI q.1)]) (rest := []) [] (c_RL_gcd E l L _ q.2 q.1 (by omega) (by omega)) rfl (by decide) mi_X10_commonDivisor w_655 w_656 rfl rfl (Nat.le_of_ble_eq_true rfl) ⟨by decide, by decide⟩ ⟨by decide, by decide⟩ dX10_byLot_114 (vw2 := fun _ => [(w, ob 8 [.ref wr, .ref ws, .ref wn, .int (nI N)]), (wr, aI E 6 (fun j => nI (ρ j))), (ws, aI E 6 sm), (wn, aN E 7 (fun j => some (an j))), (lo, ob 1 [.ref lt, .ref lr, .ref lw, .int (nI m), .int wa, .int lp]), (lt, aI E 4 ti), (lr, aI E 4 r), (lw, aS E 6 wf), (no, ob 3 [.ref tno, .int s.2.1, .int s.2.2.1, .int s.2.2.2.1, .int s.2.2.2.2.1, .int s.2.2.2.2.2.1, .int s.2.2.2.2.2.2.1, .int s.2.2.2.2.2.2.2]), (tno, aI E 4 s.1), (a, ob 9 [.ref tx, .ref lo, .ref no, .ref to, .ref pa, .int pe, .int un, .ref ke, .ref ik, .ref sc, .ref w, .ref bp, .ref ac, .ref br, .int bs, .int bm])]) (st2 := fun _ => [.int (nI (Nat.gcd q.2 q.1))]) (fun _ => rfl) (fun _ => rfl) (fun _ => rfl) (fun _ _ => ?_)
          refine V.istore (lv2 := [(7, .int (nI (Nat.gcd q.2 q.1))), (0, .ref a), (1, .int (nI k)), (2, .int mm), (3, .int y), (4, .int (nI q.1)), (5, .int (nI q.2)), (6, .int mo)]) dX10_byLot_117 (by decide) rfl ?_
          refine V.iload dX10_byLot_119 0 rfl ?_
          refine V.if_ne (tgt := 128) dX10_byLot_121 (by decide) (fun c5_121 => ?_) (fun c5_121 => ?_)
          · skip
            have hg : ¬ Nat.gcd q.2 q.1 = 0 := fun hh => c5_121 (by rw [hh]; rfl)
            have hgl : Nat.gcd q.2 q.1 < 2 ^ 30 := by
              by_cases h9 : q.2 = 0
              · rw [h9, Nat.gcd_zero_left]; omega
              · have h8 := Nat.le_of_dvd (Nat.pos_of_ne_zero h9) (Nat.gcd_dvd_left q.2 q.1); omega
            refine V.iload_n dX10_byLot_128 4 rfl ?_
            refine V.if_ne (tgt := 137) dX10_byLot_129 (by decide) (fun c6_129 => ?_) (fun c6_129 => ?_)
            · skip
              refine V.iload dX10_byLot_137 6 rfl ?_
              refine V.iload dX10_byLot_139 0 rfl ?_
              refine V.idiv dX10_byLot_141 (fun hh => hg ((nI_eq (b := 0) (by omega) (by omega)).mp hh)) ?_
              refine V.topc (v := (nI (q.2 / Nat.gcd q.2 q.1))) (pk_div (by omega) (Nat.pos_of_ne_zero hg) (by omega)) ?_
              subst hZ
              exact V.iret rfl dX10_byLot_142 (⟨(g, f, ρ, sm), by rw [← hfin]; unfold lotW; rw [if_neg hg, if_neg c6_129], rfl, rfl, hF, hb⟩)
            · skip
              refine V.iload dX10_byLot_132 5 rfl ?_
              refine V.goto (tgt := 139) dX10_byLot_134 (by decide) ?_
              refine V.iload dX10_byLot_139 0 rfl ?_
              refine V.idiv dX10_byLot_141 (fun hh => hg ((nI_eq (b := 0) (by omega) (by omega)).mp hh)) ?_
              refine V.topc (v := (nI (q.1 / Nat.gcd q.2 q.1))) (pk_div (by omega) (Nat.pos_of_ne_zero hg) (by omega)) ?_
              subst hZ
              exact V.iret rfl dX10_byLot_142 (⟨(g, f, ρ, sm), by rw [← hfin]; unfold lotW; rw [if_neg hg, if_pos c6_129], rfl, rfl, hF, hb⟩)
          · skip
            have hg : Nat.gcd q.2 q.1 = 0 := by
              have hgl : Nat.gcd q.2 q.1 < 2 ^ 30 := by
                by_cases h9 : q.2 = 0
                · rw [h9, Nat.gcd_zero_left]; omega
                · have h8 := Nat.le_of_dvd (Nat.pos_of_ne_zero h9) (Nat.gcd_dvd_left q.2 q.1); omega
              exact (nI_eq (b := 0) (by omega) (by omega)).mp c5_121
            refine V.iconst (v := 0) dX10_byLot_124 (by decide) ?_
            refine V.goto (tgt := 142) dX10_byLot_125 (by decide) ?_
            subst hZ
            exact V.iret rfl dX10_byLot_142 (⟨(g, f, ρ, sm), by rw [← hfin]; unfold lotW; rw [if_pos hg], rfl, rfl, hF, hb⟩)
        · skip
          have hlt : q.2 < 720 := Nat.lt_of_not_le (fun hh => c4_73 (nI_le (a := 720) hh (by omega)))
          obtain ⟨d, hd⟩ : ∃ d, 720 - q.2 = d + 1 := ⟨719 - q.2, by omega⟩
          rw [hd] at hrun
          refine V.aload_n dX10_byLot_76 0 rfl ?_
          refine V.getf 10 10 rfl fa_X10_54_9 rfl dX10_byLot_77 ?_
          refine V.iload_n dX10_byLot_80 1 rfl ?_
          refine V.callVp (As := [.int (nI k)]) (rest := []) [0, 1, 2] (c_Walks_smeltAt2 E l L _ w wr ws wn N ρ sm k (hN6) (by omega) (fun i hi => Nat.lt_of_lt_of_le (hρ i hi) hm)) rfl (by decide) mi_X9_smeltAt 0 rfl rfl w_651 w_652 w_653 rfl rfl (Nat.le_of_ble_eq_true rfl) ⟨by decide, by decide⟩ ⟨by decide, by decide⟩ dX10_byLot_81 (vw2 := fun _ => [(w, ob 8 [.ref wr, .ref ws, .ref wn, .int (nI N)]), (wr, aI E 6 (fun j => nI (ρ j))), (ws, aI E 6 sm), (wn, aN E 7 (fun j => some (an j))), (lo, ob 1 [.ref lt, .ref lr, .ref lw, .int (nI m), .int wa, .int lp]), (lt, aI E 4 ti), (lr, aI E 4 r), (lw, aS E 6 wf), (no, ob 3 [.ref tno, .int s.2.1, .int s.2.2.1, .int s.2.2.2.1, .int s.2.2.2.2.1, .int s.2.2.2.2.2.1, .int s.2.2.2.2.2.2.1, .int s.2.2.2.2.2.2.2]), (tno, aI E 4 s.1), (a, ob 9 [.ref tx, .ref lo, .ref no, .ref to, .ref pa, .int pe, .int un, .ref ke, .ref ik, .ref sc, .ref w, .ref bp, .ref ac, .ref br, .int bs, .int bm])]) (st2 := fun _ => [.int (smA ρ sm k N 0)]) (fun _ => rfl) (fun _ => rfl) (fun _ => rfl) (fun _ _ => ?_)
          refine V.topc (v := (smA ρ (fun j => visitS (m, sf, wa, ti, r) (ρ j) (walkN (m, sf, wa, ti, r) ρ s j)) k N 0)) (smA_congr (fun j hj => hs j (by omega))) ?_
          refine V.iload_n dX10_byLot_84 2 rfl ?_
          refine V.icmp_lt (tgt := 91) dX10_byLot_85 (by decide) (fun c7_85 => ?_) (fun c7_85 => ?_)
          · skip
            refine V.iinc (v := (nI (q.2 + 1))) (lv2 := [(5, .int (nI (q.2 + 1))), (0, .ref a), (1, .int (nI k)), (2, .int mm), (3, .int y), (4, .int (nI q.1)), (6, .int mo)]) dX10_byLot_91 5 rfl (nI_1 _) (by decide) rfl ?_
            have hbs9 : lotStep (m, sf, wa, ti, r) s N k mm q ρ = (q.1, q.2 + 1) := if_neg (Int32.not_le.mpr c7_85)
            refine V.aload_n dX10_byLot_94 1 rfl ?_
            refine V.getf 10 10 rfl fa_X10_54_9 rfl dX10_byLot_95 ?_
            refine V.aload_n dX10_byLot_98 1 rfl ?_
            refine V.getf 10 1 rfl fa_X10_19_9 rfl dX10_byLot_99 ?_
            rcases stepR_cases N ρ with ⟨hN0, hst⟩ | ⟨nn, hN0, hpv, hst⟩ | ⟨nn, p, hN0, hpv, hst⟩
            · skip
              subst hN0
              refine V.callVp (As := [.ref lo]) (rest := []) [0] (c_Walks_next0 E l L _ w wr ws wn lo) rfl (by decide) mi_X9_next 0 rfl rfl w_614 w_615 w_616 rfl rfl (Nat.le_of_ble_eq_true rfl) ⟨by decide, by decide⟩ ⟨by decide, by decide⟩ dX10_byLot_102 (vw2 := fun _ => [(w, ob 8 [.ref wr, .ref ws, .ref wn, .int (nI 0)]), (wr, aI E 6 (fun j => nI (ρ j))), (ws, aI E 6 sm), (wn, aN E 7 (fun j => some (an j))), (lo, ob 1 [.ref lt, .ref lr, .ref lw, .int (nI m), .int wa, .int lp]), (lt, aI E 4 ti), (lr, aI E 4 r), (lw, aS E 6 wf), (no, ob 3 [.ref tno, .int s.2.1, .int s.2.2.1, .int s.2.2.2.1, .int s.2.2.2.2.1, .int s.2.2.2.2.2.1, .int s.2.2.2.2.2.2.1, .int s.2.2.2.2.2.2.2]), (tno, aI E 4 s.1), (a, ob 9 [.ref tx, .ref lo, .ref no, .ref to, .ref pa, .int pe, .int un, .ref ke, .ref ik, .ref sc, .ref w, .ref bp, .ref ac, .ref br, .int bs, .int bm])]) (st2 := fun _ => [.int 0]) (fun _ => rfl) (fun _ => rfl) (fun _ => rfl) (fun _ _ => ?_)
              refine V.istore (lv2 := [(6, .int 0), (5, .int (nI (q.2 + 1))), (0, .ref a), (1, .int (nI k)), (2, .int mm), (3, .int y), (4, .int (nI q.1))]) dX10_byLot_105 (by decide) rfl ?_
              refine V.goto (tgt := 63) dX10_byLot_107 (by decide) ?_
              refine V.locals [2, 3, 4, 5, 6, 1, 0] (by rfl) ?_
              exact ih_63 ρ g f sm (q.1, q.2 + 1) 0 hρ hF hw hs hb (by first | omega | (simp only []; omega)) (by first | omega | (simp only []; omega)) (Or.inr ⟨rfl, by rw [rowsG_none hst] at hrun; exact hbs9.symm.trans hrun⟩) (by first | omega | (simp only []; omega))
            · skip
              subst hN0
              refine V.callVp (As := [.ref lo]) (rest := []) [0, 1] (c_Walks_next1 E l L _ w wr ws wn nn ρ lo (by omega) (fun i hi => Nat.lt_of_lt_of_le (hρ i hi) hm) (hpv)) rfl (by decide) mi_X9_next 0 rfl rfl w_614 w_615 w_616 rfl rfl (Nat.le_of_ble_eq_true rfl) ⟨by decide, by decide⟩ ⟨by decide, by decide⟩ dX10_byLot_102 (vw2 := fun _ => [(w, ob 8 [.ref wr, .ref ws, .ref wn, .int (nI (nn + 1))]), (wr, aI E 6 (fun j => nI (ρ j))), (ws, aI E 6 sm), (wn, aN E 7 (fun j => some (an j))), (lo, ob 1 [.ref lt, .ref lr, .ref lw, .int (nI m), .int wa, .int lp]), (lt, aI E 4 ti), (lr, aI E 4 r), (lw, aS E 6 wf), (no, ob 3 [.ref tno, .int s.2.1, .int s.2.2.1, .int s.2.2.2.1, .int s.2.2.2.2.1, .int s.2.2.2.2.2.1, .int s.2.2.2.2.2.2.1, .int s.2.2.2.2.2.2.2]), (tno, aI E 4 s.1), (a, ob 9 [.ref tx, .ref lo, .ref no, .ref to, .ref pa, .int pe, .int un, .ref ke, .ref ik, .ref sc, .ref w, .ref bp, .ref ac, .ref br, .int bs, .int bm])]) (st2 := fun _ => [.int 0]) (fun _ => rfl) (fun _ => rfl) (fun _ => rfl) (fun _ _ => ?_)
              refine V.istore (lv2 := [(6, .int 0), (5, .int (nI (q.2 + 1))), (0, .ref a), (1, .int (nI k)), (2, .int mm), (3, .int y), (4, .int (nI q.1))]) dX10_byLot_105 (by decide) rfl ?_
              refine V.goto (tgt := 63) dX10_byLot_107 (by decide) ?_
              refine V.locals [2, 3, 4, 5, 6, 1, 0] (by rfl) ?_
              exact ih_63 ρ g f sm (q.1, q.2 + 1) 0 hρ hF hw hs hb (by first | omega | (simp only []; omega)) (by first | omega | (simp only []; omega)) (Or.inr ⟨rfl, by rw [rowsG_none hst] at hrun; exact hbs9.symm.trans hrun⟩) (by first | omega | (simp only []; omega))
            · skip
              subst hN0
              refine V.callVg (As := [.ref lo]) (rest := []) [0, 1, 2, 3, 4, 5, 6, 7] (c_Walks_next E l L _ w wr ws wn ρ sm an tn lo lt lr lw m wa lp ti r wf KV sf f s nn p (by omega) (hm) (hρ) (hD) (fun b hb => hK b (List.mem_append_left [no, tno, a] hb)) (((hSh.mixed (fun b hb => Or.inr hb)).over (vw := [(w, ob 8 [.ref wr, .ref ws, .ref wn, .int (nI (nn + 1))]), (wr, aI E 6 (fun j => nI (ρ j))), (ws, aI E 6 sm), (wn, aN E 7 (fun j => some (an j))), (lo, ob 1 [.ref lt, .ref lr, .ref lw, .int (nI m), .int wa, .int lp]), (lt, aI E 4 ti), (lr, aI E 4 r), (lw, aS E 6 wf), (no, ob 3 [.ref tno, .int s.2.1, .int s.2.2.1, .int s.2.2.2.1, .int s.2.2.2.2.1, .int s.2.2.2.2.2.1, .int s.2.2.2.2.2.2.1, .int s.2.2.2.2.2.2.2]), (tno, aI E 4 s.1), (a, ob 9 [.ref tx, .ref lo, .ref no, .ref to, .ref pa, .int pe, .int un, .ref ke, .ref ik, .ref sc, .ref w, .ref bp, .ref ac, .ref br, .int bs, .int bm])]) (fun b hb => Or.inl (hK b hb)))) (FN.over (vw := [(w, ob 8 [.ref wr, .ref ws, .ref wn, .int (nI (nn + 1))]), (wr, aI E 6 (fun j => nI (ρ j))), (ws, aI E 6 sm), (wn, aN E 7 (fun j => some (an j))), (lo, ob 1 [.ref lt, .ref lr, .ref lw, .int (nI m), .int wa, .int lp]), (lt, aI E 4 ti), (lr, aI E 4 r), (lw, aS E 6 wf), (no, ob 3 [.ref tno, .int s.2.1, .int s.2.2.1, .int s.2.2.2.1, .int s.2.2.2.2.1, .int s.2.2.2.2.2.1, .int s.2.2.2.2.2.2.1, .int s.2.2.2.2.2.2.2]), (tno, aI E 4 s.1), (a, ob 9 [.ref tx, .ref lo, .ref no, .ref to, .ref pa, .int pe, .int un, .ref ke, .ref ik, .ref sc, .ref w, .ref bp, .ref ac, .ref br, .int bs, .int bm])]) (hF.mixed) (fun b hb => hD.off (hK b hb))) (hb) (hpv) (hw) (hs)) rfl (by decide) mi_X9_next 0 rfl rfl w_614 w_615 w_616 rfl rfl (Nat.le_of_ble_eq_true rfl) ⟨by decide, by decide⟩ ⟨by decide, by decide⟩ dX10_byLot_102 (vw2 := fun u102 => [(w, ob 8 [.ref wr, .ref ws, .ref wn, .int (nI (nn + 1))]), (wr, aI E 6 (fun j => nI ((nextR ρ (nn + 1) p) j))), (ws, aI E 6 u102.2.2), (wn, aN E 7 (fun j => some (an j))), (lo, ob 1 [.ref lt, .ref lr, .ref lw, .int (nI m), .int wa, .int lp]), (lt, aI E 4 ti), (lr, aI E 4 r), (lw, aS E 6 wf), (no, ob 3 [.ref tno, .int s.2.1, .int s.2.2.1, .int s.2.2.2.1, .int s.2.2.2.2.1, .int s.2.2.2.2.2.1, .int s.2.2.2.2.2.2.1, .int s.2.2.2.2.2.2.2]), (tno, aI E 4 s.1), (a, ob 9 [.ref tx, .ref lo, .ref no, .ref to, .ref pa, .int pe, .int un, .ref ke, .ref ik, .ref sc, .ref w, .ref bp, .ref ac, .ref br, .int bs, .int bm])]) (st2 := fun u102 => [.int 1]) (fun b hb => hD.off (hK b hb)) (fun _ => rfl) (fun _ => rfl) (fun _ => rfl) (fun u102 hq_102 => ?_)
              refine V.base mix_same ?_
              refine V.istore (lv2 := [(6, .int 1), (5, .int (nI (q.2 + 1))), (0, .ref a), (1, .int (nI k)), (2, .int mm), (3, .int y), (4, .int (nI q.1))]) dX10_byLot_105 (by decide) rfl ?_
              refine V.goto (tgt := 63) dX10_byLot_107 (by decide) ?_
              refine V.locals [2, 3, 4, 5, 6, 1, 0] (by rfl) ?_
              exact ih_63 (nextR ρ (nn + 1) p) u102.1 u102.2.1 u102.2.2 (q.1, q.2 + 1) 1 (nextR_in (by have h9 := pivotC_le ρ nn; omega) hρ) hq_102.1 hq_102.2.1 hq_102.2.2.1 hq_102.2.2.2 (by first | omega | (simp only []; omega)) (by first | omega | (simp only []; omega)) (Or.inl ⟨rfl, by rw [rowsG_some hst] at hrun; show List.foldl _ _ (rowsG _ (720 - (q.2 + 1)) _) = _; rw [show 720 - (q.2 + 1) = d by omega, ← hbs9]; exact hrun⟩) (by first | omega | (simp only []; omega))
          · skip
            refine V.iinc (v := (nI (q.1 + 1))) (lv2 := [(4, .int (nI (q.1 + 1))), (0, .ref a), (1, .int (nI k)), (2, .int mm), (3, .int y), (5, .int (nI q.2)), (6, .int mo)]) dX10_byLot_88 4 rfl (nI_1 _) (by decide) rfl ?_
            refine V.iinc (v := (nI (q.2 + 1))) (lv2 := [(5, .int (nI (q.2 + 1))), (4, .int (nI (q.1 + 1))), (0, .ref a), (1, .int (nI k)), (2, .int mm), (3, .int y), (6, .int mo)]) dX10_byLot_91 5 rfl (nI_1 _) (by decide) rfl ?_
            have hbs9 : lotStep (m, sf, wa, ti, r) s N k mm q ρ = (q.1 + 1, q.2 + 1) := if_pos (Int32.not_lt.mp c7_85)
            refine V.aload_n dX10_byLot_94 2 rfl ?_
            refine V.getf 10 10 rfl fa_X10_54_9 rfl dX10_byLot_95 ?_
            refine V.aload_n dX10_byLot_98 2 rfl ?_
            refine V.getf 10 1 rfl fa_X10_19_9 rfl dX10_byLot_99 ?_
            rcases stepR_cases N ρ with ⟨hN0, hst⟩ | ⟨nn, hN0, hpv, hst⟩ | ⟨nn, p, hN0, hpv, hst⟩
            · skip
              subst hN0
              refine V.callVp (As := [.ref lo]) (rest := []) [0] (c_Walks_next0 E l L _ w wr ws wn lo) rfl (by decide) mi_X9_next 0 rfl rfl w_614 w_615 w_616 rfl rfl (Nat.le_of_ble_eq_true rfl) ⟨by decide, by decide⟩ ⟨by decide, by decide⟩ dX10_byLot_102 (vw2 := fun _ => [(w, ob 8 [.ref wr, .ref ws, .ref wn, .int (nI 0)]), (wr, aI E 6 (fun j => nI (ρ j))), (ws, aI E 6 sm), (wn, aN E 7 (fun j => some (an j))), (lo, ob 1 [.ref lt, .ref lr, .ref lw, .int (nI m), .int wa, .int lp]), (lt, aI E 4 ti), (lr, aI E 4 r), (lw, aS E 6 wf), (no, ob 3 [.ref tno, .int s.2.1, .int s.2.2.1, .int s.2.2.2.1, .int s.2.2.2.2.1, .int s.2.2.2.2.2.1, .int s.2.2.2.2.2.2.1, .int s.2.2.2.2.2.2.2]), (tno, aI E 4 s.1), (a, ob 9 [.ref tx, .ref lo, .ref no, .ref to, .ref pa, .int pe, .int un, .ref ke, .ref ik, .ref sc, .ref w, .ref bp, .ref ac, .ref br, .int bs, .int bm])]) (st2 := fun _ => [.int 0]) (fun _ => rfl) (fun _ => rfl) (fun _ => rfl) (fun _ _ => ?_)
              refine V.istore (lv2 := [(6, .int 0), (5, .int (nI (q.2 + 1))), (4, .int (nI (q.1 + 1))), (0, .ref a), (1, .int (nI k)), (2, .int mm), (3, .int y)]) dX10_byLot_105 (by decide) rfl ?_
              refine V.goto (tgt := 63) dX10_byLot_107 (by decide) ?_
              refine V.locals [3, 4, 5, 6, 2, 1, 0] (by rfl) ?_
              exact ih_63 ρ g f sm (q.1 + 1, q.2 + 1) 0 hρ hF hw hs hb (by first | omega | (simp only []; omega)) (by first | omega | (simp only []; omega)) (Or.inr ⟨rfl, by rw [rowsG_none hst] at hrun; exact hbs9.symm.trans hrun⟩) (by first | omega | (simp only []; omega))
            · skip
              subst hN0
              refine V.callVp (As := [.ref lo]) (rest := []) [0, 1] (c_Walks_next1 E l L _ w wr ws wn nn ρ lo (by omega) (fun i hi => Nat.lt_of_lt_of_le (hρ i hi) hm) (hpv)) rfl (by decide) mi_X9_next 0 rfl rfl w_614 w_615 w_616 rfl rfl (Nat.le_of_ble_eq_true rfl) ⟨by decide, by decide⟩ ⟨by decide, by decide⟩ dX10_byLot_102 (vw2 := fun _ => [(w, ob 8 [.ref wr, .ref ws, .ref wn, .int (nI (nn + 1))]), (wr, aI E 6 (fun j => nI (ρ j))), (ws, aI E 6 sm), (wn, aN E 7 (fun j => some (an j))), (lo, ob 1 [.ref lt, .ref lr, .ref lw, .int (nI m), .int wa, .int lp]), (lt, aI E 4 ti), (lr, aI E 4 r), (lw, aS E 6 wf), (no, ob 3 [.ref tno, .int s.2.1, .int s.2.2.1, .int s.2.2.2.1, .int s.2.2.2.2.1, .int s.2.2.2.2.2.1, .int s.2.2.2.2.2.2.1, .int s.2.2.2.2.2.2.2]), (tno, aI E 4 s.1), (a, ob 9 [.ref tx, .ref lo, .ref no, .ref to, .ref pa, .int pe, .int un, .ref ke, .ref ik, .ref sc, .ref w, .ref bp, .ref ac, .ref br, .int bs, .int bm])]) (st2 := fun _ => [.int 0]) (fun _ => rfl) (fun _ => rfl) (fun _ => rfl) (fun _ _ => ?_)
              refine V.istore (lv2 := [(6, .int 0), (5, .int (nI (q.2 + 1))), (4, .int (nI (q.1 + 1))), (0, .ref a), (1, .int (nI k)), (2, .int mm), (3, .int y)]) dX10_byLot_105 (by decide) rfl ?_
              refine V.goto (tgt := 63) dX10_byLot_107 (by decide) ?_
              refine V.locals [3, 4, 5, 6, 2, 1, 0] (by rfl) ?_
              exact ih_63 ρ g f sm (q.1 + 1, q.2 + 1) 0 hρ hF hw hs hb (by first | omega | (simp only []; omega)) (by first | omega | (simp only []; omega)) (Or.inr ⟨rfl, by rw [rowsG_none hst] at hrun; exact hbs9.symm.trans hrun⟩) (by first | omega | (simp only []; omega))
            · skip
              subst hN0
              refine V.callVg (As := [.ref lo]) (rest := []) [0, 1, 2, 3, 4, 5, 6, 7] (c_Walks_next E l L _ w wr ws wn ρ sm an tn lo lt lr lw m wa lp ti r wf KV sf f s nn p (by omega) (hm) (hρ) (hD) (fun b hb => hK b (List.mem_append_left [no, tno, a] hb)) (((hSh.mixed (fun b hb => Or.inr hb)).over (vw := [(w, ob 8 [.ref wr, .ref ws, .ref wn, .int (nI (nn + 1))]), (wr, aI E 6 (fun j => nI (ρ j))), (ws, aI E 6 sm), (wn, aN E 7 (fun j => some (an j))), (lo, ob 1 [.ref lt, .ref lr, .ref lw, .int (nI m), .int wa, .int lp]), (lt, aI E 4 ti), (lr, aI E 4 r), (lw, aS E 6 wf), (no, ob 3 [.ref tno, .int s.2.1, .int s.2.2.1, .int s.2.2.2.1, .int s.2.2.2.2.1, .int s.2.2.2.2.2.1, .int s.2.2.2.2.2.2.1, .int s.2.2.2.2.2.2.2]), (tno, aI E 4 s.1), (a, ob 9 [.ref tx, .ref lo, .ref no, .ref to, .ref pa, .int pe, .int un, .ref ke, .ref ik, .ref sc, .ref w, .ref bp, .ref ac, .ref br, .int bs, .int bm])]) (fun b hb => Or.inl (hK b hb)))) (FN.over (vw := [(w, ob 8 [.ref wr, .ref ws, .ref wn, .int (nI (nn + 1))]), (wr, aI E 6 (fun j => nI (ρ j))), (ws, aI E 6 sm), (wn, aN E 7 (fun j => some (an j))), (lo, ob 1 [.ref lt, .ref lr, .ref lw, .int (nI m), .int wa, .int lp]), (lt, aI E 4 ti), (lr, aI E 4 r), (lw, aS E 6 wf), (no, ob 3 [.ref tno, .int s.2.1, .int s.2.2.1, .int s.2.2.2.1, .int s.2.2.2.2.1, .int s.2.2.2.2.2.1, .int s.2.2.2.2.2.2.1, .int s.2.2.2.2.2.2.2]), (tno, aI E 4 s.1), (a, ob 9 [.ref tx, .ref lo, .ref no, .ref to, .ref pa, .int pe, .int un, .ref ke, .ref ik, .ref sc, .ref w, .ref bp, .ref ac, .ref br, .int bs, .int bm])]) (hF.mixed) (fun b hb => hD.off (hK b hb))) (hb) (hpv) (hw) (hs)) rfl (by decide) mi_X9_next 0 rfl rfl w_614 w_615 w_616 rfl rfl (Nat.le_of_ble_eq_true rfl) ⟨by decide, by decide⟩ ⟨by decide, by decide⟩ dX10_byLot_102 (vw2 := fun u102 => [(w, ob 8 [.ref wr, .ref ws, .ref wn, .int (nI (nn + 1))]), (wr, aI E 6 (fun j => nI ((nextR ρ (nn + 1) p) j))), (ws, aI E 6 u102.2.2), (wn, aN E 7 (fun j => some (an j))), (lo, ob 1 [.ref lt, .ref lr, .ref lw, .int (nI m), .int wa, .int lp]), (lt, aI E 4 ti), (lr, aI E 4 r), (lw, aS E 6 wf), (no, ob 3 [.ref tno, .int s.2.1, .int s.2.2.1, .int s.2.2.2.1, .int s.2.2.2.2.1, .int s.2.2.2.2.2.1, .int s.2.2.2.2.2.2.1, .int s.2.2.2.2.2.2.2]), (tno, aI E 4 s.1), (a, ob 9 [.ref tx, .ref lo, .ref no, .ref to, .ref pa, .int pe, .int un, .ref ke, .ref ik, .ref sc, .ref w, .ref bp, .ref ac, .ref br, .int bs, .int bm])]) (st2 := fun u102 => [.int 1]) (fun b hb => hD.off (hK b hb)) (fun _ => rfl) (fun _ => rfl) (fun _ => rfl) (fun u102 hq_102 => ?_)
              refine V.base mix_same ?_
              refine V.istore (lv2 := [(6, .int 1), (5, .int (nI (q.2 + 1))), (4, .int (nI (q.1 + 1))), (0, .ref a), (1, .int (nI k)), (2, .int mm), (3, .int y)]) dX10_byLot_105 (by decide) rfl ?_
              refine V.goto (tgt := 63) dX10_byLot_107 (by decide) ?_
              refine V.locals [3, 4, 5, 6, 2, 1, 0] (by rfl) ?_
              exact ih_63 (nextR ρ (nn + 1) p) u102.1 u102.2.1 u102.2.2 (q.1 + 1, q.2 + 1) 1 (nextR_in (by have h9 := pivotC_le ρ nn; omega) hρ) hq_102.1 hq_102.2.1 hq_102.2.2.1 hq_102.2.2.2 (by first | omega | (simp only []; omega)) (by first | omega | (simp only []; omega)) (Or.inl ⟨rfl, by rw [rowsG_some hst] at hrun; show List.foldl _ _ (rowsG _ (720 - (q.2 + 1)) _) = _; rw [show 720 - (q.2 + 1) = d by omega, ← hbs9]; exact hrun⟩) (by first | omega | (simp only []; omega))
  exact lp_63 (721) ρ1 u58.1 u58.2.1 u58.2.2 (0, 0) 1 hset hq_58.1 hq_58.2.1 hq_58.2.2.1 hq_58.2.2.2 (Nat.le_refl _) (by omega) (Or.inl ⟨rfl, rfl⟩) (by omega)

set_option maxHeartbeats 4000000 in
set_option maxRecDepth 100000 in
theorem c_RL_ordersU (E : vEnv) (l : Launch) (L : List Nat) (h : Nat → va_E) (a : Nat) (tx : Nat) (lo : Nat) (no : Nat) (to : Nat) (pa : Nat) (ke : Nat) (ik : Nat) (sc : Nat) (w : Nat) (bp : Nat) (ac : Nat) (br : Nat) (pe : Int32) (un : Int32) (bs : Int32) (bm : Int32) (lt : Nat) (lr : Nat) (lw : Nat) (m : Nat) (wa : Int32) (lp : Int32) (xs : Int32) (x : Int32) (hm : m ≤ 6) (hx : withinI xs 0 (nI (2 ^ m - 1)) = 0) : CT E l yX10_orders cX10_orders 7 (some (.int)) 3 0 0 L h [(a, ob 9 [.ref tx, .ref lo, .ref no, .ref to, .ref pa, .int pe, .int un, .ref ke, .ref ik, .ref sc, .ref w, .ref bp, .ref ac, .ref br, .int bs, .int bm]), (lo, ob 1 [.ref lt, .ref lr, .ref lw, .int (nI m), .int wa, .int lp])] [.ref a, .int xs, .int x] (qP L h (fun (_ : Unit) => [(a, ob 9 [.ref tx, .ref lo, .ref no, .ref to, .ref pa, .int pe, .int un, .ref ke, .ref ik, .ref sc, .ref w, .ref bp, .ref ac, .ref br, .int bs, .int bm]), (lo, ob 1 [.ref lt, .ref lr, .ref lw, .int (nI m), .int wa, .int lp])]) (fun _ => some (.int (-2))) (fun _ => True)) := by
  refine CT.ofV (by decide +kernel) (Nat.le_of_ble_eq_true rfl) ?_
  refine V.locals2 (lv2 := [(0, .ref a), (1, .int xs), (2, .int x)]) rfl ?_
  refine V.aload_n dX10_orders_0 0 rfl ?_
  refine V.iload_n dX10_orders_1 1 rfl ?_
  refine V.callVp (As := [.int xs]) (rest := []) [0, 1] (c_RL_isSet E l L _ a tx lo no to pa ke ik sc w bp ac br pe un bs bm lt lr lw m wa lp xs (by omega)) rfl (by decide) mi_X10_isSet 0 rfl rfl w_583 w_585 wp_1 rfl rfl (Nat.le_of_ble_eq_true rfl) ⟨by decide, by decide⟩ ⟨by decide, by decide⟩ dX10_orders_2 (vw2 := fun _ => [(a, ob 9 [.ref tx, .ref lo, .ref no, .ref to, .ref pa, .int pe, .int un, .ref ke, .ref ik, .ref sc, .ref w, .ref bp, .ref ac, .ref br, .int bs, .int bm]), (lo, ob 1 [.ref lt, .ref lr, .ref lw, .int (nI m), .int wa, .int lp])]) (st2 := fun _ => [.int (withinI xs 0 (nI (2 ^ m - 1)))]) (fun _ => rfl) (fun _ => rfl) (fun _ => rfl) (fun _ _ => ?_)
  refine V.topc (v := 0) (hx) ?_
  refine V.if_ne (tgt := 11) dX10_orders_5 (by decide) (fun hc => absurd (by decide) hc) (fun _ => ?_)
  refine V.bipush (v := (-2)) dX10_orders_8 (by decide) ?_
  exact V.iret rfl dX10_orders_10 (⟨(), rfl, rfl, rfl, trivial⟩)

set_option maxHeartbeats 4000000 in
set_option maxRecDepth 100000 in
theorem c_RL_ordersO (E : vEnv) (l : Launch) (L : List Nat) (h : Nat → va_E) (a : Nat) (tx : Nat) (lo : Nat) (no : Nat) (to : Nat) (pa : Nat) (ke : Nat) (ik : Nat) (sc : Nat) (w : Nat) (bp : Nat) (ac : Nat) (br : Nat) (pe : Int32) (un : Int32) (bs : Int32) (bm : Int32) (lt : Nat) (lr : Nat) (lw : Nat) (m : Nat) (wa : Int32) (lp : Int32) (xs : Int32) (x : Int32) (hm : m ≤ 6) (hx : withinI xs 0 (nI (2 ^ m - 1)) = 1) (hi : withinI x (-1) 5 = 0) : CT E l yX10_orders cX10_orders 7 (some (.int)) 3 0 0 L h [(a, ob 9 [.ref tx, .ref lo, .ref no, .ref to, .ref pa, .int pe, .int un, .ref ke, .ref ik, .ref sc, .ref w, .ref bp, .ref ac, .ref br, .int bs, .int bm]), (lo, ob 1 [.ref lt, .ref lr, .ref lw, .int (nI m), .int wa, .int lp])] [.ref a, .int xs, .int x] (qP L h (fun (_ : Unit) => [(a, ob 9 [.ref tx, .ref lo, .ref no, .ref to, .ref pa, .int pe, .int un, .ref ke, .ref ik, .ref sc, .ref w, .ref bp, .ref ac, .ref br, .int bs, .int bm]), (lo, ob 1 [.ref lt, .ref lr, .ref lw, .int (nI m), .int wa, .int lp])]) (fun _ => some (.int (-3))) (fun _ => True)) := by
  refine CT.ofV (by decide +kernel) (Nat.le_of_ble_eq_true rfl) ?_
  refine V.locals2 (lv2 := [(0, .ref a), (1, .int xs), (2, .int x)]) rfl ?_
  refine V.aload_n dX10_orders_0 0 rfl ?_
  refine V.iload_n dX10_orders_1 1 rfl ?_
  refine V.callVp (As := [.int xs]) (rest := []) [0, 1] (c_RL_isSet E l L _ a tx lo no to pa ke ik sc w bp ac br pe un bs bm lt lr lw m wa lp xs (by omega)) rfl (by decide) mi_X10_isSet 0 rfl rfl w_583 w_585 wp_1 rfl rfl (Nat.le_of_ble_eq_true rfl) ⟨by decide, by decide⟩ ⟨by decide, by decide⟩ dX10_orders_2 (vw2 := fun _ => [(a, ob 9 [.ref tx, .ref lo, .ref no, .ref to, .ref pa, .int pe, .int un, .ref ke, .ref ik, .ref sc, .ref w, .ref bp, .ref ac, .ref br, .int bs, .int bm]), (lo, ob 1 [.ref lt, .ref lr, .ref lw, .int (nI m), .int wa, .int lp])]) (st2 := fun _ => [.int (withinI xs 0 (nI (2 ^ m - 1)))]) (fun _ => rfl) (fun _ => rfl) (fun _ => rfl) (fun _ _ => ?_)
  refine V.topc (v := 1) (hx) ?_
  refine V.if_ne (tgt := 11) dX10_orders_5 (by decide) (fun _ => ?_) (fun hc => absurd hc (by decide))
  refine V.iload_n dX10_orders_11 2 rfl ?_
  refine V.iconst (v := (-1)) dX10_orders_12 (by decide) ?_
  refine V.iconst (v := 5) dX10_orders_13 (by decide) ?_
  refine V.callSp (As := [.int x, .int (-1), .int 5]) (rest := []) [] (c_within E l L _ x ((-1)) 5) rfl (by decide) mi_X10_isWithin w_267 w_268 rfl rfl (Nat.le_of_ble_eq_true rfl) ⟨by decide, by decide⟩ ⟨by decide, by decide⟩ dX10_orders_14 (vw2 := fun _ => [(a, ob 9 [.ref tx, .ref lo, .ref no, .ref to, .ref pa, .int pe, .int un, .ref ke, .ref ik, .ref sc, .ref w, .ref bp, .ref ac, .ref br, .int bs, .int bm]), (lo, ob 1 [.ref lt, .ref lr, .ref lw, .int (nI m), .int wa, .int lp])]) (st2 := fun _ => [.int (withinI x (-1) 5)]) (fun _ => rfl) (fun _ => rfl) (fun _ => rfl) (fun _ _ => ?_)
  refine V.topc (v := 0) (hi) ?_
  refine V.if_ne (tgt := 23) dX10_orders_17 (by decide) (fun hc => absurd (by decide) hc) (fun _ => ?_)
  refine V.bipush (v := (-3)) dX10_orders_20 (by decide) ?_
  exact V.iret rfl dX10_orders_22 (⟨(), rfl, rfl, rfl, trivial⟩)

set_option maxHeartbeats 4000000 in
set_option maxRecDepth 100000 in
theorem c_RL_orders (E : vEnv) (l : Launch) (L : List Nat) (h : Nat → va_E) (a : Nat) (tx : Nat) (lo : Nat) (no : Nat) (to : Nat) (pa : Nat) (ke : Nat) (ik : Nat) (sc : Nat) (w : Nat) (bp : Nat) (ac : Nat) (br : Nat) (pe : Int32) (un : Int32) (bs : Int32) (bm : Int32) (wr : Nat) (ws : Nat) (wn : Nat) (lt : Nat) (lr : Nat) (lw : Nat) (m : Nat) (wa : Int32) (lp : Int32) (ti : Nat → Int32) (r : Nat → Int32) (wf : Nat → Option Nat) (tno : Nat) (s : NS) (tsc : Nat) (σ : NS) (an : Nat → Nat) (tn : Nat → Nat) (KV : Nat → Prop) (sf : Nat → SHP) (f0 : Nat → NS) (ρ0 : Nat → Nat) (sm0 : Nat → Int32) (n0 : Int32) (xs : Int32) (x : Int32) (hm : m ≤ 6) (hset : ∀ i, i < (fillW (nI (2 ^ m - 1)) ρ0 6).1 → (fillW (nI (2 ^ m - 1)) ρ0 6).2 i < m) (hD : FD L KV an tn 7) (hK : ∀ b ∈ [w, wr, ws, wn, lo, lt, lr, lw, sc, tsc, no, tno, a], KV b) (hSh : ShopsAt L (fun b => KV b ∨ inF an tn 7 b) m wf sf h) (hF0 : FN E an tn 7 f0 h) (hb0 : ∀ j, j < 7 → (f0 j).2.2.2.2.2.2.2 = 0 ∨ (f0 j).2.2.2.2.2.2.2 = 1) (hbs : s.2.2.2.2.2.2.2 = 0 ∨ s.2.2.2.2.2.2.2 = 1) (hx : withinI xs 0 (nI (2 ^ m - 1)) = 1) (hi : withinI x (-1) 5 = 1) : CT E l yX10_orders cX10_orders 7 (some (.int)) 8 0 0 L h [(w, ob 8 [.ref wr, .ref ws, .ref wn, .int n0]), (wr, aI E 6 (fun j => nI (ρ0 j))), (ws, aI E 6 sm0), (wn, aN E 7 (fun j => some (an j))), (lo, ob 1 [.ref lt, .ref lr, .ref lw, .int (nI m), .int wa, .int lp]), (lt, aI E 4 ti), (lr, aI E 4 r), (lw, aS E 6 wf), (sc, ob 3 [.ref tsc, .int σ.2.1, .int σ.2.2.1, .int σ.2.2.2.1, .int σ.2.2.2.2.1, .int σ.2.2.2.2.2.1, .int σ.2.2.2.2.2.2.1, .int σ.2.2.2.2.2.2.2]), (tsc, aI E 4 σ.1), (no, ob 3 [.ref tno, .int s.2.1, .int s.2.2.1, .int s.2.2.2.1, .int s.2.2.2.2.1, .int s.2.2.2.2.2.1, .int s.2.2.2.2.2.2.1, .int s.2.2.2.2.2.2.2]), (tno, aI E 4 s.1), (a, ob 9 [.ref tx, .ref lo, .ref no, .ref to, .ref pa, .int pe, .int un, .ref ke, .ref ik, .ref sc, .ref w, .ref bp, .ref ac, .ref br, .int bs, .int bm])] [.ref a, .int xs, .int x] (qG L h (inF an tn 7) (fun (u : (Nat → va_E) × (Nat → NS) × (Nat → Nat) × (Nat → Int32)) => u.1) (fun (u : (Nat → va_E) × (Nat → NS) × (Nat → Nat) × (Nat → Int32)) => [(w, ob 8 [.ref wr, .ref ws, .ref wn, .int (nI (fillW (nI (2 ^ m - 1)) ρ0 6).1)]), (wr, aI E 6 (fun j => nI (u.2.2.1 j))), (ws, aI E 6 u.2.2.2), (wn, aN E 7 (fun j => some (an j))), (lo, ob 1 [.ref lt, .ref lr, .ref lw, .int (nI m), .int wa, .int lp]), (lt, aI E 4 ti), (lr, aI E 4 r), (lw, aS E 6 wf), (sc, ob 3 [.ref tsc, .int (freshN lp s).2.1, .int (freshN lp s).2.2.1, .int (freshN lp s).2.2.2.1, .int (freshN lp s).2.2.2.2.1, .int (freshN lp s).2.2.2.2.2.1, .int (freshN lp s).2.2.2.2.2.2.1, .int (freshN lp s).2.2.2.2.2.2.2]), (tsc, aI E 4 (freshN lp s).1), (no, ob 3 [.ref tno, .int s.2.1, .int s.2.2.1, .int s.2.2.2.1, .int s.2.2.2.2.1, .int s.2.2.2.2.2.1, .int s.2.2.2.2.2.2.1, .int s.2.2.2.2.2.2.2]), (tno, aI E 4 s.1), (a, ob 9 [.ref tx, .ref lo, .ref no, .ref to, .ref pa, .int pe, .int un, .ref ke, .ref ik, .ref sc, .ref w, .ref bp, .ref ac, .ref br, .int bs, .int bm])]) (fun u => some (.int (if x = -1 then nI (List.foldl (ordStep (m, sf, wa, ti, r) (freshN lp s) (fillW (nI (2 ^ m - 1)) ρ0 6).1 xs x) (0, -1) (rowsG (fillW (nI (2 ^ m - 1)) ρ0 6).1 720 (fillW (nI (2 ^ m - 1)) ρ0 6).2)).1 else (List.foldl (ordStep (m, sf, wa, ti, r) (freshN lp s) (fillW (nI (2 ^ m - 1)) ρ0 6).1 xs x) (0, -1) (rowsG (fillW (nI (2 ^ m - 1)) ρ0 6).1 720 (fillW (nI (2 ^ m - 1)) ρ0 6).2)).2))) (fun u => FN E an tn 7 u.2.1 u.1 ∧ (∀ j, j < 7 → (u.2.1 j).2.2.2.2.2.2.2 = 0 ∨ (u.2.1 j).2.2.2.2.2.2.2 = 1))) := by
  refine CT.ofV (by decide +kernel) (Nat.le_of_ble_eq_true rfl) ?_
  obtain ⟨Z, hZ⟩ : ∃ Z, Z = mZ E (qG L h (inF an tn 7) (fun (u : (Nat → va_E) × (Nat → NS) × (Nat → Nat) × (Nat → Int32)) => u.1) (fun (u : (Nat → va_E) × (Nat → NS) × (Nat → Nat) × (Nat → Int32)) => [(w, ob 8 [.ref wr, .ref ws, .ref wn, .int (nI (fillW (nI (2 ^ m - 1)) ρ0 6).1)]), (wr, aI E 6 (fun j => nI (u.2.2.1 j))), (ws, aI E 6 u.2.2.2), (wn, aN E 7 (fun j => some (an j))), (lo, ob 1 [.ref lt, .ref lr, .ref lw, .int (nI m), .int wa, .int lp]), (lt, aI E 4 ti), (lr, aI E 4 r), (lw, aS E 6 wf), (sc, ob 3 [.ref tsc, .int (freshN lp s).2.1, .int (freshN lp s).2.2.1, .int (freshN lp s).2.2.2.1, .int (freshN lp s).2.2.2.2.1, .int (freshN lp s).2.2.2.2.2.1, .int (freshN lp s).2.2.2.2.2.2.1, .int (freshN lp s).2.2.2.2.2.2.2]), (tsc, aI E 4 (freshN lp s).1), (no, ob 3 [.ref tno, .int s.2.1, .int s.2.2.1, .int s.2.2.2.1, .int s.2.2.2.2.1, .int s.2.2.2.2.2.1, .int s.2.2.2.2.2.2.1, .int s.2.2.2.2.2.2.2]), (tno, aI E 4 s.1), (a, ob 9 [.ref tx, .ref lo, .ref no, .ref to, .ref pa, .int pe, .int un, .ref ke, .ref ik, .ref sc, .ref w, .ref bp, .ref ac, .ref br, .int bs, .int bm])]) (fun u => some (.int (if x = -1 then nI (List.foldl (ordStep (m, sf, wa, ti, r) (freshN lp s) (fillW (nI (2 ^ m - 1)) ρ0 6).1 xs x) (0, -1) (rowsG (fillW (nI (2 ^ m - 1)) ρ0 6).1 720 (fillW (nI (2 ^ m - 1)) ρ0 6).2)).1 else (List.foldl (ordStep (m, sf, wa, ti, r) (freshN lp s) (fillW (nI (2 ^ m - 1)) ρ0 6).1 xs x) (0, -1) (rowsG (fillW (nI (2 ^ m - 1)) ρ0 6).1 720 (fillW (nI (2 ^ m - 1)) ρ0 6).2)).2))) (fun u => FN E an tn 7 u.2.1 u.1 ∧ (∀ j, j < 7 → (u.2.1 j).2.2.2.2.2.2.2 = 0 ∨ (u.2.1 j).2.2.2.2.2.2.2 = 1))) 0 0 := ⟨_, rfl⟩
  rw [← hZ]
  refine V.locals2 (lv2 := [(0, .ref a), (1, .int xs), (2, .int x)]) rfl ?_
  refine V.aload_n dX10_orders_0 0 rfl ?_
  refine V.iload_n dX10_orders_1 1 rfl ?_
  refine V.callVp (As := [.int xs]) (rest := []) [12, 4] (c_RL_isSet E l L _ a tx lo no to pa ke ik sc w bp ac br pe un bs bm lt lr lw m wa lp xs (by omega)) rfl (by decide) mi_X10_isSet 12 rfl rfl w_583 w_585 wp_1 rfl rfl (Nat.le_of_ble_eq_true rfl) ⟨by decide, by decide⟩ ⟨by decide, by decide⟩ dX10_orders_2 (vw2 := fun _ => [(w, ob 8 [.ref wr, .ref ws, .ref wn, .int n0]), (wr, aI E 6 (fun j => nI (ρ0 j))), (ws, aI E 6 sm0), (wn, aN E 7 (fun j => some (an j))), (lo, ob 1 [.ref lt, .ref lr, .ref lw, .int (nI m), .int wa, .int lp]), (lt, aI E 4 ti), (lr, aI E 4 r), (lw, aS E 6 wf), (sc, ob 3 [.ref tsc, .int σ.2.1, .int σ.2.2.1, .int σ.2.2.2.1, .int σ.2.2.2.2.1, .int σ.2.2.2.2.2.1, .int σ.2.2.2.2.2.2.1, .int σ.2.2.2.2.2.2.2]), (tsc, aI E 4 σ.1), (no, ob 3 [.ref tno, .int s.2.1, .int s.2.2.1, .int s.2.2.2.1, .int s.2.2.2.2.1, .int s.2.2.2.2.2.1, .int s.2.2.2.2.2.2.1, .int s.2.2.2.2.2.2.2]), (tno, aI E 4 s.1), (a, ob 9 [.ref tx, .ref lo, .ref no, .ref to, .ref pa, .int pe, .int un, .ref ke, .ref ik, .ref sc, .ref w, .ref bp, .ref ac, .ref br, .int bs, .int bm])]) (st2 := fun _ => [.int (withinI xs 0 (nI (2 ^ m - 1)))]) (fun _ => rfl) (fun _ => rfl) (fun _ => rfl) (fun _ _ => ?_)
  refine V.topc (v := 1) (hx) ?_
  refine V.if_ne (tgt := 11) dX10_orders_5 (by decide) (fun _ => ?_) (fun hc => absurd hc (by decide))
  refine V.iload_n dX10_orders_11 2 rfl ?_
  refine V.iconst (v := (-1)) dX10_orders_12 (by decide) ?_
  refine V.iconst (v := 5) dX10_orders_13 (by decide) ?_
  refine V.callSp (As := [.int x, .int (-1), .int 5]) (rest := []) [] (c_within E l L _ x ((-1)) 5) rfl (by decide) mi_X10_isWithin w_267 w_268 rfl rfl (Nat.le_of_ble_eq_true rfl) ⟨by decide, by decide⟩ ⟨by decide, by decide⟩ dX10_orders_14 (vw2 := fun _ => [(w, ob 8 [.ref wr, .ref ws, .ref wn, .int n0]), (wr, aI E 6 (fun j => nI (ρ0 j))), (ws, aI E 6 sm0), (wn, aN E 7 (fun j => some (an j))), (lo, ob 1 [.ref lt, .ref lr, .ref lw, .int (nI m), .int wa, .int lp]), (lt, aI E 4 ti), (lr, aI E 4 r), (lw, aS E 6 wf), (sc, ob 3 [.ref tsc, .int σ.2.1, .int σ.2.2.1, .int σ.2.2.2.1, .int σ.2.2.2.2.1, .int σ.2.2.2.2.2.1, .int σ.2.2.2.2.2.2.1, .int σ.2.2.2.2.2.2.2]), (tsc, aI E 4 σ.1), (no, ob 3 [.ref tno, .int s.2.1, .int s.2.2.1, .int s.2.2.2.1, .int s.2.2.2.2.1, .int s.2.2.2.2.2.1, .int s.2.2.2.2.2.2.1, .int s.2.2.2.2.2.2.2]), (tno, aI E 4 s.1), (a, ob 9 [.ref tx, .ref lo, .ref no, .ref to, .ref pa, .int pe, .int un, .ref ke, .ref ik, .ref sc, .ref w, .ref bp, .ref ac, .ref br, .int bs, .int bm])]) (st2 := fun _ => [.int (withinI x (-1) 5)]) (fun _ => rfl) (fun _ => rfl) (fun _ => rfl) (fun _ _ => ?_)
  refine V.topc (v := 1) (hi) ?_
  refine V.if_ne (tgt := 23) dX10_orders_17 (by decide) (fun _ => ?_) (fun hc => absurd hc (by decide))
  refine V.aload_n dX10_orders_23 0 rfl ?_
  refine V.getf 12 9 rfl fa_X10_48_9 rfl dX10_orders_24 ?_
  refine V.aload_n dX10_orders_27 0 rfl ?_
  refine V.getf 12 2 rfl fa_X10_26_9 rfl dX10_orders_28 ?_
  refine V.callVp (As := [.ref no]) (rest := []) [8, 9, 10, 11] (c_Nose_copy E l L _ sc tsc σ no tno s (hbs)) rfl (by decide) mi_X3_copy 8 rfl rfl w_526 w_527 w_528 rfl rfl (Nat.le_of_ble_eq_true rfl) ⟨by decide, by decide⟩ ⟨by decide, by decide⟩ dX10_orders_31 (vw2 := fun _ => [(w, ob 8 [.ref wr, .ref ws, .ref wn, .int n0]), (wr, aI E 6 (fun j => nI (ρ0 j))), (ws, aI E 6 sm0), (wn, aN E 7 (fun j => some (an j))), (lo, ob 1 [.ref lt, .ref lr, .ref lw, .int (nI m), .int wa, .int lp]), (lt, aI E 4 ti), (lr, aI E 4 r), (lw, aS E 6 wf), (sc, ob 3 [.ref tsc, .int s.2.1, .int s.2.2.1, .int s.2.2.2.1, .int s.2.2.2.2.1, .int s.2.2.2.2.2.1, .int s.2.2.2.2.2.2.1, .int s.2.2.2.2.2.2.2]), (tsc, aI E 4 s.1), (no, ob 3 [.ref tno, .int s.2.1, .int s.2.2.1, .int s.2.2.2.1, .int s.2.2.2.2.1, .int s.2.2.2.2.2.1, .int s.2.2.2.2.2.2.1, .int s.2.2.2.2.2.2.2]), (tno, aI E 4 s.1), (a, ob 9 [.ref tx, .ref lo, .ref no, .ref to, .ref pa, .int pe, .int un, .ref ke, .ref ik, .ref sc, .ref w, .ref bp, .ref ac, .ref br, .int bs, .int bm])]) (st2 := fun _ => []) (fun _ => rfl) (fun _ => rfl) (fun _ => rfl) (fun _ _ => ?_)
  refine V.aload_n dX10_orders_34 0 rfl ?_
  refine V.getf 12 9 rfl fa_X10_48_9 rfl dX10_orders_35 ?_
  refine V.aload_n dX10_orders_38 0 rfl ?_
  refine V.getf 12 1 rfl fa_X10_19_9 rfl dX10_orders_39 ?_
  refine V.callVp (As := [.ref lo]) (rest := []) [8, 9, 4] (c_Nose_freshen E l L _ sc tsc s lo lt lr lw m wa lp) rfl (by decide) mi_X3_freshen 8 rfl rfl w_437 w_438 w_439 rfl rfl (Nat.le_of_ble_eq_true rfl) ⟨by decide, by decide⟩ ⟨by decide, by decide⟩ dX10_orders_42 (vw2 := fun _ => [(w, ob 8 [.ref wr, .ref ws, .ref wn, .int n0]), (wr, aI E 6 (fun j => nI (ρ0 j))), (ws, aI E 6 sm0), (wn, aN E 7 (fun j => some (an j))), (lo, ob 1 [.ref lt, .ref lr, .ref lw, .int (nI m), .int wa, .int lp]), (lt, aI E 4 ti), (lr, aI E 4 r), (lw, aS E 6 wf), (sc, ob 3 [.ref tsc, .int (freshN lp s).2.1, .int (freshN lp s).2.2.1, .int (freshN lp s).2.2.2.1, .int (freshN lp s).2.2.2.2.1, .int (freshN lp s).2.2.2.2.2.1, .int (freshN lp s).2.2.2.2.2.2.1, .int (freshN lp s).2.2.2.2.2.2.2]), (tsc, aI E 4 (freshN lp s).1), (no, ob 3 [.ref tno, .int s.2.1, .int s.2.2.1, .int s.2.2.2.1, .int s.2.2.2.2.1, .int s.2.2.2.2.2.1, .int s.2.2.2.2.2.2.1, .int s.2.2.2.2.2.2.2]), (tno, aI E 4 s.1), (a, ob 9 [.ref tx, .ref lo, .ref no, .ref to, .ref pa, .int pe, .int un, .ref ke, .ref ik, .ref sc, .ref w, .ref bp, .ref ac, .ref br, .int bs, .int bm])]) (st2 := fun _ => []) (fun _ => rfl) (fun _ => rfl) (fun _ => rfl) (fun _ _ => ?_)
  refine V.iconst (v := 0) dX10_orders_45 (by decide) ?_
  refine V.istore_n (lv2 := [(3, .int 0), (0, .ref a), (1, .int xs), (2, .int x)]) dX10_orders_46 rfl (by decide) rfl ?_
  refine V.iconst (v := (-1)) dX10_orders_47 (by decide) ?_
  refine V.istore (lv2 := [(4, .int (-1)), (3, .int 0), (0, .ref a), (1, .int xs), (2, .int x)]) dX10_orders_48 (by decide) rfl ?_
  refine V.aload_n dX10_orders_50 2 rfl ?_
  refine V.getf 12 10 rfl fa_X10_54_9 rfl dX10_orders_51 ?_
  refine V.aload_n dX10_orders_54 2 rfl ?_
  refine V.getf 12 1 rfl fa_X10_19_9 rfl dX10_orders_55 ?_
  refine V.aload_n dX10_orders_58 2 rfl ?_
  refine V.getf 12 9 rfl fa_X10_48_9 rfl dX10_orders_59 ?_
  refine V.aload_n dX10_orders_62 2 rfl ?_
  refine V.callVp (As := []) (rest := [.ref sc, .ref lo, .ref w]) [12, 4] (c_RL_allShops E l L _ a tx lo no to pa ke ik sc w bp ac br pe un bs bm lt lr lw m wa lp (by omega)) rfl (by decide) mi_X10_allShops 12 rfl rfl w_587 w_589 wp_2 rfl rfl (Nat.le_of_ble_eq_true rfl) ⟨by decide, by decide⟩ ⟨by decide, by decide⟩ dX10_orders_63 (vw2 := fun _ => [(w, ob 8 [.ref wr, .ref ws, .ref wn, .int n0]), (wr, aI E 6 (fun j => nI (ρ0 j))), (ws, aI E 6 sm0), (wn, aN E 7 (fun j => some (an j))), (lo, ob 1 [.ref lt, .ref lr, .ref lw, .int (nI m), .int wa, .int lp]), (lt, aI E 4 ti), (lr, aI E 4 r), (lw, aS E 6 wf), (sc, ob 3 [.ref tsc, .int (freshN lp s).2.1, .int (freshN lp s).2.2.1, .int (freshN lp s).2.2.2.1, .int (freshN lp s).2.2.2.2.1, .int (freshN lp s).2.2.2.2.2.1, .int (freshN lp s).2.2.2.2.2.2.1, .int (freshN lp s).2.2.2.2.2.2.2]), (tsc, aI E 4 (freshN lp s).1), (no, ob 3 [.ref tno, .int s.2.1, .int s.2.2.1, .int s.2.2.2.1, .int s.2.2.2.2.1, .int s.2.2.2.2.2.1, .int s.2.2.2.2.2.2.1, .int s.2.2.2.2.2.2.2]), (tno, aI E 4 s.1), (a, ob 9 [.ref tx, .ref lo, .ref no, .ref to, .ref pa, .int pe, .int un, .ref ke, .ref ik, .ref sc, .ref w, .ref bp, .ref ac, .ref br, .int bs, .int bm])]) (st2 := fun _ => [.int (nI (2 ^ m - 1)), .ref sc, .ref lo, .ref w]) (fun _ => rfl) (fun _ => rfl) (fun _ => rfl) (fun _ _ => ?_)
  refine V.callVg (As := [.ref lo, .ref sc, .int (nI (2 ^ m - 1))]) (rest := []) [0, 1, 2, 3, 4, 5, 6, 7, 8, 9] (c_Walks_begin E l L _ sc tsc n0 ρ0 w wr ws wn sm0 an tn lo lt lr lw m wa lp ti r wf KV sf f0 ((freshN lp s)) ((nI (2 ^ m - 1))) (hm) (hset) (hD) (fun b hb => hK b (List.mem_append_left [no, tno, a] hb)) (hSh.over (vw := [(w, ob 8 [.ref wr, .ref ws, .ref wn, .int n0]), (wr, aI E 6 (fun j => nI (ρ0 j))), (ws, aI E 6 sm0), (wn, aN E 7 (fun j => some (an j))), (lo, ob 1 [.ref lt, .ref lr, .ref lw, .int (nI m), .int wa, .int lp]), (lt, aI E 4 ti), (lr, aI E 4 r), (lw, aS E 6 wf), (sc, ob 3 [.ref tsc, .int (freshN lp s).2.1, .int (freshN lp s).2.2.1, .int (freshN lp s).2.2.2.1, .int (freshN lp s).2.2.2.2.1, .int (freshN lp s).2.2.2.2.2.1, .int (freshN lp s).2.2.2.2.2.2.1, .int (freshN lp s).2.2.2.2.2.2.2]), (tsc, aI E 4 (freshN lp s).1), (no, ob 3 [.ref tno, .int s.2.1, .int s.2.2.1, .int s.2.2.2.1, .int s.2.2.2.2.1, .int s.2.2.2.2.2.1, .int s.2.2.2.2.2.2.1, .int s.2.2.2.2.2.2.2]), (tno, aI E 4 s.1), (a, ob 9 [.ref tx, .ref lo, .ref no, .ref to, .ref pa, .int pe, .int un, .ref ke, .ref ik, .ref sc, .ref w, .ref bp, .ref ac, .ref br, .int bs, .int bm])]) (fun b hb => Or.inl (hK b hb))) (FN.over (vw := [(w, ob 8 [.ref wr, .ref ws, .ref wn, .int n0]), (wr, aI E 6 (fun j => nI (ρ0 j))), (ws, aI E 6 sm0), (wn, aN E 7 (fun j => some (an j))), (lo, ob 1 [.ref lt, .ref lr, .ref lw, .int (nI m), .int wa, .int lp]), (lt, aI E 4 ti), (lr, aI E 4 r), (lw, aS E 6 wf), (sc, ob 3 [.ref tsc, .int (freshN lp s).2.1, .int (freshN lp s).2.2.1, .int (freshN lp s).2.2.2.1, .int (freshN lp s).2.2.2.2.1, .int (freshN lp s).2.2.2.2.2.1, .int (freshN lp s).2.2.2.2.2.2.1, .int (freshN lp s).2.2.2.2.2.2.2]), (tsc, aI E 4 (freshN lp s).1), (no, ob 3 [.ref tno, .int s.2.1, .int s.2.2.1, .int s.2.2.2.1, .int s.2.2.2.2.1, .int s.2.2.2.2.2.1, .int s.2.2.2.2.2.2.1, .int s.2.2.2.2.2.2.2]), (tno, aI E 4 s.1), (a, ob 9 [.ref tx, .ref lo, .ref no, .ref to, .ref pa, .int pe, .int un, .ref ke, .ref ik, .ref sc, .ref w, .ref bp, .ref ac, .ref br, .int bs, .int bm])]) hF0 (fun b hb => hD.off (hK b hb))) (hb0) (hbs)) rfl (by decide) mi_X9_begin 0 rfl rfl w_595 w_596 w_597 rfl rfl (Nat.le_of_ble_eq_true rfl) ⟨by decide, by decide⟩ ⟨by decide, by decide⟩ dX10_orders_66 (vw2 := fun u66 => [(w, ob 8 [.ref wr, .ref ws, .ref wn, .int (nI (fillW (nI (2 ^ m - 1)) ρ0 6).1)]), (wr, aI E 6 (fun x => nI ((fillW (nI (2 ^ m - 1)) ρ0 6).2 x))), (ws, aI E 6 u66.2.2), (wn, aN E 7 (fun j => some (an j))), (lo, ob 1 [.ref lt, .ref lr, .ref lw, .int (nI m), .int wa, .int lp]), (lt, aI E 4 ti), (lr, aI E 4 r), (lw, aS E 6 wf), (sc, ob 3 [.ref tsc, .int (freshN lp s).2.1, .int (freshN lp s).2.2.1, .int (freshN lp s).2.2.2.1, .int (freshN lp s).2.2.2.2.1, .int (freshN lp s).2.2.2.2.2.1, .int (freshN lp s).2.2.2.2.2.2.1, .int (freshN lp s).2.2.2.2.2.2.2]), (tsc, aI E 4 (freshN lp s).1), (no, ob 3 [.ref tno, .int s.2.1, .int s.2.2.1, .int s.2.2.2.1, .int s.2.2.2.2.1, .int s.2.2.2.2.2.1, .int s.2.2.2.2.2.2.1, .int s.2.2.2.2.2.2.2]), (tno, aI E 4 s.1), (a, ob 9 [.ref tx, .ref lo, .ref no, .ref to, .ref pa, .int pe, .int un, .ref ke, .ref ik, .ref sc, .ref w, .ref bp, .ref ac, .ref br, .int bs, .int bm])]) (st2 := fun u66 => [.int 1]) (fun b hb => hD.off (hK b hb)) (fun _ => rfl) (fun _ => rfl) (fun _ => rfl) (fun u66 hq_66 => ?_)
  generalize hN : (fillW (nI (2 ^ m - 1)) ρ0 6).1 = N at hset hq_66 hZ ⊢
  generalize hR : (fillW (nI (2 ^ m - 1)) ρ0 6).2 = ρ1 at hset hq_66 hZ ⊢
  have hN6 : N ≤ 6 := by rw [← hN]; exact fillW_le _ _ _
  refine V.istore (lv2 := [(5, .int 1), (4, .int (-1)), (3, .int 0), (0, .ref a), (1, .int xs), (2, .int x)]) dX10_orders_69 (by decide) rfl ?_
  refine V.iconst (v := 0) dX10_orders_71 (by decide) ?_
  refine V.istore (lv2 := [(6, .int 0), (5, .int 1), (4, .int (-1)), (3, .int 0), (0, .ref a), (1, .int xs), (2, .int x)]) dX10_orders_72 (by decide) rfl ?_
  refine V.locals [4, 5, 6, 3, 2, 1, 0] (by rfl) ?_
  have lp_74 : ∀ (fuel : Nat) (n : Nat) (ρ : Nat → Nat) (g : Nat → va_E) (f : Nat → NS) (sm : Nat → Int32) (q : Nat × Int32) (mo : Int32) (hρ : ∀ i, i < N → ρ i < m) (hF : FN E an tn 7 f g) (hw : ∀ j, j ≤ N → f j = walkN (m, sf, wa, ti, r) ρ (freshN lp s) j) (hs : ∀ j, j < N → sm j = visitS (m, sf, wa, ti, r) (ρ j) (walkN (m, sf, wa, ti, r) ρ (freshN lp s) j)) (hb : ∀ j, j < 7 → (f j).2.2.2.2.2.2.2 = 0 ∨ (f j).2.2.2.2.2.2.2 = 1) (hle : q.1 ≤ n) (hn7 : n ≤ 720) (hmo : (mo = 1 ∧ List.foldl (ordStep (m, sf, wa, ti, r) (freshN lp s) N xs x) q (rowsG N (720 - n) ρ) = (List.foldl (ordStep (m, sf, wa, ti, r) (freshN lp s) N xs x) (0, -1) (rowsG N 720 ρ1))) ∨ (mo = 0 ∧ q = (List.foldl (ordStep (m, sf, wa, ti, r) (freshN lp s) N xs x) (0, -1) (rowsG N 720 ρ1)))) (hf : 720 < n + fuel), V E l yX10_orders cX10_orders 7 (some (.int)) (rmk 8 0 0) Z L (mix (inF an tn 7) g h) 0 0 [(w, ob 8 [.ref wr, .ref ws, .ref wn, .int (nI N)]), (wr, aI E 6 (fun j => nI (ρ j))), (ws, aI E 6 sm), (wn, aN E 7 (fun j => some (an j))), (lo, ob 1 [.ref lt, .ref lr, .ref lw, .int (nI m), .int wa, .int lp]), (lt, aI E 4 ti), (lr, aI E 4 r), (lw, aS E 6 wf), (sc, ob 3 [.ref tsc, .int (freshN lp s).2.1, .int (freshN lp s).2.2.1, .int (freshN lp s).2.2.2.1, .int (freshN lp s).2.2.2.2.1, .int (freshN lp s).2.2.2.2.2.1, .int (freshN lp s).2.2.2.2.2.2.1, .int (freshN lp s).2.2.2.2.2.2.2]), (tsc, aI E 4 (freshN lp s).1), (no, ob 3 [.ref tno, .int s.2.1, .int s.2.2.1, .int s.2.2.2.1, .int s.2.2.2.2.1, .int s.2.2.2.2.2.1, .int s.2.2.2.2.2.2.1, .int s.2.2.2.2.2.2.2]), (tno, aI E 4 s.1), (a, ob 9 [.ref tx, .ref lo, .ref no, .ref to, .ref pa, .int pe, .int un, .ref ke, .ref ik, .ref sc, .ref w, .ref bp, .ref ac, .ref br, .int bs, .int bm])] 74 [(0, .ref a), (1, .int xs), (2, .int x), (3, .int (nI q.1)), (4, .int q.2), (5, .int mo), (6, .int (nI n))] [] := by
    intro fuel
    induction fuel with
    | zero =>
      intro n ρ g f sm q mo hρ hF hw hs hb hle hn7 hmo hf
      exfalso; omega
    | succ fuel ih_74 =>
      intro n ρ g f sm q mo hρ hF hw hs hb hle hn7 hmo hf
      refine V.iload dX10_orders_74 5 rfl ?_
      refine V.if_eq (tgt := 137) dX10_orders_76 (by decide) (fun c1_76 => ?_) (fun c1_76 => ?_)
      · skip
        have hfin : q = (List.foldl (ordStep (m, sf, wa, ti, r) (freshN lp s) N xs x) (0, -1) (rowsG N 720 ρ1)) := (hmo.resolve_left (fun hh => absurd (hh.1.symm.trans c1_76) (by decide))).2
        refine V.iload_n dX10_orders_137 2 rfl ?_
        refine V.iconst (v := (-1)) dX10_orders_138 (by decide) ?_
        refine V.icmp_ne (tgt := 146) dX10_orders_139 (by decide) (fun c2_139 => ?_) (fun c2_139 => ?_)
        · skip
          refine V.iload dX10_orders_146 4 rfl ?_
          subst hZ
          exact V.iret rfl dX10_orders_148 (⟨(g, f, ρ, sm), by rw [if_neg c2_139, ← hfin], rfl, rfl, hF, hb⟩)
        · skip
          refine V.iload_n dX10_orders_142 3 rfl ?_
          refine V.goto (tgt := 148) dX10_orders_143 (by decide) ?_
          subst hZ
          exact V.iret rfl dX10_orders_148 (⟨(g, f, ρ, sm), by rw [if_pos c2_139, ← hfin], rfl, rfl, hF, hb⟩)
      · skip
        have hrun := (hmo.resolve_right (fun hh => c1_76 hh.1)).2
        refine V.iload dX10_orders_79 6 rfl ?_
        refine V.sipush (v := 720) dX10_orders_81 (by decide) ?_
        refine V.icmp_ge (tgt := 137) dX10_orders_84 (by decide) (fun c3_84 => ?_) (fun c3_84 => ?_)
        · skip
          have hfin : q = (List.foldl (ordStep (m, sf, wa, ti, r) (freshN lp s) N xs x) (0, -1) (rowsG N 720 ρ1)) := by
            have h9 := (nI_leI (a := 720) (by omega) (by omega)).mp c3_84
            rw [show 720 - n = 0 by omega] at hrun
            exact hrun
          refine V.iload_n dX10_orders_137 2 rfl ?_
          refine V.iconst (v := (-1)) dX10_orders_138 (by decide) ?_
          refine V.icmp_ne (tgt := 146) dX10_orders_139 (by decide) (fun c4_139 => ?_) (fun c4_139 => ?_)
          · skip
            refine V.iload dX10_orders_146 4 rfl ?_
            subst hZ
            exact V.iret rfl dX10_orders_148 (⟨(g, f, ρ, sm), by rw [if_neg c4_139, ← hfin], rfl, rfl, hF, hb⟩)
          · skip
            refine V.iload_n dX10_orders_142 3 rfl ?_
            refine V.goto (tgt := 148) dX10_orders_143 (by decide) ?_
            subst hZ
            exact V.iret rfl dX10_orders_148 (⟨(g, f, ρ, sm), by rw [if_pos c4_139, ← hfin], rfl, rfl, hF, hb⟩)
        · skip
          have hlt : n < 720 := Nat.lt_of_not_le (fun hh => c3_84 (nI_le (a := 720) hh (by omega)))
          obtain ⟨d, hd⟩ : ∃ d, 720 - n = d + 1 := ⟨719 - n, by omega⟩
          rw [hd] at hrun
          refine V.aload_n dX10_orders_87 0 rfl ?_
          refine V.getf 12 10 rfl fa_X10_54_9 rfl dX10_orders_88 ?_
          refine V.callVp (As := []) (rest := []) [0, 3] (c_Walks_end E l L _ w wr ws wn N an (hN6)) rfl (by decide) mi_X9_end 0 rfl rfl w_605 w_606 w_607 rfl rfl (Nat.le_of_ble_eq_true rfl) ⟨by decide, by decide⟩ ⟨by decide, by decide⟩ dX10_orders_91 (vw2 := fun _ => [(w, ob 8 [.ref wr, .ref ws, .ref wn, .int (nI N)]), (wr, aI E 6 (fun j => nI (ρ j))), (ws, aI E 6 sm), (wn, aN E 7 (fun j => some (an j))), (lo, ob 1 [.ref lt, .ref lr, .ref lw, .int (nI m), .int wa, .int lp]), (lt, aI E 4 ti), (lr, aI E 4 r), (lw, aS E 6 wf), (sc, ob 3 [.ref tsc, .int (freshN lp s).2.1, .int (freshN lp s).2.2.1, .int (freshN lp s).2.2.2.1, .int (freshN lp s).2.2.2.2.1, .int (freshN lp s).2.2.2.2.2.1, .int (freshN lp s).2.2.2.2.2.2.1, .int (freshN lp s).2.2.2.2.2.2.2]), (tsc, aI E 4 (freshN lp s).1), (no, ob 3 [.ref tno, .int s.2.1, .int s.2.2.1, .int s.2.2.2.1, .int s.2.2.2.2.1, .int s.2.2.2.2.2.1, .int s.2.2.2.2.2.2.1, .int s.2.2.2.2.2.2.2]), (tno, aI E 4 s.1), (a, ob 9 [.ref tx, .ref lo, .ref no, .ref to, .ref pa, .int pe, .int un, .ref ke, .ref ik, .ref sc, .ref w, .ref bp, .ref ac, .ref br, .int bs, .int bm])]) (st2 := fun _ => [.ref (an N)]) (fun _ => rfl) (fun _ => rfl) (fun _ => rfl) (fun _ _ => ?_)
          refine V.seeF ((an N)) (e := ob 3 [.ref (tn N), .int (f N).2.1, .int (f N).2.2.1, .int (f N).2.2.2.1, .int (f N).2.2.2.2.1, .int (f N).2.2.2.2.2.1, .int (f N).2.2.2.2.2.2.1, .int (f N).2.2.2.2.2.2.2]) ((hD.2.2.2 N (by omega)).1) (fun hm => hD.off (hK _ hm) (inF_a (by omega))) (inF_a (by omega)) ((hF N (by omega)).1) ?_
          refine V.view (vw2 := [(w, ob 8 [.ref wr, .ref ws, .ref wn, .int (nI N)]), (wr, aI E 6 (fun j => nI (ρ j))), (ws, aI E 6 sm), (wn, aN E 7 (fun j => some (an j))), (lo, ob 1 [.ref lt, .ref lr, .ref lw, .int (nI m), .int wa, .int lp]), (lt, aI E 4 ti), (lr, aI E 4 r), (lw, aS E 6 wf), (sc, ob 3 [.ref tsc, .int (freshN lp s).2.1, .int (freshN lp s).2.2.1, .int (freshN lp s).2.2.2.1, .int (freshN lp s).2.2.2.2.1, .int (freshN lp s).2.2.2.2.2.1, .int (freshN lp s).2.2.2.2.2.2.1, .int (freshN lp s).2.2.2.2.2.2.2]), (tsc, aI E 4 (freshN lp s).1), (no, ob 3 [.ref tno, .int s.2.1, .int s.2.2.1, .int s.2.2.2.1, .int s.2.2.2.2.1, .int s.2.2.2.2.2.1, .int s.2.2.2.2.2.2.1, .int s.2.2.2.2.2.2.2]), (tno, aI E 4 s.1), (a, ob 9 [.ref tx, .ref lo, .ref no, .ref to, .ref pa, .int pe, .int un, .ref ke, .ref ik, .ref sc, .ref w, .ref bp, .ref ac, .ref br, .int bs, .int bm]), ((an N), ob 3 [.ref (tn N), .int (f N).2.1, .int (f N).2.2.1, .int (f N).2.2.2.1, .int (f N).2.2.2.2.1, .int (f N).2.2.2.2.2.1, .int (f N).2.2.2.2.2.2.1, .int (f N).2.2.2.2.2.2.2])]) (L2 := L) rfl rfl ?_
          refine V.getf 13 5 rfl fa_X10_156_3 rfl dX10_orders_94 ?_
          refine V.unsee (vw := [(w, ob 8 [.ref wr, .ref ws, .ref wn, .int (nI N)]), (wr, aI E 6 (fun j => nI (ρ j))), (ws, aI E 6 sm), (wn, aN E 7 (fun j => some (an j))), (lo, ob 1 [.ref lt, .ref lr, .ref lw, .int (nI m), .int wa, .int lp]), (lt, aI E 4 ti), (lr, aI E 4 r), (lw, aS E 6 wf), (sc, ob 3 [.ref tsc, .int (freshN lp s).2.1, .int (freshN lp s).2.2.1, .int (freshN lp s).2.2.2.1, .int (freshN lp s).2.2.2.2.1, .int (freshN lp s).2.2.2.2.2.1, .int (freshN lp s).2.2.2.2.2.2.1, .int (freshN lp s).2.2.2.2.2.2.2]), (tsc, aI E 4 (freshN lp s).1), (no, ob 3 [.ref tno, .int s.2.1, .int s.2.2.1, .int s.2.2.2.1, .int s.2.2.2.2.1, .int s.2.2.2.2.2.1, .int s.2.2.2.2.2.2.1, .int s.2.2.2.2.2.2.2]), (tno, aI E 4 s.1), (a, ob 9 [.ref tx, .ref lo, .ref no, .ref to, .ref pa, .int pe, .int un, .ref ke, .ref ik, .ref sc, .ref w, .ref bp, .ref ac, .ref br, .int bs, .int bm])]) (a := (an N)) (e := ob 3 [.ref (tn N), .int (f N).2.1, .int (f N).2.2.1, .int (f N).2.2.2.1, .int (f N).2.2.2.2.1, .int (f N).2.2.2.2.2.1, .int (f N).2.2.2.2.2.2.1, .int (f N).2.2.2.2.2.2.2]) ((mix_in (inF_a (by omega))).trans (hF N (by omega)).1) ?_
          refine V.topc (v := (walkN (m, sf, wa, ti, r) ρ (freshN lp s) N).2.2.2.2.2.1) (by rw [hw N (Nat.le_refl N)]) ?_
          refine V.iload_n dX10_orders_97 1 rfl ?_
          refine V.icmp_ne (tgt := 118) dX10_orders_98 (by decide) (fun c5_98 => ?_) (fun c5_98 => ?_)
          · skip
            have hbs9 : ordStep (m, sf, wa, ti, r) (freshN lp s) N xs x q ρ = q := if_neg c5_98
            refine V.aload_n dX10_orders_118 0 rfl ?_
            refine V.getf 12 10 rfl fa_X10_54_9 rfl dX10_orders_119 ?_
            refine V.aload_n dX10_orders_122 0 rfl ?_
            refine V.getf 12 1 rfl fa_X10_19_9 rfl dX10_orders_123 ?_
            rcases stepR_cases N ρ with ⟨hN0, hst⟩ | ⟨nn, hN0, hpv, hst⟩ | ⟨nn, p, hN0, hpv, hst⟩
            · skip
              subst hN0
              refine V.callVp (As := [.ref lo]) (rest := []) [0] (c_Walks_next0 E l L _ w wr ws wn lo) rfl (by decide) mi_X9_next 0 rfl rfl w_614 w_615 w_616 rfl rfl (Nat.le_of_ble_eq_true rfl) ⟨by decide, by decide⟩ ⟨by decide, by decide⟩ dX10_orders_126 (vw2 := fun _ => [(w, ob 8 [.ref wr, .ref ws, .ref wn, .int (nI 0)]), (wr, aI E 6 (fun j => nI (ρ j))), (ws, aI E 6 sm), (wn, aN E 7 (fun j => some (an j))), (lo, ob 1 [.ref lt, .ref lr, .ref lw, .int (nI m), .int wa, .int lp]), (lt, aI E 4 ti), (lr, aI E 4 r), (lw, aS E 6 wf), (sc, ob 3 [.ref tsc, .int (freshN lp s).2.1, .int (freshN lp s).2.2.1, .int (freshN lp s).2.2.2.1, .int (freshN lp s).2.2.2.2.1, .int (freshN lp s).2.2.2.2.2.1, .int (freshN lp s).2.2.2.2.2.2.1, .int (freshN lp s).2.2.2.2.2.2.2]), (tsc, aI E 4 (freshN lp s).1), (no, ob 3 [.ref tno, .int s.2.1, .int s.2.2.1, .int s.2.2.2.1, .int s.2.2.2.2.1, .int s.2.2.2.2.2.1, .int s.2.2.2.2.2.2.1, .int s.2.2.2.2.2.2.2]), (tno, aI E 4 s.1), (a, ob 9 [.ref tx, .ref lo, .ref no, .ref to, .ref pa, .int pe, .int un, .ref ke, .ref ik, .ref sc, .ref w, .ref bp, .ref ac, .ref br, .int bs, .int bm])]) (st2 := fun _ => [.int 0]) (fun _ => rfl) (fun _ => rfl) (fun _ => rfl) (fun _ _ => ?_)
              refine V.istore (lv2 := [(5, .int 0), (0, .ref a), (1, .int xs), (2, .int x), (3, .int (nI q.1)), (4, .int q.2), (6, .int (nI n))]) dX10_orders_129 (by decide) rfl ?_
              refine V.iinc (v := (nI (n + 1))) (lv2 := [(6, .int (nI (n + 1))), (5, .int 0), (0, .ref a), (1, .int xs), (2, .int x), (3, .int (nI q.1)), (4, .int q.2)]) dX10_orders_131 6 rfl (nI_1 _) (by decide) rfl ?_
              refine V.goto (tgt := 74) dX10_orders_134 (by decide) ?_
              refine V.locals [2, 3, 4, 5, 6, 1, 0] (by rfl) ?_
              exact ih_74 (n + 1) ρ g f sm q 0 hρ hF hw hs hb (by first | omega | (simp only []; omega)) (by omega) (Or.inr ⟨rfl, by rw [rowsG_none hst] at hrun; exact hbs9.symm.trans hrun⟩) (by omega)
            · skip
              subst hN0
              refine V.callVp (As := [.ref lo]) (rest := []) [0, 1] (c_Walks_next1 E l L _ w wr ws wn nn ρ lo (by omega) (fun i hi => Nat.lt_of_lt_of_le (hρ i hi) hm) (hpv)) rfl (by decide) mi_X9_next 0 rfl rfl w_614 w_615 w_616 rfl rfl (Nat.le_of_ble_eq_true rfl) ⟨by decide, by decide⟩ ⟨by decide, by decide⟩ dX10_orders_126 (vw2 := fun _ => [(w, ob 8 [.ref wr, .ref ws, .ref wn, .int (nI (nn + 1))]), (wr, aI E 6 (fun j => nI (ρ j))), (ws, aI E 6 sm), (wn, aN E 7 (fun j => some (an j))), (lo, ob 1 [.ref lt, .ref lr, .ref lw, .int (nI m), .int wa, .int lp]), (lt, aI E 4 ti), (lr, aI E 4 r), (lw, aS E 6 wf), (sc, ob 3 [.ref tsc, .int (freshN lp s).2.1, .int (freshN lp s).2.2.1, .int (freshN lp s).2.2.2.1, .int (freshN lp s).2.2.2.2.1, .int (freshN lp s).2.2.2.2.2.1, .int (freshN lp s).2.2.2.2.2.2.1, .int (freshN lp s).2.2.2.2.2.2.2]), (tsc, aI E 4 (freshN lp s).1), (no, ob 3 [.ref tno, .int s.2.1, .int s.2.2.1, .int s.2.2.2.1, .int s.2.2.2.2.1, .int s.2.2.2.2.2.1, .int s.2.2.2.2.2.2.1, .int s.2.2.2.2.2.2.2]), (tno, aI E 4 s.1), (a, ob 9 [.ref tx, .ref lo, .ref no, .ref to, .ref pa, .int pe, .int un, .ref ke, .ref ik, .ref sc, .ref w, .ref bp, .ref ac, .ref br, .int bs, .int bm])]) (st2 := fun _ => [.int 0]) (fun _ => rfl) (fun _ => rfl) (fun _ => rfl) (fun _ _ => ?_)
              refine V.istore (lv2 := [(5, .int 0), (0, .ref a), (1, .int xs), (2, .int x), (3, .int (nI q.1)), (4, .int q.2), (6, .int (nI n))]) dX10_orders_129 (by decide) rfl ?_
              refine V.iinc (v := (nI (n + 1))) (lv2 := [(6, .int (nI (n + 1))), (5, .int 0), (0, .ref a), (1, .int xs), (2, .int x), (3, .int (nI q.1)), (4, .int q.2)]) dX10_orders_131 6 rfl (nI_1 _) (by decide) rfl ?_
              refine V.goto (tgt := 74) dX10_orders_134 (by decide) ?_
              refine V.locals [2, 3, 4, 5, 6, 1, 0] (by rfl) ?_
              exact ih_74 (n + 1) ρ g f sm q 0 hρ hF hw hs hb (by first | omega | (simp only []; omega)) (by omega) (Or.inr ⟨rfl, by rw [rowsG_none hst] at hrun; exact hbs9.symm.trans hrun⟩) (by omega)
            · skip
              subst hN0
              refine V.callVg (As := [.ref lo]) (rest := []) [0, 1, 2, 3, 4, 5, 6, 7] (c_Walks_next E l L _ w wr ws wn ρ sm an tn lo lt lr lw m wa lp ti r wf KV sf f ((freshN lp s)) nn p (by omega) (hm) (hρ) (hD) (fun b hb => hK b (List.mem_append_left [sc, tsc, no, tno, a] hb)) (((hSh.mixed (fun b hb => Or.inr hb)).over (vw := [(w, ob 8 [.ref wr, .ref ws, .ref wn, .int (nI (nn + 1))]), (wr, aI E 6 (fun j => nI (ρ j))), (ws, aI E 6 sm), (wn, aN E 7 (fun j => some (an j))), (lo, ob 1 [.ref lt, .ref lr, .ref lw, .int (nI m), .int wa, .int lp]), (lt, aI E 4 ti), (lr, aI E 4 r), (lw, aS E 6 wf), (sc, ob 3 [.ref tsc, .int (freshN lp s).2.1, .int (freshN lp s).2.2.1, .int (freshN lp s).2.2.2.1, .int (freshN lp s).2.2.2.2.1, .int (freshN lp s).2.2.2.2.2.1, .int (freshN lp s).2.2.2.2.2.2.1, .int (freshN lp s).2.2.2.2.2.2.2]), (tsc, aI E 4 (freshN lp s).1), (no, ob 3 [.ref tno, .int s.2.1, .int s.2.2.1, .int s.2.2.2.1, .int s.2.2.2.2.1, .int s.2.2.2.2.2.1, .int s.2.2.2.2.2.2.1, .int s.2.2.2.2.2.2.2]), (tno, aI E 4 s.1), (a, ob 9 [.ref tx, .ref lo, .ref no, .ref to, .ref pa, .int pe, .int un, .ref ke, .ref ik, .ref sc, .ref w, .ref bp, .ref ac, .ref br, .int bs, .int bm])]) (fun b hb => Or.inl (hK b hb)))) (FN.over (vw := [(w, ob 8 [.ref wr, .ref ws, .ref wn, .int (nI (nn + 1))]), (wr, aI E 6 (fun j => nI (ρ j))), (ws, aI E 6 sm), (wn, aN E 7 (fun j => some (an j))), (lo, ob 1 [.ref lt, .ref lr, .ref lw, .int (nI m), .int wa, .int lp]), (lt, aI E 4 ti), (lr, aI E 4 r), (lw, aS E 6 wf), (sc, ob 3 [.ref tsc, .int (freshN lp s).2.1, .int (freshN lp s).2.2.1, .int (freshN lp s).2.2.2.1, .int (freshN lp s).2.2.2.2.1, .int (freshN lp s).2.2.2.2.2.1, .int (freshN lp s).2.2.2.2.2.2.1, .int (freshN lp s).2.2.2.2.2.2.2]), (tsc, aI E 4 (freshN lp s).1), (no, ob 3 [.ref tno, .int s.2.1, .int s.2.2.1, .int s.2.2.2.1, .int s.2.2.2.2.1, .int s.2.2.2.2.2.1, .int s.2.2.2.2.2.2.1, .int s.2.2.2.2.2.2.2]), (tno, aI E 4 s.1), (a, ob 9 [.ref tx, .ref lo, .ref no, .ref to, .ref pa, .int pe, .int un, .ref ke, .ref ik, .ref sc, .ref w, .ref bp, .ref ac, .ref br, .int bs, .int bm])]) (hF.mixed) (fun b hb => hD.off (hK b hb))) (hb) (hpv) (hw) (hs)) rfl (by decide) mi_X9_next 0 rfl rfl w_614 w_615 w_616 rfl rfl (Nat.le_of_ble_eq_true rfl) ⟨by decide, by decide⟩ ⟨by decide, by decide⟩ dX10_orders_126 (vw2 := fun u126 => [(w, ob 8 [.ref wr, .ref ws, .ref wn, .int (nI (nn + 1))]), (wr, aI E 6 (fun j => nI ((nextR ρ (nn + 1) p) j))), (ws, aI E 6 u126.2.2), (wn, aN E 7 (fun j => some (an j))), (lo, ob 1 [.ref lt, .ref lr, .ref lw, .int (nI m), .int wa, .int lp]), (lt, aI E 4 ti), (lr, aI E 4 r), (lw, aS E 6 wf), (sc, ob 3 [.ref tsc, .int (freshN lp s).2.1, .int (freshN lp s).2.2.1, .int (freshN lp s).2.2.2.1, .int (freshN lp s).2.2.2.2.1, .int (freshN lp s).2.2.2.2.2.1, .int (freshN lp s).2.2.2.2.2.2.1, .int (freshN lp s).2.2.2.2.2.2.2]), (tsc, aI E 4 (freshN lp s).1), (no, ob 3 [.ref tno, .int s.2.1, .int s.2.2.1, .int s.2.2.2.1, .int s.2.2.2.2.1, .int s.2.2.2.2.2.1, .int s.2.2.2.2.2.2.1, .int s.2.2.2.2.2.2.2]), (tno, aI E 4 s.1), (a, ob 9 [.ref tx, .ref lo, .ref no, .ref to, .ref pa, .int pe, .int un, .ref ke, .ref ik, .ref sc, .ref w, .ref bp, .ref ac, .ref br, .int bs, .int bm])]) (st2 := fun u126 => [.int 1]) (fun b hb => hD.off (hK b hb)) (fun _ => rfl) (fun _ => rfl) (fun _ => rfl) (fun u126 hq_126 => ?_)
              refine V.base mix_same ?_
              refine V.istore (lv2 := [(5, .int 1), (0, .ref a), (1, .int xs), (2, .int x), (3, .int (nI q.1)), (4, .int q.2), (6, .int (nI n))]) dX10_orders_129 (by decide) rfl ?_
              refine V.iinc (v := (nI (n + 1))) (lv2 := [(6, .int (nI (n + 1))), (5, .int 1), (0, .ref a), (1, .int xs), (2, .int x), (3, .int (nI q.1)), (4, .int q.2)]) dX10_orders_131 6 rfl (nI_1 _) (by decide) rfl ?_
              refine V.goto (tgt := 74) dX10_orders_134 (by decide) ?_
              refine V.locals [2, 3, 4, 5, 6, 1, 0] (by rfl) ?_
              exact ih_74 (n + 1) (nextR ρ (nn + 1) p) u126.1 u126.2.1 u126.2.2 q 1 (nextR_in (by have h9 := pivotC_le ρ nn; omega) hρ) hq_126.1 hq_126.2.1 hq_126.2.2.1 hq_126.2.2.2 (by first | omega | (simp only []; omega)) (by omega) (Or.inl ⟨rfl, by rw [rowsG_some hst] at hrun; rw [show 720 - (n + 1) = d by omega, ← hbs9]; exact hrun⟩) (by omega)
          · skip
            refine V.iload_n dX10_orders_101 3 rfl ?_
            refine V.if_ne (tgt := 115) dX10_orders_102 (by decide) (fun c6_102 => ?_) (fun c6_102 => ?_)
            · skip
              have hq0 : ¬ q.1 = 0 := fun hh => c6_102 (by rw [hh]; rfl)
              refine V.iinc (v := (nI (q.1 + 1))) (lv2 := [(3, .int (nI (q.1 + 1))), (0, .ref a), (1, .int xs), (2, .int x), (4, .int q.2), (5, .int mo), (6, .int (nI n))]) dX10_orders_115 3 rfl (nI_1 _) (by decide) rfl ?_
              have hbs9 : ordStep (m, sf, wa, ti, r) (freshN lp s) N xs x q ρ = (q.1 + 1, q.2) := by unfold ordStep; rw [if_pos c5_98, if_neg hq0]
              refine V.aload_n dX10_orders_118 1 rfl ?_
              refine V.getf 12 10 rfl fa_X10_54_9 rfl dX10_orders_119 ?_
              refine V.aload_n dX10_orders_122 1 rfl ?_
              refine V.getf 12 1 rfl fa_X10_19_9 rfl dX10_orders_123 ?_
              rcases stepR_cases N ρ with ⟨hN0, hst⟩ | ⟨nn, hN0, hpv, hst⟩ | ⟨nn, p, hN0, hpv, hst⟩
              · skip
                subst hN0
                refine V.callVp (As := [.ref lo]) (rest := []) [0] (c_Walks_next0 E l L _ w wr ws wn lo) rfl (by decide) mi_X9_next 0 rfl rfl w_614 w_615 w_616 rfl rfl (Nat.le_of_ble_eq_true rfl) ⟨by decide, by decide⟩ ⟨by decide, by decide⟩ dX10_orders_126 (vw2 := fun _ => [(w, ob 8 [.ref wr, .ref ws, .ref wn, .int (nI 0)]), (wr, aI E 6 (fun j => nI (ρ j))), (ws, aI E 6 sm), (wn, aN E 7 (fun j => some (an j))), (lo, ob 1 [.ref lt, .ref lr, .ref lw, .int (nI m), .int wa, .int lp]), (lt, aI E 4 ti), (lr, aI E 4 r), (lw, aS E 6 wf), (sc, ob 3 [.ref tsc, .int (freshN lp s).2.1, .int (freshN lp s).2.2.1, .int (freshN lp s).2.2.2.1, .int (freshN lp s).2.2.2.2.1, .int (freshN lp s).2.2.2.2.2.1, .int (freshN lp s).2.2.2.2.2.2.1, .int (freshN lp s).2.2.2.2.2.2.2]), (tsc, aI E 4 (freshN lp s).1), (no, ob 3 [.ref tno, .int s.2.1, .int s.2.2.1, .int s.2.2.2.1, .int s.2.2.2.2.1, .int s.2.2.2.2.2.1, .int s.2.2.2.2.2.2.1, .int s.2.2.2.2.2.2.2]), (tno, aI E 4 s.1), (a, ob 9 [.ref tx, .ref lo, .ref no, .ref to, .ref pa, .int pe, .int un, .ref ke, .ref ik, .ref sc, .ref w, .ref bp, .ref ac, .ref br, .int bs, .int bm])]) (st2 := fun _ => [.int 0]) (fun _ => rfl) (fun _ => rfl) (fun _ => rfl) (fun _ _ => ?_)
                refine V.istore (lv2 := [(5, .int 0), (3, .int (nI (q.1 + 1))), (0, .ref a), (1, .int xs), (2, .int x), (4, .int q.2), (6, .int (nI n))]) dX10_orders_129 (by decide) rfl ?_
                refine V.iinc (v := (nI (n + 1))) (lv2 := [(6, .int (nI (n + 1))), (5, .int 0), (3, .int (nI (q.1 + 1))), (0, .ref a), (1, .int xs), (2, .int x), (4, .int q.2)]) dX10_orders_131 6 rfl (nI_1 _) (by decide) rfl ?_
                refine V.goto (tgt := 74) dX10_orders_134 (by decide) ?_
                refine V.locals [3, 4, 5, 2, 6, 1, 0] (by rfl) ?_
                exact ih_74 (n + 1) ρ g f sm (q.1 + 1, q.2) 0 hρ hF hw hs hb (by first | omega | (simp only []; omega)) (by omega) (Or.inr ⟨rfl, by rw [rowsG_none hst] at hrun; exact hbs9.symm.trans hrun⟩) (by omega)
              · skip
                subst hN0
                refine V.callVp (As := [.ref lo]) (rest := []) [0, 1] (c_Walks_next1 E l L _ w wr ws wn nn ρ lo (by omega) (fun i hi => Nat.lt_of_lt_of_le (hρ i hi) hm) (hpv)) rfl (by decide) mi_X9_next 0 rfl rfl w_614 w_615 w_616 rfl rfl (Nat.le_of_ble_eq_true rfl) ⟨by decide, by decide⟩ ⟨by decide, by decide⟩ dX10_orders_126 (vw2 := fun _ => [(w, ob 8 [.ref wr, .ref ws, .ref wn, .int (nI (nn + 1))]), (wr, aI E 6 (fun j => nI (ρ j))), (ws, aI E 6 sm), (wn, aN E 7 (fun j => some (an j))), (lo, ob 1 [.ref lt, .ref lr, .ref lw, .int (nI m), .int wa, .int lp]), (lt, aI E 4 ti), (lr, aI E 4 r), (lw, aS E 6 wf), (sc, ob 3 [.ref tsc, .int (freshN lp s).2.1, .int (freshN lp s).2.2.1, .int (freshN lp s).2.2.2.1, .int (freshN lp s).2.2.2.2.1, .int (freshN lp s).2.2.2.2.2.1, .int (freshN lp s).2.2.2.2.2.2.1, .int (freshN lp s).2.2.2.2.2.2.2]), (tsc, aI E 4 (freshN lp s).1), (no, ob 3 [.ref tno, .int s.2.1, .int s.2.2.1, .int s.2.2.2.1, .int s.2.2.2.2.1, .int s.2.2.2.2.2.1, .int s.2.2.2.2.2.2.1, .int s.2.2.2.2.2.2.2]), (tno, aI E 4 s.1), (a, ob 9 [.ref tx, .ref lo, .ref no, .ref to, .ref pa, .int pe, .int un, .ref ke, .ref ik, .ref sc, .ref w, .ref bp, .ref ac, .ref br, .int bs, .int bm])]) (st2 := fun _ => [.int 0]) (fun _ => rfl) (fun _ => rfl) (fun _ => rfl) (fun _ _ => ?_)
                refine V.istore (lv2 := [(5, .int 0), (3, .int (nI (q.1 + 1))), (0, .ref a), (1, .int xs), (2, .int x), (4, .int q.2), (6, .int (nI n))]) dX10_orders_129 (by decide) rfl ?_
                refine V.iinc (v := (nI (n + 1))) (lv2 := [(6, .int (nI (n + 1))), (5, .int 0), (3, .int (nI (q.1 + 1))), (0, .ref a), (1, .int xs), (2, .int x), (4, .int q.2)]) dX10_orders_131 6 rfl (nI_1 _) (by decide) rfl ?_
                refine V.goto (tgt := 74) dX10_orders_134 (by decide) ?_
                refine V.locals [3, 4, 5, 2, 6, 1, 0] (by rfl) ?_
                exact ih_74 (n + 1) ρ g f sm (q.1 + 1, q.2) 0 hρ hF hw hs hb (by first | omega | (simp only []; omega)) (by omega) (Or.inr ⟨rfl, by rw [rowsG_none hst] at hrun; exact hbs9.symm.trans hrun⟩) (by omega)
              · skip
                subst hN0
                refine V.callVg (As := [.ref lo]) (rest := []) [0, 1, 2, 3, 4, 5, 6, 7] (c_Walks_next E l L _ w wr ws wn ρ sm an tn lo lt lr lw m wa lp ti r wf KV sf f ((freshN lp s)) nn p (by omega) (hm) (hρ) (hD) (fun b hb => hK b (List.mem_append_left [sc, tsc, no, tno, a] hb)) (((hSh.mixed (fun b hb => Or.inr hb)).over (vw := [(w, ob 8 [.ref wr, .ref ws, .ref wn, .int (nI (nn + 1))]), (wr, aI E 6 (fun j => nI (ρ j))), (ws, aI E 6 sm), (wn, aN E 7 (fun j => some (an j))), (lo, ob 1 [.ref lt, .ref lr, .ref lw, .int (nI m), .int wa, .int lp]), (lt, aI E 4 ti), (lr, aI E 4 r), (lw, aS E 6 wf), (sc, ob 3 [.ref tsc, .int (freshN lp s).2.1, .int (freshN lp s).2.2.1, .int (freshN lp s).2.2.2.1, .int (freshN lp s).2.2.2.2.1, .int (freshN lp s).2.2.2.2.2.1, .int (freshN lp s).2.2.2.2.2.2.1, .int (freshN lp s).2.2.2.2.2.2.2]), (tsc, aI E 4 (freshN lp s).1), (no, ob 3 [.ref tno, .int s.2.1, .int s.2.2.1, .int s.2.2.2.1, .int s.2.2.2.2.1, .int s.2.2.2.2.2.1, .int s.2.2.2.2.2.2.1, .int s.2.2.2.2.2.2.2]), (tno, aI E 4 s.1), (a, ob 9 [.ref tx, .ref lo, .ref no, .ref to, .ref pa, .int pe, .int un, .ref ke, .ref ik, .ref sc, .ref w, .ref bp, .ref ac, .ref br, .int bs, .int bm])]) (fun b hb => Or.inl (hK b hb)))) (FN.over (vw := [(w, ob 8 [.ref wr, .ref ws, .ref wn, .int (nI (nn + 1))]), (wr, aI E 6 (fun j => nI (ρ j))), (ws, aI E 6 sm), (wn, aN E 7 (fun j => some (an j))), (lo, ob 1 [.ref lt, .ref lr, .ref lw, .int (nI m), .int wa, .int lp]), (lt, aI E 4 ti), (lr, aI E 4 r), (lw, aS E 6 wf), (sc, ob 3 [.ref tsc, .int (freshN lp s).2.1, .int (freshN lp s).2.2.1, .int (freshN lp s).2.2.2.1, .int (freshN lp s).2.2.2.2.1, .int (freshN lp s).2.2.2.2.2.1, .int (freshN lp s).2.2.2.2.2.2.1, .int (freshN lp s).2.2.2.2.2.2.2]), (tsc, aI E 4 (freshN lp s).1), (no, ob 3 [.ref tno, .int s.2.1, .int s.2.2.1, .int s.2.2.2.1, .int s.2.2.2.2.1, .int s.2.2.2.2.2.1, .int s.2.2.2.2.2.2.1, .int s.2.2.2.2.2.2.2]), (tno, aI E 4 s.1), (a, ob 9 [.ref tx, .ref lo, .ref no, .ref to, .ref pa, .int pe, .int un, .ref ke, .ref ik, .ref sc, .ref w, .ref bp, .ref ac, .ref br, .int bs, .int bm])]) (hF.mixed) (fun b hb => hD.off (hK b hb))) (hb) (hpv) (hw) (hs)) rfl (by decide) mi_X9_next 0 rfl rfl w_614 w_615 w_616 rfl rfl (Nat.le_of_ble_eq_true rfl) ⟨by decide, by decide⟩ ⟨by decide, by decide⟩ dX10_orders_126 (vw2 := fun u126 => [(w, ob 8 [.ref wr, .ref ws, .ref wn, .int (nI (nn + 1))]), (wr, aI E 6 (fun j => nI ((nextR ρ (nn + 1) p) j))), (ws, aI E 6 u126.2.2), (wn, aN E 7 (fun j => some (an j))), (lo, ob 1 [.ref lt, .ref lr, .ref lw, .int (nI m), .int wa, .int lp]), (lt, aI E 4 ti), (lr, aI E 4 r), (lw, aS E 6 wf), (sc, ob 3 [.ref tsc, .int (freshN lp s).2.1, .int (freshN lp s).2.2.1, .int (freshN lp s).2.2.2.1, .int (freshN lp s).2.2.2.2.1, .int (freshN lp s).2.2.2.2.2.1, .int (freshN lp s).2.2.2.2.2.2.1, .int (freshN lp s).2.2.2.2.2.2.2]), (tsc, aI E 4 (freshN lp s).1), (no, ob 3 [.ref tno, .int s.2.1, .int s.2.2.1, .int s.2.2.2.1, .int s.2.2.2.2.1, .int s.2.2.2.2.2.1, .int s.2.2.2.2.2.2.1, .int s.2.2.2.2.2.2.2]), (tno, aI E 4 s.1), (a, ob 9 [.ref tx, .ref lo, .ref no, .ref to, .ref pa, .int pe, .int un, .ref ke, .ref ik, .ref sc, .ref w, .ref bp, .ref ac, .ref br, .int bs, .int bm])]) (st2 := fun u126 => [.int 1]) (fun b hb => hD.off (hK b hb)) (fun _ => rfl) (fun _ => rfl) (fun _ => rfl) (fun u126 hq_126 => ?_)
                refine V.base mix_same ?_
                refine V.istore (lv2 := [(5, .int 1), (3, .int (nI (q.1 + 1))), (0, .ref a), (1, .int xs), (2, .int x), (4, .int q.2), (6, .int (nI n))]) dX10_orders_129 (by decide) rfl ?_
                refine V.iinc (v := (nI (n + 1))) (lv2 := [(6, .int (nI (n + 1))), (5, .int 1), (3, .int (nI (q.1 + 1))), (0, .ref a), (1, .int xs), (2, .int x), (4, .int q.2)]) dX10_orders_131 6 rfl (nI_1 _) (by decide) rfl ?_
                refine V.goto (tgt := 74) dX10_orders_134 (by decide) ?_
                refine V.locals [3, 4, 5, 2, 6, 1, 0] (by rfl) ?_
                exact ih_74 (n + 1) (nextR ρ (nn + 1) p) u126.1 u126.2.1 u126.2.2 (q.1 + 1, q.2) 1 (nextR_in (by have h9 := pivotC_le ρ nn; omega) hρ) hq_126.1 hq_126.2.1 hq_126.2.2.1 hq_126.2.2.2 (by first | omega | (simp only []; omega)) (by omega) (Or.inl ⟨rfl, by rw [rowsG_some hst] at hrun; rw [show 720 - (n + 1) = d by omega, ← hbs9]; exact hrun⟩) (by omega)
            · skip
              have hq0 : q.1 = 0 := (nI_eq (b := 0) (by omega) (by omega)).mp c6_102
              refine V.aload_n dX10_orders_105 0 rfl ?_
              refine V.getf 12 10 rfl fa_X10_54_9 rfl dX10_orders_106 ?_
              refine V.iload_n dX10_orders_109 2 rfl ?_
              refine V.callVp (As := [.int x]) (rest := []) [0, 1] (c_Walks_shopAt2 E l L _ w wr ws wn N ρ x (hN6)) rfl (by decide) mi_X9_shopAt 0 rfl rfl w_662 w_663 w_664 rfl rfl (Nat.le_of_ble_eq_true rfl) ⟨by decide, by decide⟩ ⟨by decide, by decide⟩ dX10_orders_110 (vw2 := fun _ => [(w, ob 8 [.ref wr, .ref ws, .ref wn, .int (nI N)]), (wr, aI E 6 (fun j => nI (ρ j))), (ws, aI E 6 sm), (wn, aN E 7 (fun j => some (an j))), (lo, ob 1 [.ref lt, .ref lr, .ref lw, .int (nI m), .int wa, .int lp]), (lt, aI E 4 ti), (lr, aI E 4 r), (lw, aS E 6 wf), (sc, ob 3 [.ref tsc, .int (freshN lp s).2.1, .int (freshN lp s).2.2.1, .int (freshN lp s).2.2.2.1, .int (freshN lp s).2.2.2.2.1, .int (freshN lp s).2.2.2.2.2.1, .int (freshN lp s).2.2.2.2.2.2.1, .int (freshN lp s).2.2.2.2.2.2.2]), (tsc, aI E 4 (freshN lp s).1), (no, ob 3 [.ref tno, .int s.2.1, .int s.2.2.1, .int s.2.2.2.1, .int s.2.2.2.2.1, .int s.2.2.2.2.2.1, .int s.2.2.2.2.2.2.1, .int s.2.2.2.2.2.2.2]), (tno, aI E 4 s.1), (a, ob 9 [.ref tx, .ref lo, .ref no, .ref to, .ref pa, .int pe, .int un, .ref ke, .ref ik, .ref sc, .ref w, .ref bp, .ref ac, .ref br, .int bs, .int bm])]) (st2 := fun _ => [.int (shA ρ N x)]) (fun _ => rfl) (fun _ => rfl) (fun _ => rfl) (fun _ _ => ?_)
              refine V.istore (lv2 := [(4, .int (shA ρ N x)), (0, .ref a), (1, .int xs), (2, .int x), (3, .int (nI q.1)), (5, .int mo), (6, .int (nI n))]) dX10_orders_113 (by decide) rfl ?_
              refine V.iinc (v := (nI (q.1 + 1))) (lv2 := [(3, .int (nI (q.1 + 1))), (4, .int (shA ρ N x)), (0, .ref a), (1, .int xs), (2, .int x), (5, .int mo), (6, .int (nI n))]) dX10_orders_115 4 rfl (nI_1 _) (by decide) rfl ?_
              have hbs9 : ordStep (m, sf, wa, ti, r) (freshN lp s) N xs x q ρ = (q.1 + 1, shA ρ N x) := by unfold ordStep; rw [if_pos c5_98, if_pos hq0]
              refine V.aload_n dX10_orders_118 2 rfl ?_
              refine V.getf 12 10 rfl fa_X10_54_9 rfl dX10_orders_119 ?_
              refine V.aload_n dX10_orders_122 2 rfl ?_
              refine V.getf 12 1 rfl fa_X10_19_9 rfl dX10_orders_123 ?_
              rcases stepR_cases N ρ with ⟨hN0, hst⟩ | ⟨nn, hN0, hpv, hst⟩ | ⟨nn, p, hN0, hpv, hst⟩
              · skip
                subst hN0
                refine V.callVp (As := [.ref lo]) (rest := []) [0] (c_Walks_next0 E l L _ w wr ws wn lo) rfl (by decide) mi_X9_next 0 rfl rfl w_614 w_615 w_616 rfl rfl (Nat.le_of_ble_eq_true rfl) ⟨by decide, by decide⟩ ⟨by decide, by decide⟩ dX10_orders_126 (vw2 := fun _ => [(w, ob 8 [.ref wr, .ref ws, .ref wn, .int (nI 0)]), (wr, aI E 6 (fun j => nI (ρ j))), (ws, aI E 6 sm), (wn, aN E 7 (fun j => some (an j))), (lo, ob 1 [.ref lt, .ref lr, .ref lw, .int (nI m), .int wa, .int lp]), (lt, aI E 4 ti), (lr, aI E 4 r), (lw, aS E 6 wf), (sc, ob 3 [.ref tsc, .int (freshN lp s).2.1, .int (freshN lp s).2.2.1, .int (freshN lp s).2.2.2.1, .int (freshN lp s).2.2.2.2.1, .int (freshN lp s).2.2.2.2.2.1, .int (freshN lp s).2.2.2.2.2.2.1, .int (freshN lp s).2.2.2.2.2.2.2]), (tsc, aI E 4 (freshN lp s).1), (no, ob 3 [.ref tno, .int s.2.1, .int s.2.2.1, .int s.2.2.2.1, .int s.2.2.2.2.1, .int s.2.2.2.2.2.1, .int s.2.2.2.2.2.2.1, .int s.2.2.2.2.2.2.2]), (tno, aI E 4 s.1), (a, ob 9 [.ref tx, .ref lo, .ref no, .ref to, .ref pa, .int pe, .int un, .ref ke, .ref ik, .ref sc, .ref w, .ref bp, .ref ac, .ref br, .int bs, .int bm])]) (st2 := fun _ => [.int 0]) (fun _ => rfl) (fun _ => rfl) (fun _ => rfl) (fun _ _ => ?_)
                refine V.istore (lv2 := [(5, .int 0), (3, .int (nI (q.1 + 1))), (4, .int (shA ρ 0 x)), (0, .ref a), (1, .int xs), (2, .int x), (6, .int (nI n))]) dX10_orders_129 (by decide) rfl ?_
                refine V.iinc (v := (nI (n + 1))) (lv2 := [(6, .int (nI (n + 1))), (5, .int 0), (3, .int (nI (q.1 + 1))), (4, .int (shA ρ 0 x)), (0, .ref a), (1, .int xs), (2, .int x)]) dX10_orders_131 6 rfl (nI_1 _) (by decide) rfl ?_
                refine V.goto (tgt := 74) dX10_orders_134 (by decide) ?_
                refine V.locals [4, 5, 6, 2, 3, 1, 0] (by rfl) ?_
                exact ih_74 (n + 1) ρ g f sm (q.1 + 1, shA ρ 0 x) 0 hρ hF hw hs hb (by first | omega | (simp only []; omega)) (by omega) (Or.inr ⟨rfl, by rw [rowsG_none hst] at hrun; exact hbs9.symm.trans hrun⟩) (by omega)
              · skip
                subst hN0
                refine V.callVp (As := [.ref lo]) (rest := []) [0, 1] (c_Walks_next1 E l L _ w wr ws wn nn ρ lo (by omega) (fun i hi => Nat.lt_of_lt_of_le (hρ i hi) hm) (hpv)) rfl (by decide) mi_X9_next 0 rfl rfl w_614 w_615 w_616 rfl rfl (Nat.le_of_ble_eq_true rfl) ⟨by decide, by decide⟩ ⟨by decide, by decide⟩ dX10_orders_126 (vw2 := fun _ => [(w, ob 8 [.ref wr, .ref ws, .ref wn, .int (nI (nn + 1))]), (wr, aI E 6 (fun j => nI (ρ j))), (ws, aI E 6 sm), (wn, aN E 7 (fun j => some (an j))), (lo, ob 1 [.ref lt, .ref lr, .ref lw, .int (nI m), .int wa, .int lp]), (lt, aI E 4 ti), (lr, aI E 4 r), (lw, aS E 6 wf), (sc, ob 3 [.ref tsc, .int (freshN lp s).2.1, .int (freshN lp s).2.2.1, .int (freshN lp s).2.2.2.1, .int (freshN lp s).2.2.2.2.1, .int (freshN lp s).2.2.2.2.2.1, .int (freshN lp s).2.2.2.2.2.2.1, .int (freshN lp s).2.2.2.2.2.2.2]), (tsc, aI E 4 (freshN lp s).1), (no, ob 3 [.ref tno, .int s.2.1, .int s.2.2.1, .int s.2.2.2.1, .int s.2.2.2.2.1, .int s.2.2.2.2.2.1, .int s.2.2.2.2.2.2.1, .int s.2.2.2.2.2.2.2]), (tno, aI E 4 s.1), (a, ob 9 [.ref tx, .ref lo, .ref no, .ref to, .ref pa, .int pe, .int un, .ref ke, .ref ik, .ref sc, .ref w, .ref bp, .ref ac, .ref br, .int bs, .int bm])]) (st2 := fun _ => [.int 0]) (fun _ => rfl) (fun _ => rfl) (fun _ => rfl) (fun _ _ => ?_)
                refine V.istore (lv2 := [(5, .int 0), (3, .int (nI (q.1 + 1))), (4, .int (shA ρ (nn + 1) x)), (0, .ref a), (1, .int xs), (2, .int x), (6, .int (nI n))]) dX10_orders_129 (by decide) rfl ?_
                refine V.iinc (v := (nI (n + 1))) (lv2 := [(6, .int (nI (n + 1))), (5, .int 0), (3, .int (nI (q.1 + 1))), (4, .int (shA ρ (nn + 1) x)), (0, .ref a), (1, .int xs), (2, .int x)]) dX10_orders_131 6 rfl (nI_1 _) (by decide) rfl ?_
                refine V.goto (tgt := 74) dX10_orders_134 (by decide) ?_
                refine V.locals [4, 5, 6, 2, 3, 1, 0] (by rfl) ?_
                exact ih_74 (n + 1) ρ g f sm (q.1 + 1, shA ρ (nn + 1) x) 0 hρ hF hw hs hb (by first | omega | (simp only []; omega)) (by omega) (Or.inr ⟨rfl, by rw [rowsG_none hst] at hrun; exact hbs9.symm.trans hrun⟩) (by omega)
              · skip
                subst hN0
                refine V.callVg (As := [.ref lo]) (rest := []) [0, 1, 2, 3, 4, 5, 6, 7] (c_Walks_next E l L _ w wr ws wn ρ sm an tn lo lt lr lw m wa lp ti r wf KV sf f ((freshN lp s)) nn p (by omega) (hm) (hρ) (hD) (fun b hb => hK b (List.mem_append_left [sc, tsc, no, tno, a] hb)) (((hSh.mixed (fun b hb => Or.inr hb)).over (vw := [(w, ob 8 [.ref wr, .ref ws, .ref wn, .int (nI (nn + 1))]), (wr, aI E 6 (fun j => nI (ρ j))), (ws, aI E 6 sm), (wn, aN E 7 (fun j => some (an j))), (lo, ob 1 [.ref lt, .ref lr, .ref lw, .int (nI m), .int wa, .int lp]), (lt, aI E 4 ti), (lr, aI E 4 r), (lw, aS E 6 wf), (sc, ob 3 [.ref tsc, .int (freshN lp s).2.1, .int (freshN lp s).2.2.1, .int (freshN lp s).2.2.2.1, .int (freshN lp s).2.2.2.2.1, .int (freshN lp s).2.2.2.2.2.1, .int (freshN lp s).2.2.2.2.2.2.1, .int (freshN lp s).2.2.2.2.2.2.2]), (tsc, aI E 4 (freshN lp s).1), (no, ob 3 [.ref tno, .int s.2.1, .int s.2.2.1, .int s.2.2.2.1, .int s.2.2.2.2.1, .int s.2.2.2.2.2.1, .int s.2.2.2.2.2.2.1, .int s.2.2.2.2.2.2.2]), (tno, aI E 4 s.1), (a, ob 9 [.ref tx, .ref lo, .ref no, .ref to, .ref pa, .int pe, .int un, .ref ke, .ref ik, .ref sc, .ref w, .ref bp, .ref ac, .ref br, .int bs, .int bm])]) (fun b hb => Or.inl (hK b hb)))) (FN.over (vw := [(w, ob 8 [.ref wr, .ref ws, .ref wn, .int (nI (nn + 1))]), (wr, aI E 6 (fun j => nI (ρ j))), (ws, aI E 6 sm), (wn, aN E 7 (fun j => some (an j))), (lo, ob 1 [.ref lt, .ref lr, .ref lw, .int (nI m), .int wa, .int lp]), (lt, aI E 4 ti), (lr, aI E 4 r), (lw, aS E 6 wf), (sc, ob 3 [.ref tsc, .int (freshN lp s).2.1, .int (freshN lp s).2.2.1, .int (freshN lp s).2.2.2.1, .int (freshN lp s).2.2.2.2.1, .int (freshN lp s).2.2.2.2.2.1, .int (freshN lp s).2.2.2.2.2.2.1, .int (freshN lp s).2.2.2.2.2.2.2]), (tsc, aI E 4 (freshN lp s).1), (no, ob 3 [.ref tno, .int s.2.1, .int s.2.2.1, .int s.2.2.2.1, .int s.2.2.2.2.1, .int s.2.2.2.2.2.1, .int s.2.2.2.2.2.2.1, .int s.2.2.2.2.2.2.2]), (tno, aI E 4 s.1), (a, ob 9 [.ref tx, .ref lo, .ref no, .ref to, .ref pa, .int pe, .int un, .ref ke, .ref ik, .ref sc, .ref w, .ref bp, .ref ac, .ref br, .int bs, .int bm])]) (hF.mixed) (fun b hb => hD.off (hK b hb))) (hb) (hpv) (hw) (hs)) rfl (by decide) mi_X9_next 0 rfl rfl w_614 w_615 w_616 rfl rfl (Nat.le_of_ble_eq_true rfl) ⟨by decide, by decide⟩ ⟨by decide, by decide⟩ dX10_orders_126 (vw2 := fun u126 => [(w, ob 8 [.ref wr, .ref ws, .ref wn, .int (nI (nn + 1))]), (wr, aI E 6 (fun j => nI ((nextR ρ (nn + 1) p) j))), (ws, aI E 6 u126.2.2), (wn, aN E 7 (fun j => some (an j))), (lo, ob 1 [.ref lt, .ref lr, .ref lw, .int (nI m), .int wa, .int lp]), (lt, aI E 4 ti), (lr, aI E 4 r), (lw, aS E 6 wf), (sc, ob 3 [.ref tsc, .int (freshN lp s).2.1, .int (freshN lp s).2.2.1, .int (freshN lp s).2.2.2.1, .int (freshN lp s).2.2.2.2.1, .int (freshN lp s).2.2.2.2.2.1, .int (freshN lp s).2.2.2.2.2.2.1, .int (freshN lp s).2.2.2.2.2.2.2]), (tsc, aI E 4 (freshN lp s).1), (no, ob 3 [.ref tno, .int s.2.1, .int s.2.2.1, .int s.2.2.2.1, .int s.2.2.2.2.1, .int s.2.2.2.2.2.1, .int s.2.2.2.2.2.2.1, .int s.2.2.2.2.2.2.2]), (tno, aI E 4 s.1), (a, ob 9 [.ref tx, .ref lo, .ref no, .ref to, .ref pa, .int pe, .int un, .ref ke, .ref ik, .ref sc, .ref w, .ref bp, .ref ac, .ref br, .int bs, .int bm])]) (st2 := fun u126 => [.int 1]) (fun b hb => hD.off (hK b hb)) (fun _ => rfl) (fun _ => rfl) (fun _ => rfl) (fun u126 hq_126 => ?_)
                refine V.base mix_same ?_
                refine V.istore (lv2 := [(5, .int 1), (3, .int (nI (q.1 + 1))), (4, .int (shA ρ (nn + 1) x)), (0, .ref a), (1, .int xs), (2, .int x), (6, .int (nI n))]) dX10_orders_129 (by decide) rfl ?_
                refine V.iinc (v := (nI (n + 1))) (lv2 := [(6, .int (nI (n + 1))), (5, .int 1), (3, .int (nI (q.1 + 1))), (4, .int (shA ρ (nn + 1) x)), (0, .ref a), (1, .int xs), (2, .int x)]) dX10_orders_131 6 rfl (nI_1 _) (by decide) rfl ?_
                refine V.goto (tgt := 74) dX10_orders_134 (by decide) ?_
                refine V.locals [4, 5, 6, 2, 3, 1, 0] (by rfl) ?_
                exact ih_74 (n + 1) (nextR ρ (nn + 1) p) u126.1 u126.2.1 u126.2.2 (q.1 + 1, shA ρ (nn + 1) x) 1 (nextR_in (by have h9 := pivotC_le ρ nn; omega) hρ) hq_126.1 hq_126.2.1 hq_126.2.2.1 hq_126.2.2.2 (by first | omega | (simp only []; omega)) (by omega) (Or.inl ⟨rfl, by rw [rowsG_some hst] at hrun; rw [show 720 - (n + 1) = d by omega, ← hbs9]; exact hrun⟩) (by omega)
  exact lp_74 (721) 0 ρ1 u66.1 u66.2.1 u66.2.2 (0, -1) 1 hset hq_66.1 hq_66.2.1 hq_66.2.2.1 hq_66.2.2.2 (Nat.le_refl _) (by omega) (Or.inl ⟨rfl, rfl⟩) (by omega)
