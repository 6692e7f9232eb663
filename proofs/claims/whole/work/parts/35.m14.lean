set_option maxHeartbeats 4000000 in
set_option maxRecDepth 100000 in
theorem c_RL_visitU (E : vEnv) (l : Launch) (L : List Nat) (h : Nat → va_E) (a : Nat) (tx : Nat) (lo : Nat) (no : Nat) (to : Nat) (pa : Nat) (ke : Nat) (ik : Nat) (sc : Nat) (w : Nat) (bp : Nat) (ac : Nat) (br : Nat) (pe : Int32) (un : Int32) (bs : Int32) (bm : Int32) (lt : Nat) (lr : Nat) (lw : Nat) (m : Nat) (wa : Int32) (lp : Int32) (x : Int32) (hx : withinI x 0 (nI m - 1) = 0) : CT E l yX10_visit cX10_visit 2 (some (.int)) 2 0 0 L h [(a, ob 9 [.ref tx, .ref lo, .ref no, .ref to, .ref pa, .int pe, .int un, .ref ke, .ref ik, .ref sc, .ref w, .ref bp, .ref ac, .ref br, .int bs, .int bm]), (lo, ob 1 [.ref lt, .ref lr, .ref lw, .int (nI m), .int wa, .int lp])] [.ref a, .int x] (qP L h (fun (_ : Unit) => [(a, ob 9 [.ref tx, .ref lo, .ref no, .ref to, .ref pa, .int pe, .int un, .ref ke, .ref ik, .ref sc, .ref w, .ref bp, .ref ac, .ref br, .int bs, .int bm]), (lo, ob 1 [.ref lt, .ref lr, .ref lw, .int (nI m), .int wa, .int lp])]) (fun _ => some (.int (-2))) (fun _ => True)) := by
  refine CT.ofV (by decide +kernel) (Nat.le_of_ble_eq_true rfl) ?_
  refine V.locals2 (lv2 := [(0, .ref a), (1, .int x)]) rfl ?_
  refine V.aload_n dX10_visit_0 0 rfl ?_
  refine V.getf 0 1 rfl fa_X10_19_9 rfl dX10_visit_1 ?_
  refine V.iload_n dX10_visit_4 1 rfl ?_
  refine V.callVp (As := [.int x]) (rest := []) [1] (c_Lane_shopOfN E l L _ lo lt lr lw m wa lp x (hx)) rfl (by decide) mi_X1_shopOf 1 rfl rfl w_449 w_450 w_451 rfl rfl (Nat.le_of_ble_eq_true rfl) ⟨by decide, by decide⟩ ⟨by decide, by decide⟩ dX10_visit_5 (vw2 := fun _ => [(a, ob 9 [.ref tx, .ref lo, .ref no, .ref to, .ref pa, .int pe, .int un, .ref ke, .ref ik, .ref sc, .ref w, .ref bp, .ref ac, .ref br, .int bs, .int bm]), (lo, ob 1 [.ref lt, .ref lr, .ref lw, .int (nI m), .int wa, .int lp])]) (st2 := fun _ => [.null]) (fun _ => rfl) (fun _ => rfl) (fun _ => rfl) (fun _ _ => ?_)
  refine V.ifnonnullN dX10_visit_8 ?_
  refine V.bipush (v := (-2)) dX10_visit_11 (by decide) ?_
  exact V.iret rfl dX10_visit_13 (⟨(), rfl, rfl, rfl, trivial⟩)

set_option maxHeartbeats 4000000 in
set_option maxRecDepth 100000 in
theorem c_RL_visitF (E : vEnv) (l : Launch) (L : List Nat) (h : Nat → va_E) (a : Nat) (tx : Nat) (lo : Nat) (no : Nat) (to : Nat) (pa : Nat) (ke : Nat) (ik : Nat) (sc : Nat) (w : Nat) (bp : Nat) (ac : Nat) (br : Nat) (pe : Int32) (un : Int32) (bs : Int32) (bm : Int32) (lt : Nat) (lr : Nat) (lw : Nat) (m : Nat) (wa : Int32) (lp : Int32) (tno : Nat) (s : NS) (wf : Nat → Option Nat) (k : Nat) (q : Nat) (hkm : k < m) (hm : m ≤ 6) (hq : wf k = some q) (hst : ¬ s.2.2.1 ≤ 9999) : CT E l yX10_visit cX10_visit 2 (some (.int)) 2 0 0 L h [(a, ob 9 [.ref tx, .ref lo, .ref no, .ref to, .ref pa, .int pe, .int un, .ref ke, .ref ik, .ref sc, .ref w, .ref bp, .ref ac, .ref br, .int bs, .int bm]), (lo, ob 1 [.ref lt, .ref lr, .ref lw, .int (nI m), .int wa, .int lp]), (lw, aS E 6 wf), (no, ob 3 [.ref tno, .int s.2.1, .int s.2.2.1, .int s.2.2.2.1, .int s.2.2.2.2.1, .int s.2.2.2.2.2.1, .int s.2.2.2.2.2.2.1, .int s.2.2.2.2.2.2.2]), (tno, aI E 4 s.1)] [.ref a, .int (nI k)] (qP L h (fun (_ : Unit) => [(a, ob 9 [.ref tx, .ref lo, .ref no, .ref to, .ref pa, .int pe, .int un, .ref ke, .ref ik, .ref sc, .ref w, .ref bp, .ref ac, .ref br, .int bs, .int bm]), (lo, ob 1 [.ref lt, .ref lr, .ref lw, .int (nI m), .int wa, .int lp]), (lw, aS E 6 wf), (no, ob 3 [.ref tno, .int s.2.1, .int s.2.2.1, .int s.2.2.2.1, .int s.2.2.2.2.1, .int s.2.2.2.2.2.1, .int s.2.2.2.2.2.2.1, .int s.2.2.2.2.2.2.2]), (tno, aI E 4 s.1)]) (fun _ => some (.int (-5))) (fun _ => True)) := by
  refine CT.ofV (by decide +kernel) (Nat.le_of_ble_eq_true rfl) ?_
  refine V.locals2 (lv2 := [(0, .ref a), (1, .int (nI k))]) rfl ?_
  refine V.aload_n dX10_visit_0 0 rfl ?_
  refine V.getf 0 1 rfl fa_X10_19_9 rfl dX10_visit_1 ?_
  refine V.iload_n dX10_visit_4 1 rfl ?_
  refine V.callVp (As := [.int (nI k)]) (rest := []) [1, 2] (c_Lane_shopOf E l L _ lo lt lr lw m wa lp wf k q (hkm) (hm) (hq)) rfl (by decide) mi_X1_shopOf 1 rfl rfl w_449 w_450 w_451 rfl rfl (Nat.le_of_ble_eq_true rfl) ⟨by decide, by decide⟩ ⟨by decide, by decide⟩ dX10_visit_5 (vw2 := fun _ => [(a, ob 9 [.ref tx, .ref lo, .ref no, .ref to, .ref pa, .int pe, .int un, .ref ke, .ref ik, .ref sc, .ref w, .ref bp, .ref ac, .ref br, .int bs, .int bm]), (lo, ob 1 [.ref lt, .ref lr, .ref lw, .int (nI m), .int wa, .int lp]), (lw, aS E 6 wf), (no, ob 3 [.ref tno, .int s.2.1, .int s.2.2.1, .int s.2.2.2.1, .int s.2.2.2.2.1, .int s.2.2.2.2.2.1, .int s.2.2.2.2.2.2.1, .int s.2.2.2.2.2.2.2]), (tno, aI E 4 s.1)]) (st2 := fun _ => [.ref q]) (fun _ => rfl) (fun _ => rfl) (fun _ => rfl) (fun _ _ => ?_)
  refine V.ifnonnull (tgt := 14) dX10_visit_8 (by decide) ?_
  refine V.aload_n dX10_visit_14 0 rfl ?_
  refine V.getf 0 2 rfl fa_X10_26_9 rfl dX10_visit_15 ?_
  refine V.getf 3 2 rfl fa_X10_176_3 rfl dX10_visit_18 ?_
  refine V.sipush (v := 9999) dX10_visit_21 (by decide) ?_
  refine V.icmp_le (tgt := 30) dX10_visit_24 (by decide) (fun hc => absurd hc (hst)) (fun _ => ?_)
  refine V.bipush (v := (-5)) dX10_visit_27 (by decide) ?_
  exact V.iret rfl dX10_visit_29 (⟨(), rfl, rfl, rfl, trivial⟩)

set_option maxHeartbeats 4000000 in
set_option maxRecDepth 100000 in
theorem c_RL_visit (E : vEnv) (l : Launch) (L : List Nat) (h : Nat → va_E) (a : Nat) (tx : Nat) (lo : Nat) (no : Nat) (to : Nat) (pa : Nat) (ke : Nat) (ik : Nat) (sc : Nat) (w : Nat) (bp : Nat) (ac : Nat) (br : Nat) (bs : Int32) (bm : Int32) (tno : Nat) (s : NS) (an : Nat → Nat) (tn : Nat → Nat) (KV : Nat → Prop) (f : Nat → NS) (p : Nat) (u : Nat) (lt : Nat) (lr : Nat) (lw : Nat) (m : Nat) (wa : Int32) (lp : Int32) (ti : Nat → Int32) (r : Nat → Int32) (wf : Nat → Option Nat) (k : Nat) (q : Nat) (κ : Nat) (so : Nat) (sg : Int32) (pr : Int32) (hp : p < 8) (hu : u ≤ 8) (hD : FD L KV an tn 8) (hF : FN E an tn 8 f h) (hbs : s.2.2.2.2.2.2.2 = 0 ∨ s.2.2.2.2.2.2.2 = 1) (hK : ∀ b ∈ [a, no, tno, pa, lo, lt, lr, lw, q], KV b) (hkm : k < m) (hm : m ≤ 6) (hq : wf k = some q) (hk : κ < 4) (hs : so < 4) (hst : s.2.2.1 ≤ 9999) : CT E l yX10_visit cX10_visit 2 (some (.int)) 6 0 0 L h [(a, ob 9 [.ref tx, .ref lo, .ref no, .ref to, .ref pa, .int (nI p), .int (nI u), .ref ke, .ref ik, .ref sc, .ref w, .ref bp, .ref ac, .ref br, .int bs, .int bm]), (no, ob 3 [.ref tno, .int s.2.1, .int s.2.2.1, .int s.2.2.2.1, .int s.2.2.2.2.1, .int s.2.2.2.2.2.1, .int s.2.2.2.2.2.2.1, .int s.2.2.2.2.2.2.2]), (tno, aI E 4 s.1), (pa, aN E 8 (fun j => some (an j))), (lo, ob 1 [.ref lt, .ref lr, .ref lw, .int (nI m), .int wa, .int lp]), (lt, aI E 4 ti), (lr, aI E 4 r), (lw, aS E 6 wf), (q, ob (kci κ) [.int (nI so), .int sg, .int pr])] [.ref a, .int (nI k)] (qG L h (inF an tn 8) (fun (g : Nat → va_E) => g) (fun (g : Nat → va_E) => [(a, ob 9 [.ref tx, .ref lo, .ref no, .ref to, .ref pa, .int (nI ((p + 1) % 8)), .int (nI (min 8 (u + 1))), .ref ke, .ref ik, .ref sc, .ref w, .ref bp, .ref ac, .ref br, .int bs, .int bm]), (no, ob 3 [.ref tno, .int (callN m k κ so sg pr wa ti r s).2.1, .int (callN m k κ so sg pr wa ti r s).2.2.1, .int (callN m k κ so sg pr wa ti r s).2.2.2.1, .int (callN m k κ so sg pr wa ti r s).2.2.2.2.1, .int (callN m k κ so sg pr wa ti r s).2.2.2.2.2.1, .int (callN m k κ so sg pr wa ti r s).2.2.2.2.2.2.1, .int (callN m k κ so sg pr wa ti r s).2.2.2.2.2.2.2]), (tno, aI E 4 (callN m k κ so sg pr wa ti r s).1), (pa, aN E 8 (fun j => some (an j))), (lo, ob 1 [.ref lt, .ref lr, .ref lw, .int (nI m), .int wa, .int lp]), (lt, aI E 4 ti), (lr, aI E 4 r), (lw, aS E 6 wf), (q, ob (kci κ) [.int (nI so), .int sg, .int pr])]) (fun g => some (.int (vsmN m k κ so sg r s))) (fun g => FN E an tn 8 (va_up f p s) g)) := by
  refine CT.ofV (by decide +kernel) (Nat.le_of_ble_eq_true rfl) ?_
  refine V.locals2 (lv2 := [(0, .ref a), (1, .int (nI k))]) rfl ?_
  refine V.aload_n dX10_visit_0 0 rfl ?_
  refine V.getf 0 1 rfl fa_X10_19_9 rfl dX10_visit_1 ?_
  refine V.iload_n dX10_visit_4 1 rfl ?_
  refine V.callVp (As := [.int (nI k)]) (rest := []) [4, 7] (c_Lane_shopOf E l L _ lo lt lr lw m wa lp wf k q (hkm) (hm) (hq)) rfl (by decide) mi_X1_shopOf 4 rfl rfl w_449 w_450 w_451 rfl rfl (Nat.le_of_ble_eq_true rfl) ⟨by decide, by decide⟩ ⟨by decide, by decide⟩ dX10_visit_5 (vw2 := fun _ => [(a, ob 9 [.ref tx, .ref lo, .ref no, .ref to, .ref pa, .int (nI p), .int (nI u), .ref ke, .ref ik, .ref sc, .ref w, .ref bp, .ref ac, .ref br, .int bs, .int bm]), (no, ob 3 [.ref tno, .int s.2.1, .int s.2.2.1, .int s.2.2.2.1, .int s.2.2.2.2.1, .int s.2.2.2.2.2.1, .int s.2.2.2.2.2.2.1, .int s.2.2.2.2.2.2.2]), (tno, aI E 4 s.1), (pa, aN E 8 (fun j => some (an j))), (lo, ob 1 [.ref lt, .ref lr, .ref lw, .int (nI m), .int wa, .int lp]), (lt, aI E 4 ti), (lr, aI E 4 r), (lw, aS E 6 wf), (q, ob (kci κ) [.int (nI so), .int sg, .int pr])]) (st2 := fun _ => [.ref q]) (fun _ => rfl) (fun _ => rfl) (fun _ => rfl) (fun _ _ => ?_)
  refine V.ifnonnull (tgt := 14) dX10_visit_8 (by decide) ?_
  refine V.aload_n dX10_visit_14 0 rfl ?_
  refine V.getf 0 2 rfl fa_X10_26_9 rfl dX10_visit_15 ?_
  refine V.getf 1 2 rfl fa_X10_176_3 rfl dX10_visit_18 ?_
  refine V.sipush (v := 9999) dX10_visit_21 (by decide) ?_
  refine V.icmp_le (tgt := 30) dX10_visit_24 (by decide) (fun _ => ?_) (fun hc => absurd (hst) hc)
  refine V.aload_n dX10_visit_30 0 rfl ?_
  refine V.callVg (As := []) (rest := []) [0, 1, 2, 3] (c_RL_remember E l L _ a tx lo no to pa ke ik sc w bp ac br bs bm tno s an tn KV f p u (hp) (hu) (hD) (FN.over (vw := [(a, ob 9 [.ref tx, .ref lo, .ref no, .ref to, .ref pa, .int (nI p), .int (nI u), .ref ke, .ref ik, .ref sc, .ref w, .ref bp, .ref ac, .ref br, .int bs, .int bm]), (no, ob 3 [.ref tno, .int s.2.1, .int s.2.2.1, .int s.2.2.2.1, .int s.2.2.2.2.1, .int s.2.2.2.2.2.1, .int s.2.2.2.2.2.2.1, .int s.2.2.2.2.2.2.2]), (tno, aI E 4 s.1), (pa, aN E 8 (fun j => some (an j))), (lo, ob 1 [.ref lt, .ref lr, .ref lw, .int (nI m), .int wa, .int lp]), (lt, aI E 4 ti), (lr, aI E 4 r), (lw, aS E 6 wf), (q, ob (kci κ) [.int (nI so), .int sg, .int pr])]) hF (fun b hb => hD.off (hK b hb))) (hbs) (fun b hb => hK b (List.mem_append_left [lo, lt, lr, lw, q] hb))) rfl (by decide) mi_X10_remember 0 rfl rfl w_522 w_524 wp_0 rfl rfl (Nat.le_of_ble_eq_true rfl) ⟨by decide, by decide⟩ ⟨by decide, by decide⟩ dX10_visit_31 (vw2 := fun g => [(a, ob 9 [.ref tx, .ref lo, .ref no, .ref to, .ref pa, .int (nI ((p + 1) % 8)), .int (nI (min 8 (u + 1))), .ref ke, .ref ik, .ref sc, .ref w, .ref bp, .ref ac, .ref br, .int bs, .int bm]), (no, ob 3 [.ref tno, .int s.2.1, .int s.2.2.1, .int s.2.2.2.1, .int s.2.2.2.2.1, .int s.2.2.2.2.2.1, .int s.2.2.2.2.2.2.1, .int s.2.2.2.2.2.2.2]), (tno, aI E 4 s.1), (pa, aN E 8 (fun j => some (an j))), (lo, ob 1 [.ref lt, .ref lr, .ref lw, .int (nI m), .int wa, .int lp]), (lt, aI E 4 ti), (lr, aI E 4 r), (lw, aS E 6 wf), (q, ob (kci κ) [.int (nI so), .int sg, .int pr])]) (st2 := fun g => []) (fun b hb => hD.off (hK b hb)) (fun _ => rfl) (fun _ => rfl) (fun _ => rfl) (fun g hq_31 => ?_)
  refine V.aload_n dX10_visit_34 0 rfl ?_
  refine V.getf 0 2 rfl fa_X10_26_9 rfl dX10_visit_35 ?_
  refine V.aload_n dX10_visit_38 0 rfl ?_
  refine V.getf 0 1 rfl fa_X10_19_9 rfl dX10_visit_39 ?_
  refine V.iload_n dX10_visit_42 1 rfl ?_
  refine V.callVp (As := [.ref lo, .int (nI k)]) (rest := []) [1, 2, 4, 5, 6, 7, 8] (c_Nose_call E l L _ no tno s lo lt lr lw m wa lp ti r wf k q κ so sg pr (hk) (hs) (hkm) (hm) (hq)) rfl (by decide) mi_X3_call 1 rfl rfl w_533 w_534 w_535 rfl rfl (Nat.le_of_ble_eq_true rfl) ⟨by decide, by decide⟩ ⟨by decide, by decide⟩ dX10_visit_43 (vw2 := fun _ => [(a, ob 9 [.ref tx, .ref lo, .ref no, .ref to, .ref pa, .int (nI ((p + 1) % 8)), .int (nI (min 8 (u + 1))), .ref ke, .ref ik, .ref sc, .ref w, .ref bp, .ref ac, .ref br, .int bs, .int bm]), (no, ob 3 [.ref tno, .int (callN m k κ so sg pr wa ti r s).2.1, .int (callN m k κ so sg pr wa ti r s).2.2.1, .int (callN m k κ so sg pr wa ti r s).2.2.2.1, .int (callN m k κ so sg pr wa ti r s).2.2.2.2.1, .int (callN m k κ so sg pr wa ti r s).2.2.2.2.2.1, .int (callN m k κ so sg pr wa ti r s).2.2.2.2.2.2.1, .int (callN m k κ so sg pr wa ti r s).2.2.2.2.2.2.2]), (tno, aI E 4 (callN m k κ so sg pr wa ti r s).1), (pa, aN E 8 (fun j => some (an j))), (lo, ob 1 [.ref lt, .ref lr, .ref lw, .int (nI m), .int wa, .int lp]), (lt, aI E 4 ti), (lr, aI E 4 r), (lw, aS E 6 wf), (q, ob (kci κ) [.int (nI so), .int sg, .int pr])]) (st2 := fun _ => [.int (vsmN m k κ so sg r s)]) (fun _ => rfl) (fun _ => rfl) (fun _ => rfl) (fun _ _ => ?_)
  exact V.iret rfl dX10_visit_46 (⟨g, rfl, rfl, rfl, hq_31⟩)

set_option maxHeartbeats 4000000 in
set_option maxRecDepth 100000 in
theorem c_RL_idleO (E : vEnv) (l : Launch) (L : List Nat) (h : Nat → va_E) (a : Nat) (tx : Nat) (lo : Nat) (no : Nat) (to : Nat) (pa : Nat) (ke : Nat) (ik : Nat) (sc : Nat) (w : Nat) (bp : Nat) (ac : Nat) (br : Nat) (pe : Int32) (un : Int32) (bs : Int32) (bm : Int32) (x : Int32) (hx : withinI x 1 20 = 0) : CT E l yX10_idle cX10_idle 2 (some (.int)) 1 0 0 L h [(a, ob 9 [.ref tx, .ref lo, .ref no, .ref to, .ref pa, .int pe, .int un, .ref ke, .ref ik, .ref sc, .ref w, .ref bp, .ref ac, .ref br, .int bs, .int bm])] [.ref a, .int x] (qP L h (fun (_ : Unit) => [(a, ob 9 [.ref tx, .ref lo, .ref no, .ref to, .ref pa, .int pe, .int un, .ref ke, .ref ik, .ref sc, .ref w, .ref bp, .ref ac, .ref br, .int bs, .int bm])]) (fun _ => some (.int (-3))) (fun _ => True)) := by
  refine CT.ofV (by decide +kernel) (Nat.le_of_ble_eq_true rfl) ?_
  refine V.locals2 (lv2 := [(0, .ref a), (1, .int x)]) rfl ?_
  refine V.iload_n dX10_idle_0 1 rfl ?_
  refine V.iconst (v := 1) dX10_idle_1 (by decide) ?_
  refine V.bipush (v := 20) dX10_idle_2 (by decide) ?_
  refine V.callSp (As := [.int x, .int 1, .int 20]) (rest := []) [] (c_within E l L _ x 1 20) rfl (by decide) mi_X10_isWithin w_267 w_268 rfl rfl (Nat.le_of_ble_eq_true rfl) ⟨by decide, by decide⟩ ⟨by decide, by decide⟩ dX10_idle_4 (vw2 := fun _ => [(a, ob 9 [.ref tx, .ref lo, .ref no, .ref to, .ref pa, .int pe, .int un, .ref ke, .ref ik, .ref sc, .ref w, .ref bp, .ref ac, .ref br, .int bs, .int bm])]) (st2 := fun _ => [.int (withinI x 1 20)]) (fun _ => rfl) (fun _ => rfl) (fun _ => rfl) (fun _ _ => ?_)
  refine V.topc (v := 0) (hx) ?_
  refine V.if_ne (tgt := 13) dX10_idle_7 (by decide) (fun hc => absurd (by decide) hc) (fun _ => ?_)
  refine V.bipush (v := (-3)) dX10_idle_10 (by decide) ?_
  exact V.iret rfl dX10_idle_12 (⟨(), rfl, rfl, rfl, trivial⟩)

set_option maxHeartbeats 4000000 in
set_option maxRecDepth 100000 in
theorem c_RL_idleF (E : vEnv) (l : Launch) (L : List Nat) (h : Nat → va_E) (a : Nat) (tx : Nat) (lo : Nat) (no : Nat) (to : Nat) (pa : Nat) (ke : Nat) (ik : Nat) (sc : Nat) (w : Nat) (bp : Nat) (ac : Nat) (br : Nat) (pe : Int32) (un : Int32) (bs : Int32) (bm : Int32) (tno : Nat) (s : NS) (x : Int32) (hx : withinI x 1 20 = 1) (hst : ¬ s.2.2.1 ≤ 9999) : CT E l yX10_idle cX10_idle 2 (some (.int)) 1 0 0 L h [(a, ob 9 [.ref tx, .ref lo, .ref no, .ref to, .ref pa, .int pe, .int un, .ref ke, .ref ik, .ref sc, .ref w, .ref bp, .ref ac, .ref br, .int bs, .int bm]), (no, ob 3 [.ref tno, .int s.2.1, .int s.2.2.1, .int s.2.2.2.1, .int s.2.2.2.2.1, .int s.2.2.2.2.2.1, .int s.2.2.2.2.2.2.1, .int s.2.2.2.2.2.2.2]), (tno, aI E 4 s.1)] [.ref a, .int x] (qP L h (fun (_ : Unit) => [(a, ob 9 [.ref tx, .ref lo, .ref no, .ref to, .ref pa, .int pe, .int un, .ref ke, .ref ik, .ref sc, .ref w, .ref bp, .ref ac, .ref br, .int bs, .int bm]), (no, ob 3 [.ref tno, .int s.2.1, .int s.2.2.1, .int s.2.2.2.1, .int s.2.2.2.2.1, .int s.2.2.2.2.2.1, .int s.2.2.2.2.2.2.1, .int s.2.2.2.2.2.2.2]), (tno, aI E 4 s.1)]) (fun _ => some (.int (-5))) (fun _ => True)) := by
  refine CT.ofV (by decide +kernel) (Nat.le_of_ble_eq_true rfl) ?_
  refine V.locals2 (lv2 := [(0, .ref a), (1, .int x)]) rfl ?_
  refine V.iload_n dX10_idle_0 1 rfl ?_
  refine V.iconst (v := 1) dX10_idle_1 (by decide) ?_
  refine V.bipush (v := 20) dX10_idle_2 (by decide) ?_
  refine V.callSp (As := [.int x, .int 1, .int 20]) (rest := []) [] (c_within E l L _ x 1 20) rfl (by decide) mi_X10_isWithin w_267 w_268 rfl rfl (Nat.le_of_ble_eq_true rfl) ⟨by decide, by decide⟩ ⟨by decide, by decide⟩ dX10_idle_4 (vw2 := fun _ => [(a, ob 9 [.ref tx, .ref lo, .ref no, .ref to, .ref pa, .int pe, .int un, .ref ke, .ref ik, .ref sc, .ref w, .ref bp, .ref ac, .ref br, .int bs, .int bm]), (no, ob 3 [.ref tno, .int s.2.1, .int s.2.2.1, .int s.2.2.2.1, .int s.2.2.2.2.1, .int s.2.2.2.2.2.1, .int s.2.2.2.2.2.2.1, .int s.2.2.2.2.2.2.2]), (tno, aI E 4 s.1)]) (st2 := fun _ => [.int (withinI x 1 20)]) (fun _ => rfl) (fun _ => rfl) (fun _ => rfl) (fun _ _ => ?_)
  refine V.topc (v := 1) (hx) ?_
  refine V.if_ne (tgt := 13) dX10_idle_7 (by decide) (fun _ => ?_) (fun hc => absurd hc (by decide))
  refine V.aload_n dX10_idle_13 0 rfl ?_
  refine V.getf 0 2 rfl fa_X10_26_9 rfl dX10_idle_14 ?_
  refine V.getf 1 2 rfl fa_X10_176_3 rfl dX10_idle_17 ?_
  refine V.sipush (v := 9999) dX10_idle_20 (by decide) ?_
  refine V.icmp_le (tgt := 29) dX10_idle_23 (by decide) (fun hc => absurd hc (hst)) (fun _ => ?_)
  refine V.bipush (v := (-5)) dX10_idle_26 (by decide) ?_
  exact V.iret rfl dX10_idle_28 (⟨(), rfl, rfl, rfl, trivial⟩)

set_option maxHeartbeats 4000000 in
set_option maxRecDepth 100000 in
theorem c_RL_idle (E : vEnv) (l : Launch) (L : List Nat) (h : Nat → va_E) (a : Nat) (tx : Nat) (lo : Nat) (no : Nat) (to : Nat) (pa : Nat) (ke : Nat) (ik : Nat) (sc : Nat) (w : Nat) (bp : Nat) (ac : Nat) (br : Nat) (bs : Int32) (bm : Int32) (tno : Nat) (s : NS) (an : Nat → Nat) (tn : Nat → Nat) (KV : Nat → Prop) (f : Nat → NS) (p : Nat) (u : Nat) (lt : Nat) (lr : Nat) (lw : Nat) (m : Nat) (wa : Int32) (lp : Int32) (r : Nat → Int32) (x : Int32) (hp : p < 8) (hu : u ≤ 8) (hD : FD L KV an tn 8) (hF : FN E an tn 8 f h) (hbs : s.2.2.2.2.2.2.2 = 0 ∨ s.2.2.2.2.2.2.2 = 1) (hK : ∀ b ∈ [a, no, tno, pa, lo, lr], KV b) (hx : withinI x 1 20 = 1) (hst : s.2.2.1 ≤ 9999) : CT E l yX10_idle cX10_idle 2 (some (.int)) 4 0 0 L h [(a, ob 9 [.ref tx, .ref lo, .ref no, .ref to, .ref pa, .int (nI p), .int (nI u), .ref ke, .ref ik, .ref sc, .ref w, .ref bp, .ref ac, .ref br, .int bs, .int bm]), (no, ob 3 [.ref tno, .int s.2.1, .int s.2.2.1, .int s.2.2.2.1, .int s.2.2.2.2.1, .int s.2.2.2.2.2.1, .int s.2.2.2.2.2.2.1, .int s.2.2.2.2.2.2.2]), (tno, aI E 4 s.1), (pa, aN E 8 (fun j => some (an j))), (lo, ob 1 [.ref lt, .ref lr, .ref lw, .int (nI m), .int wa, .int lp]), (lr, aI E 4 r)] [.ref a, .int x] (qG L h (inF an tn 8) (fun (g : Nat → va_E) => g) (fun (g : Nat → va_E) => [(a, ob 9 [.ref tx, .ref lo, .ref no, .ref to, .ref pa, .int (nI ((p + 1) % 8)), .int (nI (min 8 (u + 1))), .ref ke, .ref ik, .ref sc, .ref w, .ref bp, .ref ac, .ref br, .int bs, .int bm]), (no, ob 3 [.ref tno, .int (stepN r x s).2.1, .int (stepN r x s).2.2.1, .int (stepN r x s).2.2.2.1, .int (stepN r x s).2.2.2.2.1, .int (stepN r x s).2.2.2.2.2.1, .int (stepN r x s).2.2.2.2.2.2.1, .int (stepN r x s).2.2.2.2.2.2.2]), (tno, aI E 4 (stepN r x s).1), (pa, aN E 8 (fun j => some (an j))), (lo, ob 1 [.ref lt, .ref lr, .ref lw, .int (nI m), .int wa, .int lp]), (lr, aI E 4 r)]) (fun g => some (.int (s.2.2.1 + x))) (fun g => FN E an tn 8 (va_up f p s) g)) := by
  refine CT.ofV (by decide +kernel) (Nat.le_of_ble_eq_true rfl) ?_
  refine V.locals2 (lv2 := [(0, .ref a), (1, .int x)]) rfl ?_
  refine V.iload_n dX10_idle_0 1 rfl ?_
  refine V.iconst (v := 1) dX10_idle_1 (by decide) ?_
  refine V.bipush (v := 20) dX10_idle_2 (by decide) ?_
  refine V.callSp (As := [.int x, .int 1, .int 20]) (rest := []) [] (c_within E l L _ x 1 20) rfl (by decide) mi_X10_isWithin w_267 w_268 rfl rfl (Nat.le_of_ble_eq_true rfl) ⟨by decide, by decide⟩ ⟨by decide, by decide⟩ dX10_idle_4 (vw2 := fun _ => [(a, ob 9 [.ref tx, .ref lo, .ref no, .ref to, .ref pa, .int (nI p), .int (nI u), .ref ke, .ref ik, .ref sc, .ref w, .ref bp, .ref ac, .ref br, .int bs, .int bm]), (no, ob 3 [.ref tno, .int s.2.1, .int s.2.2.1, .int s.2.2.2.1, .int s.2.2.2.2.1, .int s.2.2.2.2.2.1, .int s.2.2.2.2.2.2.1, .int s.2.2.2.2.2.2.2]), (tno, aI E 4 s.1), (pa, aN E 8 (fun j => some (an j))), (lo, ob 1 [.ref lt, .ref lr, .ref lw, .int (nI m), .int wa, .int lp]), (lr, aI E 4 r)]) (st2 := fun _ => [.int (withinI x 1 20)]) (fun _ => rfl) (fun _ => rfl) (fun _ => rfl) (fun _ _ => ?_)
  refine V.topc (v := 1) (hx) ?_
  refine V.if_ne (tgt := 13) dX10_idle_7 (by decide) (fun _ => ?_) (fun hc => absurd hc (by decide))
  refine V.aload_n dX10_idle_13 0 rfl ?_
  refine V.getf 0 2 rfl fa_X10_26_9 rfl dX10_idle_14 ?_
  refine V.getf 1 2 rfl fa_X10_176_3 rfl dX10_idle_17 ?_
  refine V.sipush (v := 9999) dX10_idle_20 (by decide) ?_
  refine V.icmp_le (tgt := 29) dX10_idle_23 (by decide) (fun _ => ?_) (fun hc => absurd (hst) hc)
  refine V.aload_n dX10_idle_29 0 rfl ?_
  refine V.callVg (As := []) (rest := []) [0, 1, 2, 3] (c_RL_remember E l L _ a tx lo no to pa ke ik sc w bp ac br bs bm tno s an tn KV f p u (hp) (hu) (hD) (FN.over (vw := [(a, ob 9 [.ref tx, .ref lo, .ref no, .ref to, .ref pa, .int (nI p), .int (nI u), .ref ke, .ref ik, .ref sc, .ref w, .ref bp, .ref ac, .ref br, .int bs, .int bm]), (no, ob 3 [.ref tno, .int s.2.1, .int s.2.2.1, .int s.2.2.2.1, .int s.2.2.2.2.1, .int s.2.2.2.2.2.1, .int s.2.2.2.2.2.2.1, .int s.2.2.2.2.2.2.2]), (tno, aI E 4 s.1), (pa, aN E 8 (fun j => some (an j))), (lo, ob 1 [.ref lt, .ref lr, .ref lw, .int (nI m), .int wa, .int lp]), (lr, aI E 4 r)]) hF (fun b hb => hD.off (hK b hb))) (hbs) (fun b hb => hK b (List.mem_append_left [lo, lr] hb))) rfl (by decide) mi_X10_remember 0 rfl rfl w_522 w_524 wp_0 rfl rfl (Nat.le_of_ble_eq_true rfl) ⟨by decide, by decide⟩ ⟨by decide, by decide⟩ dX10_idle_30 (vw2 := fun g => [(a, ob 9 [.ref tx, .ref lo, .ref no, .ref to, .ref pa, .int (nI ((p + 1) % 8)), .int (nI (min 8 (u + 1))), .ref ke, .ref ik, .ref sc, .ref w, .ref bp, .ref ac, .ref br, .int bs, .int bm]), (no, ob 3 [.ref tno, .int s.2.1, .int s.2.2.1, .int s.2.2.2.1, .int s.2.2.2.2.1, .int s.2.2.2.2.2.1, .int s.2.2.2.2.2.2.1, .int s.2.2.2.2.2.2.2]), (tno, aI E 4 s.1), (pa, aN E 8 (fun j => some (an j))), (lo, ob 1 [.ref lt, .ref lr, .ref lw, .int (nI m), .int wa, .int lp]), (lr, aI E 4 r)]) (st2 := fun g => []) (fun b hb => hD.off (hK b hb)) (fun _ => rfl) (fun _ => rfl) (fun _ => rfl) (fun g hq_30 => ?_)
  refine V.aload_n dX10_idle_33 0 rfl ?_
  refine V.getf 0 2 rfl fa_X10_26_9 rfl dX10_idle_34 ?_
  refine V.aload_n dX10_idle_37 0 rfl ?_
  refine V.getf 0 1 rfl fa_X10_19_9 rfl dX10_idle_38 ?_
  refine V.iload_n dX10_idle_41 1 rfl ?_
  refine V.callVp (As := [.ref lo, .int x]) (rest := []) [1, 2, 4, 5] (c_Nose_step E l L _ no tno s lo lt lr lw m wa lp r x) rfl (by decide) mi_X3_step 1 rfl rfl w_558 w_543 w_544 rfl rfl (Nat.le_of_ble_eq_true rfl) ⟨by decide, by decide⟩ ⟨by decide, by decide⟩ dX10_idle_42 (vw2 := fun _ => [(a, ob 9 [.ref tx, .ref lo, .ref no, .ref to, .ref pa, .int (nI ((p + 1) % 8)), .int (nI (min 8 (u + 1))), .ref ke, .ref ik, .ref sc, .ref w, .ref bp, .ref ac, .ref br, .int bs, .int bm]), (no, ob 3 [.ref tno, .int (stepN r x s).2.1, .int (stepN r x s).2.2.1, .int (stepN r x s).2.2.2.1, .int (stepN r x s).2.2.2.2.1, .int (stepN r x s).2.2.2.2.2.1, .int (stepN r x s).2.2.2.2.2.2.1, .int (stepN r x s).2.2.2.2.2.2.2]), (tno, aI E 4 (stepN r x s).1), (pa, aN E 8 (fun j => some (an j))), (lo, ob 1 [.ref lt, .ref lr, .ref lw, .int (nI m), .int wa, .int lp]), (lr, aI E 4 r)]) (st2 := fun _ => []) (fun _ => rfl) (fun _ => rfl) (fun _ => rfl) (fun _ _ => ?_)
  refine V.aload_n dX10_idle_45 0 rfl ?_
  refine V.getf 0 2 rfl fa_X10_26_9 rfl dX10_idle_46 ?_
  refine V.getf 1 2 rfl fa_X10_176_3 rfl dX10_idle_49 ?_
  exact V.iret rfl dX10_idle_52 (⟨g, rfl, rfl, rfl, hq_30⟩)

set_option maxHeartbeats 4000000 in
set_option maxRecDepth 100000 in
theorem c_RL_windN (E : vEnv) (l : Launch) (L : List Nat) (h : Nat → va_E) (a : Nat) (tx : Nat) (lo : Nat) (no : Nat) (to : Nat) (pa : Nat) (ke : Nat) (ik : Nat) (sc : Nat) (w : Nat) (bp : Nat) (ac : Nat) (br : Nat) (pe : Int32) (un : Int32) (bs : Int32) (bm : Int32) (lt : Nat) (lr : Nat) (lw : Nat) (m : Nat) (wa : Int32) (lp : Int32) (hm0 : m = 0) : CT E l yX10_wind cX10_wind 1 (some (.int)) 0 0 0 L h [(a, ob 9 [.ref tx, .ref lo, .ref no, .ref to, .ref pa, .int pe, .int un, .ref ke, .ref ik, .ref sc, .ref w, .ref bp, .ref ac, .ref br, .int bs, .int bm]), (lo, ob 1 [.ref lt, .ref lr, .ref lw, .int (nI m), .int wa, .int lp])] [.ref a] (qP L h (fun (_ : Unit) => [(a, ob 9 [.ref tx, .ref lo, .ref no, .ref to, .ref pa, .int pe, .int un, .ref ke, .ref ik, .ref sc, .ref w, .ref bp, .ref ac, .ref br, .int bs, .int bm]), (lo, ob 1 [.ref lt, .ref lr, .ref lw, .int (nI m), .int wa, .int lp])]) (fun _ => some (.int (-4))) (fun _ => True)) := by
  refine CT.ofV (by decide +kernel) (Nat.le_of_ble_eq_true rfl) ?_
  refine V.locals2 (lv2 := [(0, .ref a)]) rfl ?_
  refine V.aload_n dX10_wind_0 0 rfl ?_
  refine V.getf 0 1 rfl fa_X10_19_9 rfl dX10_wind_1 ?_
  refine V.getf 1 3 rfl fa_X10_89_1 rfl dX10_wind_4 ?_
  refine V.if_ne (tgt := 13) dX10_wind_7 (by decide) (fun hc => absurd (by rw [hm0]; rfl) hc) (fun _ => ?_)
  refine V.bipush (v := (-4)) dX10_wind_10 (by decide) ?_
  exact V.iret rfl dX10_wind_12 (⟨(), rfl, rfl, rfl, trivial⟩)

set_option maxHeartbeats 4000000 in
set_option maxRecDepth 100000 in
theorem c_RL_wind (E : vEnv) (l : Launch) (L : List Nat) (h : Nat → va_E) (a : Nat) (tx : Nat) (lo : Nat) (no : Nat) (to : Nat) (pa : Nat) (ke : Nat) (ik : Nat) (sc : Nat) (w : Nat) (bp : Nat) (ac : Nat) (br : Nat) (bs : Int32) (bm : Int32) (tno : Nat) (s : NS) (an : Nat → Nat) (tn : Nat → Nat) (KV : Nat → Prop) (f : Nat → NS) (p : Nat) (u : Nat) (lt : Nat) (lr : Nat) (lw : Nat) (m : Nat) (wa : Int32) (lp : Int32) (hp : p < 8) (hu : u ≤ 8) (hD : FD L KV an tn 8) (hF : FN E an tn 8 f h) (hbs : s.2.2.2.2.2.2.2 = 0 ∨ s.2.2.2.2.2.2.2 = 1) (hK : ∀ b ∈ [a, no, tno, pa, lo], KV b) (hm0 : 0 < m) (hm : m ≤ 6) : CT E l yX10_wind cX10_wind 1 (some (.int)) 4 0 0 L h [(a, ob 9 [.ref tx, .ref lo, .ref no, .ref to, .ref pa, .int (nI p), .int (nI u), .ref ke, .ref ik, .ref sc, .ref w, .ref bp, .ref ac, .ref br, .int bs, .int bm]), (no, ob 3 [.ref tno, .int s.2.1, .int s.2.2.1, .int s.2.2.2.1, .int s.2.2.2.2.1, .int s.2.2.2.2.2.1, .int s.2.2.2.2.2.2.1, .int s.2.2.2.2.2.2.2]), (tno, aI E 4 s.1), (pa, aN E 8 (fun j => some (an j))), (lo, ob 1 [.ref lt, .ref lr, .ref lw, .int (nI m), .int wa, .int lp])] [.ref a] (qG L h (inF an tn 8) (fun (g : Nat → va_E) => g) (fun (g : Nat → va_E) => [(a, ob 9 [.ref tx, .ref lo, .ref no, .ref to, .ref pa, .int (nI ((p + 1) % 8)), .int (nI (min 8 (u + 1))), .ref ke, .ref ik, .ref sc, .ref w, .ref bp, .ref ac, .ref br, .int bs, .int bm]), (no, ob 3 [.ref tno, .int (windN m s).2.1, .int (windN m s).2.2.1, .int (windN m s).2.2.2.1, .int (windN m s).2.2.2.2.1, .int (windN m s).2.2.2.2.2.1, .int (windN m s).2.2.2.2.2.2.1, .int (windN m s).2.2.2.2.2.2.2]), (tno, aI E 4 (windN m s).1), (pa, aN E 8 (fun j => some (an j))), (lo, ob 1 [.ref lt, .ref lr, .ref lw, .int (nI m), .int wa, .int lp])]) (fun g => some (.int (nI m - 1 - s.2.1))) (fun g => FN E an tn 8 (va_up f p s) g)) := by
  refine CT.ofV (by decide +kernel) (Nat.le_of_ble_eq_true rfl) ?_
  refine V.locals2 (lv2 := [(0, .ref a)]) rfl ?_
  refine V.aload_n dX10_wind_0 0 rfl ?_
  refine V.getf 0 1 rfl fa_X10_19_9 rfl dX10_wind_1 ?_
  refine V.getf 4 3 rfl fa_X10_89_1 rfl dX10_wind_4 ?_
  refine V.if_ne (tgt := 13) dX10_wind_7 (by decide) (fun _ => ?_) (fun hc => absurd hc (fun hh => absurd ((nI_eq (b := 0) (by omega) (by omega)).mp hh) (by omega)))
  refine V.aload_n dX10_wind_13 0 rfl ?_
  refine V.callVg (As := []) (rest := []) [0, 1, 2, 3] (c_RL_remember E l L _ a tx lo no to pa ke ik sc w bp ac br bs bm tno s an tn KV f p u (hp) (hu) (hD) (FN.over (vw := [(a, ob 9 [.ref tx, .ref lo, .ref no, .ref to, .ref pa, .int (nI p), .int (nI u), .ref ke, .ref ik, .ref sc, .ref w, .ref bp, .ref ac, .ref br, .int bs, .int bm]), (no, ob 3 [.ref tno, .int s.2.1, .int s.2.2.1, .int s.2.2.2.1, .int s.2.2.2.2.1, .int s.2.2.2.2.2.1, .int s.2.2.2.2.2.2.1, .int s.2.2.2.2.2.2.2]), (tno, aI E 4 s.1), (pa, aN E 8 (fun j => some (an j))), (lo, ob 1 [.ref lt, .ref lr, .ref lw, .int (nI m), .int wa, .int lp])]) hF (fun b hb => hD.off (hK b hb))) (hbs) (fun b hb => hK b (List.mem_append_left [lo] hb))) rfl (by decide) mi_X10_remember 0 rfl rfl w_522 w_524 wp_0 rfl rfl (Nat.le_of_ble_eq_true rfl) ⟨by decide, by decide⟩ ⟨by decide, by decide⟩ dX10_wind_14 (vw2 := fun g => [(a, ob 9 [.ref tx, .ref lo, .ref no, .ref to, .ref pa, .int (nI ((p + 1) % 8)), .int (nI (min 8 (u + 1))), .ref ke, .ref ik, .ref sc, .ref w, .ref bp, .ref ac, .ref br, .int bs, .int bm]), (no, ob 3 [.ref tno, .int s.2.1, .int s.2.2.1, .int s.2.2.2.1, .int s.2.2.2.2.1, .int s.2.2.2.2.2.1, .int s.2.2.2.2.2.2.1, .int s.2.2.2.2.2.2.2]), (tno, aI E 4 s.1), (pa, aN E 8 (fun j => some (an j))), (lo, ob 1 [.ref lt, .ref lr, .ref lw, .int (nI m), .int wa, .int lp])]) (st2 := fun g => []) (fun b hb => hD.off (hK b hb)) (fun _ => rfl) (fun _ => rfl) (fun _ => rfl) (fun g hq_14 => ?_)
  refine V.aload_n dX10_wind_17 0 rfl ?_
  refine V.getf 0 2 rfl fa_X10_26_9 rfl dX10_wind_18 ?_
  refine V.aload_n dX10_wind_21 0 rfl ?_
  refine V.getf 0 2 rfl fa_X10_26_9 rfl dX10_wind_22 ?_
  refine V.getf 1 7 rfl fa_X10_114_3 rfl dX10_wind_25 ?_
  refine V.if_ne (tgt := 35) dX10_wind_28 (by decide) (fun c1_28 => ?_) (fun c1_28 => ?_)
  · skip
    refine V.iconst (v := 0) dX10_wind_35 (by decide) ?_
    refine V.putf 1 7 (vw2 := [(a, ob 9 [.ref tx, .ref lo, .ref no, .ref to, .ref pa, .int (nI ((p + 1) % 8)), .int (nI (min 8 (u + 1))), .ref ke, .ref ik, .ref sc, .ref w, .ref bp, .ref ac, .ref br, .int bs, .int bm]), (no, ob 3 [.ref tno, .int s.2.1, .int s.2.2.1, .int s.2.2.2.1, .int s.2.2.2.2.1, .int s.2.2.2.2.2.1, .int s.2.2.2.2.2.2.1, .int 0]), (tno, aI E 4 s.1), (pa, aN E 8 (fun j => some (an j))), (lo, ob 1 [.ref lt, .ref lr, .ref lw, .int (nI m), .int wa, .int lp])]) rfl fp_X10_114_3 rfl rfl (Nat.le_of_ble_eq_true rfl) rfl dX10_wind_36 ?_
    refine V.aload_n dX10_wind_39 0 rfl ?_
    refine V.getf 0 2 rfl fa_X10_26_9 rfl dX10_wind_40 ?_
    refine V.aload_n dX10_wind_43 0 rfl ?_
    refine V.getf 0 1 rfl fa_X10_19_9 rfl dX10_wind_44 ?_
    refine V.getf 4 3 rfl fa_X10_89_1 rfl dX10_wind_47 ?_
    refine V.iconst (v := 1) dX10_wind_50 (by decide) ?_
    refine V.isub dX10_wind_51 ?_
    refine V.aload_n dX10_wind_52 0 rfl ?_
    refine V.getf 0 2 rfl fa_X10_26_9 rfl dX10_wind_53 ?_
    refine V.getf 1 1 rfl fa_X10_189_3 rfl dX10_wind_56 ?_
    refine V.isub dX10_wind_59 ?_
    refine V.putf 1 1 (vw2 := [(a, ob 9 [.ref tx, .ref lo, .ref no, .ref to, .ref pa, .int (nI ((p + 1) % 8)), .int (nI (min 8 (u + 1))), .ref ke, .ref ik, .ref sc, .ref w, .ref bp, .ref ac, .ref br, .int bs, .int bm]), (no, ob 3 [.ref tno, .int (((nI m) - 1) - s.2.1), .int s.2.2.1, .int s.2.2.2.1, .int s.2.2.2.2.1, .int s.2.2.2.2.2.1, .int s.2.2.2.2.2.2.1, .int 0]), (tno, aI E 4 s.1), (pa, aN E 8 (fun j => some (an j))), (lo, ob 1 [.ref lt, .ref lr, .ref lw, .int (nI m), .int wa, .int lp])]) rfl fp_X10_189_3 rfl rfl (Nat.le_of_ble_eq_true rfl) rfl dX10_wind_60 ?_
    refine V.aload_n dX10_wind_63 0 rfl ?_
    refine V.getf 0 2 rfl fa_X10_26_9 rfl dX10_wind_64 ?_
    refine V.getf 1 1 rfl fa_X10_189_3 rfl dX10_wind_67 ?_
    exact V.iret rfl dX10_wind_70 (⟨g, rfl, rfl, by unfold windN; rw [if_neg c1_28], hq_14⟩)
  · skip
    refine V.iconst (v := 1) dX10_wind_31 (by decide) ?_
    refine V.goto (tgt := 36) dX10_wind_32 (by decide) ?_
    refine V.putf 1 7 (vw2 := [(a, ob 9 [.ref tx, .ref lo, .ref no, .ref to, .ref pa, .int (nI ((p + 1) % 8)), .int (nI (min 8 (u + 1))), .ref ke, .ref ik, .ref sc, .ref w, .ref bp, .ref ac, .ref br, .int bs, .int bm]), (no, ob 3 [.ref tno, .int s.2.1, .int s.2.2.1, .int s.2.2.2.1, .int s.2.2.2.2.1, .int s.2.2.2.2.2.1, .int s.2.2.2.2.2.2.1, .int 1]), (tno, aI E 4 s.1), (pa, aN E 8 (fun j => some (an j))), (lo, ob 1 [.ref lt, .ref lr, .ref lw, .int (nI m), .int wa, .int lp])]) rfl fp_X10_114_3 rfl rfl (Nat.le_of_ble_eq_true rfl) rfl dX10_wind_36 ?_
    refine V.aload_n dX10_wind_39 0 rfl ?_
    refine V.getf 0 2 rfl fa_X10_26_9 rfl dX10_wind_40 ?_
    refine V.aload_n dX10_wind_43 0 rfl ?_
    refine V.getf 0 1 rfl fa_X10_19_9 rfl dX10_wind_44 ?_
    refine V.getf 4 3 rfl fa_X10_89_1 rfl dX10_wind_47 ?_
    refine V.iconst (v := 1) dX10_wind_50 (by decide) ?_
    refine V.isub dX10_wind_51 ?_
    refine V.aload_n dX10_wind_52 0 rfl ?_
    refine V.getf 0 2 rfl fa_X10_26_9 rfl dX10_wind_53 ?_
    refine V.getf 1 1 rfl fa_X10_189_3 rfl dX10_wind_56 ?_
    refine V.isub dX10_wind_59 ?_
    refine V.putf 1 1 (vw2 := [(a, ob 9 [.ref tx, .ref lo, .ref no, .ref to, .ref pa, .int (nI ((p + 1) % 8)), .int (nI (min 8 (u + 1))), .ref ke, .ref ik, .ref sc, .ref w, .ref bp, .ref ac, .ref br, .int bs, .int bm]), (no, ob 3 [.ref tno, .int (((nI m) - 1) - s.2.1), .int s.2.2.1, .int s.2.2.2.1, .int s.2.2.2.2.1, .int s.2.2.2.2.2.1, .int s.2.2.2.2.2.2.1, .int 1]), (tno, aI E 4 s.1), (pa, aN E 8 (fun j => some (an j))), (lo, ob 1 [.ref lt, .ref lr, .ref lw, .int (nI m), .int wa, .int lp])]) rfl fp_X10_189_3 rfl rfl (Nat.le_of_ble_eq_true rfl) rfl dX10_wind_60 ?_
    refine V.aload_n dX10_wind_63 0 rfl ?_
    refine V.getf 0 2 rfl fa_X10_26_9 rfl dX10_wind_64 ?_
    refine V.getf 1 1 rfl fa_X10_189_3 rfl dX10_wind_67 ?_
    exact V.iret rfl dX10_wind_70 (⟨g, rfl, rfl, by unfold windN; rw [if_pos c1_28], hq_14⟩)

set_option maxHeartbeats 4000000 in
set_option maxRecDepth 100000 in
theorem c_RL_coldO (E : vEnv) (l : Launch) (L : List Nat) (h : Nat → va_E) (a : Nat) (tx : Nat) (lo : Nat) (no : Nat) (to : Nat) (pa : Nat) (ke : Nat) (ik : Nat) (sc : Nat) (w : Nat) (bp : Nat) (ac : Nat) (br : Nat) (pe : Int32) (un : Int32) (bs : Int32) (bm : Int32) (x : Int32) (hx : withinI x 0 50 = 0) : CT E l yX10_cold cX10_cold 3 (some (.int)) 1 0 0 L h [(a, ob 9 [.ref tx, .ref lo, .ref no, .ref to, .ref pa, .int pe, .int un, .ref ke, .ref ik, .ref sc, .ref w, .ref bp, .ref ac, .ref br, .int bs, .int bm])] [.ref a, .int x] (qP L h (fun (_ : Unit) => [(a, ob 9 [.ref tx, .ref lo, .ref no, .ref to, .ref pa, .int pe, .int un, .ref ke, .ref ik, .ref sc, .ref w, .ref bp, .ref ac, .ref br, .int bs, .int bm])]) (fun _ => some (.int (-3))) (fun _ => True)) := by
  refine CT.ofV (by decide +kernel) (Nat.le_of_ble_eq_true rfl) ?_
  refine V.locals2 (lv2 := [(0, .ref a), (1, .int x)]) rfl ?_
  refine V.iload_n dX10_cold_0 1 rfl ?_
  refine V.iconst (v := 0) dX10_cold_1 (by decide) ?_
  refine V.bipush (v := 50) dX10_cold_2 (by decide) ?_
  refine V.callSp (As := [.int x, .int 0, .int 50]) (rest := []) [] (c_within E l L _ x 0 50) rfl (by decide) mi_X10_isWithin w_267 w_268 rfl rfl (Nat.le_of_ble_eq_true rfl) ⟨by decide, by decide⟩ ⟨by decide, by decide⟩ dX10_cold_4 (vw2 := fun _ => [(a, ob 9 [.ref tx, .ref lo, .ref no, .ref to, .ref pa, .int pe, .int un, .ref ke, .ref ik, .ref sc, .ref w, .ref bp, .ref ac, .ref br, .int bs, .int bm])]) (st2 := fun _ => [.int (withinI x 0 50)]) (fun _ => rfl) (fun _ => rfl) (fun _ => rfl) (fun _ _ => ?_)
  refine V.topc (v := 0) (hx) ?_
  refine V.if_ne (tgt := 13) dX10_cold_7 (by decide) (fun hc => absurd (by decide) hc) (fun _ => ?_)
  refine V.bipush (v := (-3)) dX10_cold_10 (by decide) ?_
  exact V.iret rfl dX10_cold_12 (⟨(), rfl, rfl, rfl, trivial⟩)

set_option maxHeartbeats 4000000 in
set_option maxRecDepth 100000 in
theorem c_RL_cold (E : vEnv) (l : Launch) (L : List Nat) (h : Nat → va_E) (a : Nat) (tx : Nat) (lo : Nat) (no : Nat) (to : Nat) (pa : Nat) (ke : Nat) (ik : Nat) (sc : Nat) (w : Nat) (bp : Nat) (ac : Nat) (br : Nat) (bs : Int32) (bm : Int32) (tno : Nat) (s : NS) (an : Nat → Nat) (tn : Nat → Nat) (KV : Nat → Prop) (f : Nat → NS) (p : Nat) (u : Nat) (x : Int32) (hp : p < 8) (hu : u ≤ 8) (hD : FD L KV an tn 8) (hF : FN E an tn 8 f h) (hbs : s.2.2.2.2.2.2.2 = 0 ∨ s.2.2.2.2.2.2.2 = 1) (hK : ∀ b ∈ [a, no, tno, pa], KV b) (hx : withinI x 0 50 = 1) : CT E l yX10_cold cX10_cold 3 (some (.int)) 4 0 0 L h [(a, ob 9 [.ref tx, .ref lo, .ref no, .ref to, .ref pa, .int (nI p), .int (nI u), .ref ke, .ref ik, .ref sc, .ref w, .ref bp, .ref ac, .ref br, .int bs, .int bm]), (no, ob 3 [.ref tno, .int s.2.1, .int s.2.2.1, .int s.2.2.2.1, .int s.2.2.2.2.1, .int s.2.2.2.2.2.1, .int s.2.2.2.2.2.2.1, .int s.2.2.2.2.2.2.2]), (tno, aI E 4 s.1), (pa, aN E 8 (fun j => some (an j)))] [.ref a, .int x] (qG L h (inF an tn 8) (fun (g : Nat → va_E) => g) (fun (g : Nat → va_E) => [(a, ob 9 [.ref tx, .ref lo, .ref no, .ref to, .ref pa, .int (nI ((p + 1) % 8)), .int (nI (min 8 (u + 1))), .ref ke, .ref ik, .ref sc, .ref w, .ref bp, .ref ac, .ref br, .int bs, .int bm]), (no, ob 3 [.ref tno, .int (coldN x s).2.1, .int (coldN x s).2.2.1, .int (coldN x s).2.2.2.1, .int (coldN x s).2.2.2.2.1, .int (coldN x s).2.2.2.2.2.1, .int (coldN x s).2.2.2.2.2.2.1, .int (coldN x s).2.2.2.2.2.2.2]), (tno, aI E 4 (coldN x s).1), (pa, aN E 8 (fun j => some (an j)))]) (fun g => some (.int s.2.2.2.1)) (fun g => FN E an tn 8 (va_up f p s) g)) := by
  refine CT.ofV (by decide +kernel) (Nat.le_of_ble_eq_true rfl) ?_
  refine V.locals2 (lv2 := [(0, .ref a), (1, .int x)]) rfl ?_
  refine V.iload_n dX10_cold_0 1 rfl ?_
  refine V.iconst (v := 0) dX10_cold_1 (by decide) ?_
  refine V.bipush (v := 50) dX10_cold_2 (by decide) ?_
  refine V.callSp (As := [.int x, .int 0, .int 50]) (rest := []) [] (c_within E l L _ x 0 50) rfl (by decide) mi_X10_isWithin w_267 w_268 rfl rfl (Nat.le_of_ble_eq_true rfl) ⟨by decide, by decide⟩ ⟨by decide, by decide⟩ dX10_cold_4 (vw2 := fun _ => [(a, ob 9 [.ref tx, .ref lo, .ref no, .ref to, .ref pa, .int (nI p), .int (nI u), .ref ke, .ref ik, .ref sc, .ref w, .ref bp, .ref ac, .ref br, .int bs, .int bm]), (no, ob 3 [.ref tno, .int s.2.1, .int s.2.2.1, .int s.2.2.2.1, .int s.2.2.2.2.1, .int s.2.2.2.2.2.1, .int s.2.2.2.2.2.2.1, .int s.2.2.2.2.2.2.2]), (tno, aI E 4 s.1), (pa, aN E 8 (fun j => some (an j)))]) (st2 := fun _ => [.int (withinI x 0 50)]) (fun _ => rfl) (fun _ => rfl) (fun _ => rfl) (fun _ _ => ?_)
  refine V.topc (v := 1) (hx) ?_
  refine V.if_ne (tgt := 13) dX10_cold_7 (by decide) (fun _ => ?_) (fun hc => absurd hc (by decide))
  refine V.aload_n dX10_cold_13 0 rfl ?_
  refine V.callVg (As := []) (rest := []) [0, 1, 2, 3] (c_RL_remember E l L _ a tx lo no to pa ke ik sc w bp ac br bs bm tno s an tn KV f p u (hp) (hu) (hD) (FN.over (vw := [(a, ob 9 [.ref tx, .ref lo, .ref no, .ref to, .ref pa, .int (nI p), .int (nI u), .ref ke, .ref ik, .ref sc, .ref w, .ref bp, .ref ac, .ref br, .int bs, .int bm]), (no, ob 3 [.ref tno, .int s.2.1, .int s.2.2.1, .int s.2.2.2.1, .int s.2.2.2.2.1, .int s.2.2.2.2.2.1, .int s.2.2.2.2.2.2.1, .int s.2.2.2.2.2.2.2]), (tno, aI E 4 s.1), (pa, aN E 8 (fun j => some (an j)))]) hF (fun b hb => hD.off (hK b hb))) (hbs) (fun b hb => hK b (List.mem_append_left [] hb))) rfl (by decide) mi_X10_remember 0 rfl rfl w_522 w_524 wp_0 rfl rfl (Nat.le_of_ble_eq_true rfl) ⟨by decide, by decide⟩ ⟨by decide, by decide⟩ dX10_cold_14 (vw2 := fun g => [(a, ob 9 [.ref tx, .ref lo, .ref no, .ref to, .ref pa, .int (nI ((p + 1) % 8)), .int (nI (min 8 (u + 1))), .ref ke, .ref ik, .ref sc, .ref w, .ref bp, .ref ac, .ref br, .int bs, .int bm]), (no, ob 3 [.ref tno, .int s.2.1, .int s.2.2.1, .int s.2.2.2.1, .int s.2.2.2.2.1, .int s.2.2.2.2.2.1, .int s.2.2.2.2.2.2.1, .int s.2.2.2.2.2.2.2]), (tno, aI E 4 s.1), (pa, aN E 8 (fun j => some (an j)))]) (st2 := fun g => []) (fun b hb => hD.off (hK b hb)) (fun _ => rfl) (fun _ => rfl) (fun _ => rfl) (fun g hq_14 => ?_)
  refine V.aload_n dX10_cold_17 0 rfl ?_
  refine V.getf 0 2 rfl fa_X10_26_9 rfl dX10_cold_18 ?_
  refine V.getf 1 3 rfl fa_X10_159_3 rfl dX10_cold_21 ?_
  refine V.istore_n (lv2 := [(2, .int s.2.2.2.1), (0, .ref a), (1, .int x)]) dX10_cold_24 rfl (by decide) rfl ?_
  refine V.aload_n dX10_cold_25 1 rfl ?_
  refine V.getf 0 2 rfl fa_X10_26_9 rfl dX10_cold_26 ?_
  refine V.iload_n dX10_cold_29 2 rfl ?_
  refine V.putf 1 3 (vw2 := [(a, ob 9 [.ref tx, .ref lo, .ref no, .ref to, .ref pa, .int (nI ((p + 1) % 8)), .int (nI (min 8 (u + 1))), .ref ke, .ref ik, .ref sc, .ref w, .ref bp, .ref ac, .ref br, .int bs, .int bm]), (no, ob 3 [.ref tno, .int s.2.1, .int s.2.2.1, .int x, .int s.2.2.2.2.1, .int s.2.2.2.2.2.1, .int s.2.2.2.2.2.2.1, .int s.2.2.2.2.2.2.2]), (tno, aI E 4 s.1), (pa, aN E 8 (fun j => some (an j)))]) rfl fp_X10_159_3 rfl rfl (Nat.le_of_ble_eq_true rfl) rfl dX10_cold_30 ?_
  refine V.iload_n dX10_cold_33 0 rfl ?_
  exact V.iret rfl dX10_cold_34 (⟨g, rfl, rfl, rfl, hq_14⟩)

set_option maxHeartbeats 4000000 in
set_option maxRecDepth 100000 in
theorem c_RL_undoN (E : vEnv) (l : Launch) (L : List Nat) (h : Nat → va_E) (a : Nat) (tx : Nat) (lo : Nat) (no : Nat) (to : Nat) (pa : Nat) (ke : Nat) (ik : Nat) (sc : Nat) (w : Nat) (bp : Nat) (ac : Nat) (br : Nat) (pe : Int32) (bs : Int32) (bm : Int32) : CT E l yX10_undo cX10_undo 1 (some (.int)) 0 0 0 L h [(a, ob 9 [.ref tx, .ref lo, .ref no, .ref to, .ref pa, .int pe, .int 0, .ref ke, .ref ik, .ref sc, .ref w, .ref bp, .ref ac, .ref br, .int bs, .int bm])] [.ref a] (qP L h (fun (_ : Unit) => [(a, ob 9 [.ref tx, .ref lo, .ref no, .ref to, .ref pa, .int pe, .int 0, .ref ke, .ref ik, .ref sc, .ref w, .ref bp, .ref ac, .ref br, .int bs, .int bm])]) (fun _ => some (.int (-4))) (fun _ => True)) := by
  refine CT.ofV (by decide +kernel) (Nat.le_of_ble_eq_true rfl) ?_
  refine V.locals2 (lv2 := [(0, .ref a)]) rfl ?_
  refine V.aload_n dX10_undo_0 0 rfl ?_
  refine V.getf 0 6 rfl fa_X10_121_9 rfl dX10_undo_1 ?_
  refine V.if_ne (tgt := 10) dX10_undo_4 (by decide) (fun hc => absurd (by decide) hc) (fun _ => ?_)
  refine V.bipush (v := (-4)) dX10_undo_7 (by decide) ?_
  exact V.iret rfl dX10_undo_9 (⟨(), rfl, rfl, rfl, trivial⟩)

set_option maxHeartbeats 4000000 in
set_option maxRecDepth 100000 in
theorem c_RL_undo (E : vEnv) (l : Launch) (L : List Nat) (h : Nat → va_E) (a : Nat) (tx : Nat) (lo : Nat) (no : Nat) (to : Nat) (pa : Nat) (ke : Nat) (ik : Nat) (sc : Nat) (w : Nat) (bp : Nat) (ac : Nat) (br : Nat) (bs : Int32) (bm : Int32) (tno : Nat) (s : NS) (an : Nat → Nat) (tn : Nat → Nat) (KV : Nat → Prop) (f : Nat → NS) (p : Nat) (u : Nat) (q : Nat) (hp : p < 8) (hpq : q = (p + 7) % 8) (hu : u < 8) (hD : FD L KV an tn 8) (hF : FN E an tn 8 f h) (hbs : (f q).2.2.2.2.2.2.2 = 0 ∨ (f q).2.2.2.2.2.2.2 = 1) (hK : ∀ b ∈ [a, no, tno, pa], KV b) : CT E l yX10_undo cX10_undo 1 (some (.int)) 3 0 0 L h [(a, ob 9 [.ref tx, .ref lo, .ref no, .ref to, .ref pa, .int (nI p), .int (nI (u + 1)), .ref ke, .ref ik, .ref sc, .ref w, .ref bp, .ref ac, .ref br, .int bs, .int bm]), (no, ob 3 [.ref tno, .int s.2.1, .int s.2.2.1, .int s.2.2.2.1, .int s.2.2.2.2.1, .int s.2.2.2.2.2.1, .int s.2.2.2.2.2.2.1, .int s.2.2.2.2.2.2.2]), (tno, aI E 4 s.1), (pa, aN E 8 (fun j => some (an j)))] [.ref a] (qP L h (fun (_ : Unit) => [(a, ob 9 [.ref tx, .ref lo, .ref no, .ref to, .ref pa, .int (nI q), .int (nI u), .ref ke, .ref ik, .ref sc, .ref w, .ref bp, .ref ac, .ref br, .int bs, .int bm]), (no, ob 3 [.ref tno, .int (f q).2.1, .int (f q).2.2.1, .int (f q).2.2.2.1, .int (f q).2.2.2.2.1, .int (f q).2.2.2.2.2.1, .int (f q).2.2.2.2.2.2.1, .int (f q).2.2.2.2.2.2.2]), (tno, aI E 4 (f q).1), (pa, aN E 8 (fun j => some (an j)))]) (fun _ => some (.int (nI u))) (fun _ => True)) := by
  refine CT.ofV (by decide +kernel) (Nat.le_of_ble_eq_true rfl) ?_
  refine V.locals2 (lv2 := [(0, .ref a)]) rfl ?_
  refine V.aload_n dX10_undo_0 0 rfl ?_
  refine V.getf 0 6 rfl fa_X10_121_9 rfl dX10_undo_1 ?_
  refine V.if_ne (tgt := 10) dX10_undo_4 (by decide) (fun _ => ?_) (fun hc => absurd hc (fun hh => absurd ((nI_eq (b := 0) (by omega) (by omega)).mp hh) (by omega)))
  refine V.aload_n dX10_undo_10 0 rfl ?_
  refine V.aload_n dX10_undo_11 0 rfl ?_
  refine V.getf 0 5 rfl fa_X10_192_9 rfl dX10_undo_12 ?_
  refine V.if_ne (tgt := 23) dX10_undo_15 (by decide) (fun c1_15 => ?_) (fun c1_15 => ?_)
  · skip
    have hp0 : p ≠ 0 := fun hh => c1_15 (by rw [hh]; rfl)
    refine V.aload_n dX10_undo_23 0 rfl ?_
    refine V.getf 0 5 rfl fa_X10_192_9 rfl dX10_undo_24 ?_
    refine V.iconst (v := 1) dX10_undo_27 (by decide) ?_
    refine V.isub dX10_undo_28 ?_
    refine V.topc (v := (nI q)) (by rw [show p = q + 1 by omega]; exact nI_pred q) ?_
    refine V.putf 0 5 (vw2 := [(a, ob 9 [.ref tx, .ref lo, .ref no, .ref to, .ref pa, .int (nI q), .int (nI (u + 1)), .ref ke, .ref ik, .ref sc, .ref w, .ref bp, .ref ac, .ref br, .int bs, .int bm]), (no, ob 3 [.ref tno, .int s.2.1, .int s.2.2.1, .int s.2.2.2.1, .int s.2.2.2.2.1, .int s.2.2.2.2.2.1, .int s.2.2.2.2.2.2.1, .int s.2.2.2.2.2.2.2]), (tno, aI E 4 s.1), (pa, aN E 8 (fun j => some (an j)))]) rfl fp_X10_192_9 rfl rfl (Nat.le_of_ble_eq_true rfl) rfl dX10_undo_29 ?_
    refine V.aload_n dX10_undo_32 0 rfl ?_
    refine V.getf 0 2 rfl fa_X10_26_9 rfl dX10_undo_33 ?_
    refine V.aload_n dX10_undo_36 0 rfl ?_
    refine V.getf 0 4 rfl fa_X10_37_9 rfl dX10_undo_37 ?_
    refine V.aload_n dX10_undo_40 0 rfl ?_
    refine V.getf 0 5 rfl fa_X10_192_9 rfl dX10_undo_41 ?_
    refine V.aldN 3 rfl (vinI (by omega)) dX10_undo_44 ?_
    refine V.stack (st2 := [.ref (an q), .ref no]) (by rw [nI_clamp (by omega)]; rfl) ?_
    have hq8 : q < 8 := by omega
    refine V.see ((tn q)) (e := aI E 4 (f q).1) ((hD.2.2.2 q hq8).2.1) (fun hm => hD.off (hK _ hm) (inF_t hq8)) ((hF q hq8).2) ?_
    refine V.see ((an q)) (e := ob 3 [.ref (tn q), .int (f q).2.1, .int (f q).2.2.1, .int (f q).2.2.2.1, .int (f q).2.2.2.2.1, .int (f q).2.2.2.2.2.1, .int (f q).2.2.2.2.2.2.1, .int (f q).2.2.2.2.2.2.2]) ((hD.2.2.2 q hq8).1) (nin_app (fun hm => hD.off (hK _ hm) (inF_a hq8)) (hD.2.2.1 q q hq8 hq8)) ((hF q hq8).1) ?_
    refine V.view (vw2 := [(a, ob 9 [.ref tx, .ref lo, .ref no, .ref to, .ref pa, .int (nI q), .int (nI (u + 1)), .ref ke, .ref ik, .ref sc, .ref w, .ref bp, .ref ac, .ref br, .int bs, .int bm]), (no, ob 3 [.ref tno, .int s.2.1, .int s.2.2.1, .int s.2.2.2.1, .int s.2.2.2.2.1, .int s.2.2.2.2.2.1, .int s.2.2.2.2.2.2.1, .int s.2.2.2.2.2.2.2]), (tno, aI E 4 s.1), (pa, aN E 8 (fun j => some (an j))), ((tn q), aI E 4 (f q).1), ((an q), ob 3 [.ref (tn q), .int (f q).2.1, .int (f q).2.2.1, .int (f q).2.2.2.1, .int (f q).2.2.2.2.1, .int (f q).2.2.2.2.2.1, .int (f q).2.2.2.2.2.2.1, .int (f q).2.2.2.2.2.2.2])]) (L2 := L) rfl rfl ?_
    refine V.callVp (As := [.ref (an q)]) (rest := []) [1, 2, 5, 4] (c_Nose_copy E l L _ no tno s ((an q)) ((tn q)) ((f q)) (hbs)) rfl (by decide) mi_X3_copy 1 rfl rfl w_526 w_527 w_528 rfl rfl (Nat.le_of_ble_eq_true rfl) ⟨by decide, by decide⟩ ⟨by decide, by decide⟩ dX10_undo_45 (vw2 := fun _ => [(a, ob 9 [.ref tx, .ref lo, .ref no, .ref to, .ref pa, .int (nI q), .int (nI (u + 1)), .ref ke, .ref ik, .ref sc, .ref w, .ref bp, .ref ac, .ref br, .int bs, .int bm]), (no, ob 3 [.ref tno, .int (f q).2.1, .int (f q).2.2.1, .int (f q).2.2.2.1, .int (f q).2.2.2.2.1, .int (f q).2.2.2.2.2.1, .int (f q).2.2.2.2.2.2.1, .int (f q).2.2.2.2.2.2.2]), (tno, aI E 4 (f q).1), (pa, aN E 8 (fun j => some (an j))), ((tn q), aI E 4 (f q).1), ((an q), ob 3 [.ref (tn q), .int (f q).2.1, .int (f q).2.2.1, .int (f q).2.2.2.1, .int (f q).2.2.2.2.1, .int (f q).2.2.2.2.2.1, .int (f q).2.2.2.2.2.2.1, .int (f q).2.2.2.2.2.2.2])]) (st2 := fun _ => []) (fun _ => rfl) (fun _ => rfl) (fun _ => rfl) (fun _ _ => ?_)
    refine V.unsee (vw := [(a, ob 9 [.ref tx, .ref lo, .ref no, .ref to, .ref pa, .int (nI q), .int (nI (u + 1)), .ref ke, .ref ik, .ref sc, .ref w, .ref bp, .ref ac, .ref br, .int bs, .int bm]), (no, ob 3 [.ref tno, .int (f q).2.1, .int (f q).2.2.1, .int (f q).2.2.2.1, .int (f q).2.2.2.2.1, .int (f q).2.2.2.2.2.1, .int (f q).2.2.2.2.2.2.1, .int (f q).2.2.2.2.2.2.2]), (tno, aI E 4 (f q).1), (pa, aN E 8 (fun j => some (an j))), ((tn q), aI E 4 (f q).1)]) (a := (an q)) (e := ob 3 [.ref (tn q), .int (f q).2.1, .int (f q).2.2.1, .int (f q).2.2.2.1, .int (f q).2.2.2.2.1, .int (f q).2.2.2.2.2.1, .int (f q).2.2.2.2.2.2.1, .int (f q).2.2.2.2.2.2.2]) ((hF q hq8).1) ?_
    refine V.unsee (vw := [(a, ob 9 [.ref tx, .ref lo, .ref no, .ref to, .ref pa, .int (nI q), .int (nI (u + 1)), .ref ke, .ref ik, .ref sc, .ref w, .ref bp, .ref ac, .ref br, .int bs, .int bm]), (no, ob 3 [.ref tno, .int (f q).2.1, .int (f q).2.2.1, .int (f q).2.2.2.1, .int (f q).2.2.2.2.1, .int (f q).2.2.2.2.2.1, .int (f q).2.2.2.2.2.2.1, .int (f q).2.2.2.2.2.2.2]), (tno, aI E 4 (f q).1), (pa, aN E 8 (fun j => some (an j)))]) (a := (tn q)) (e := aI E 4 (f q).1) ((hF q hq8).2) ?_
    refine V.aload_n dX10_undo_48 0 rfl ?_
    refine V.dup dX10_undo_49 rfl ?_
    refine V.getf 0 6 rfl fa_X10_121_9 rfl dX10_undo_50 ?_
    refine V.iconst (v := 1) dX10_undo_53 (by decide) ?_
    refine V.isub dX10_undo_54 ?_
    refine V.topc (v := (nI u)) (nI_pred u) ?_
    refine V.putf 0 6 (vw2 := [(a, ob 9 [.ref tx, .ref lo, .ref no, .ref to, .ref pa, .int (nI q), .int (nI u), .ref ke, .ref ik, .ref sc, .ref w, .ref bp, .ref ac, .ref br, .int bs, .int bm]), (no, ob 3 [.ref tno, .int (f q).2.1, .int (f q).2.2.1, .int (f q).2.2.2.1, .int (f q).2.2.2.2.1, .int (f q).2.2.2.2.2.1, .int (f q).2.2.2.2.2.2.1, .int (f q).2.2.2.2.2.2.2]), (tno, aI E 4 (f q).1), (pa, aN E 8 (fun j => some (an j)))]) rfl fp_X10_121_9 rfl rfl (Nat.le_of_ble_eq_true rfl) rfl dX10_undo_55 ?_
    refine V.aload_n dX10_undo_58 0 rfl ?_
    refine V.getf 0 6 rfl fa_X10_121_9 rfl dX10_undo_59 ?_
    exact V.iret rfl dX10_undo_62 (⟨(), rfl, rfl, rfl, trivial⟩)
  · skip
    have hp0 : p = 0 := (nI_eq (b := 0) (by omega) (by omega)).mp c1_15
    refine V.bipush (v := 7) dX10_undo_18 (by decide) ?_
    refine V.goto (tgt := 29) dX10_undo_20 (by decide) ?_
    refine V.topc (v := (nI q)) (by rw [show q = 7 by omega]; rfl) ?_
    refine V.putf 0 5 (vw2 := [(a, ob 9 [.ref tx, .ref lo, .ref no, .ref to, .ref pa, .int (nI q), .int (nI (u + 1)), .ref ke, .ref ik, .ref sc, .ref w, .ref bp, .ref ac, .ref br, .int bs, .int bm]), (no, ob 3 [.ref tno, .int s.2.1, .int s.2.2.1, .int s.2.2.2.1, .int s.2.2.2.2.1, .int s.2.2.2.2.2.1, .int s.2.2.2.2.2.2.1, .int s.2.2.2.2.2.2.2]), (tno, aI E 4 s.1), (pa, aN E 8 (fun j => some (an j)))]) rfl fp_X10_192_9 rfl rfl (Nat.le_of_ble_eq_true rfl) rfl dX10_undo_29 ?_
    refine V.aload_n dX10_undo_32 0 rfl ?_
    refine V.getf 0 2 rfl fa_X10_26_9 rfl dX10_undo_33 ?_
    refine V.aload_n dX10_undo_36 0 rfl ?_
    refine V.getf 0 4 rfl fa_X10_37_9 rfl dX10_undo_37 ?_
    refine V.aload_n dX10_undo_40 0 rfl ?_
    refine V.getf 0 5 rfl fa_X10_192_9 rfl dX10_undo_41 ?_
    refine V.aldN 3 rfl (vinI (by omega)) dX10_undo_44 ?_
    refine V.stack (st2 := [.ref (an q), .ref no]) (by rw [nI_clamp (by omega)]; rfl) ?_
    have hq8 : q < 8 := by omega
    refine V.see ((tn q)) (e := aI E 4 (f q).1) ((hD.2.2.2 q hq8).2.1) (fun hm => hD.off (hK _ hm) (inF_t hq8)) ((hF q hq8).2) ?_
    refine V.see ((an q)) (e := ob 3 [.ref (tn q), .int (f q).2.1, .int (f q).2.2.1, .int (f q).2.2.2.1, .int (f q).2.2.2.2.1, .int (f q).2.2.2.2.2.1, .int (f q).2.2.2.2.2.2.1, .int (f q).2.2.2.2.2.2.2]) ((hD.2.2.2 q hq8).1) (nin_app (fun hm => hD.off (hK _ hm) (inF_a hq8)) (hD.2.2.1 q q hq8 hq8)) ((hF q hq8).1) ?_
    refine V.view (vw2 := [(a, ob 9 [.ref tx, .ref lo, .ref no, .ref to, .ref pa, .int (nI q), .int (nI (u + 1)), .ref ke, .ref ik, .ref sc, .ref w, .ref bp, .ref ac, .ref br, .int bs, .int bm]), (no, ob 3 [.ref tno, .int s.2.1, .int s.2.2.1, .int s.2.2.2.1, .int s.2.2.2.2.1, .int s.2.2.2.2.2.1, .int s.2.2.2.2.2.2.1, .int s.2.2.2.2.2.2.2]), (tno, aI E 4 s.1), (pa, aN E 8 (fun j => some (an j))), ((tn q), aI E 4 (f q).1), ((an q), ob 3 [.ref (tn q), .int (f q).2.1, .int (f q).2.2.1, .int (f q).2.2.2.1, .int (f q).2.2.2.2.1, .int (f q).2.2.2.2.2.1, .int (f q).2.2.2.2.2.2.1, .int (f q).2.2.2.2.2.2.2])]) (L2 := L) rfl rfl ?_
    refine V.callVp (As := [.ref (an q)]) (rest := []) [1, 2, 5, 4] (c_Nose_copy E l L _ no tno s ((an q)) ((tn q)) ((f q)) (hbs)) rfl (by decide) mi_X3_copy 1 rfl rfl w_526 w_527 w_528 rfl rfl (Nat.le_of_ble_eq_true rfl) ⟨by decide, by decide⟩ ⟨by decide, by decide⟩ dX10_undo_45 (vw2 := fun _ => [(a, ob 9 [.ref tx, .ref lo, .ref no, .ref to, .ref pa, .int (nI q), .int (nI (u + 1)), .ref ke, .ref ik, .ref sc, .ref w, .ref bp, .ref ac, .ref br, .int bs, .int bm]), (no, ob 3 [.ref tno, .int (f q).2.1, .int (f q).2.2.1, .int (f q).2.2.2.1, .int (f q).2.2.2.2.1, .int (f q).2.2.2.2.2.1, .int (f q).2.2.2.2.2.2.1, .int (f q).2.2.2.2.2.2.2]), (tno, aI E 4 (f q).1), (pa, aN E 8 (fun j => some (an j))), ((tn q), aI E 4 (f q).1), ((an q), ob 3 [.ref (tn q), .int (f q).2.1, .int (f q).2.2.1, .int (f q).2.2.2.1, .int (f q).2.2.2.2.1, .int (f q).2.2.2.2.2.1, .int (f q).2.2.2.2.2.2.1, .int (f q).2.2.2.2.2.2.2])]) (st2 := fun _ => []) (fun _ => rfl) (fun _ => rfl) (fun _ => rfl) (fun _ _ => ?_)
    refine V.unsee (vw := [(a, ob 9 [.ref tx, .ref lo, .ref no, .ref to, .ref pa, .int (nI q), .int (nI (u + 1)), .ref ke, .ref ik, .ref sc, .ref w, .ref bp, .ref ac, .ref br, .int bs, .int bm]), (no, ob 3 [.ref tno, .int (f q).2.1, .int (f q).2.2.1, .int (f q).2.2.2.1, .int (f q).2.2.2.2.1, .int (f q).2.2.2.2.2.1, .int (f q).2.2.2.2.2.2.1, .int (f q).2.2.2.2.2.2.2]), (tno, aI E 4 (f q).1), (pa, aN E 8 (fun j => some (an j))), ((tn q), aI E 4 (f q).1)]) (a := (an q)) (e := ob 3 [.ref (tn q), .int (f q).2.1, .int (f q).2.2.1, .int (f q).2.2.2.1, .int (f q).2.2.2.2.1, .int (f q).2.2.2.2.2.1, .int (f q).2.2.2.2.2.2.1, .int (f q).2.2.2.2.2.2.2]) ((hF q hq8).1) ?_
    refine V.unsee (vw := [(a, ob 9 [.ref tx, .ref lo, .ref no, .ref to, .ref pa, .int (nI q), .int (nI (u + 1)), .ref ke, .ref ik, .ref sc, .ref w, .ref bp, .ref ac, .ref br, .int bs, .int bm]), (no, ob 3 [.ref tno, .int (f q).2.1, .int (f q).2.2.1, .int (f q).2.2.2.1, .int (f q).2.2.2.2.1, .int (f q).2.2.2.2.2.1, .int (f q).2.2.2.2.2.2.1, .int (f q).2.2.2.2.2.2.2]), (tno, aI E 4 (f q).1), (pa, aN E 8 (fun j => some (an j)))]) (a := (tn q)) (e := aI E 4 (f q).1) ((hF q hq8).2) ?_
    refine V.aload_n dX10_undo_48 0 rfl ?_
    refine V.dup dX10_undo_49 rfl ?_
    refine V.getf 0 6 rfl fa_X10_121_9 rfl dX10_undo_50 ?_
    refine V.iconst (v := 1) dX10_undo_53 (by decide) ?_
    refine V.isub dX10_undo_54 ?_
    refine V.topc (v := (nI u)) (nI_pred u) ?_
    refine V.putf 0 6 (vw2 := [(a, ob 9 [.ref tx, .ref lo, .ref no, .ref to, .ref pa, .int (nI q), .int (nI u), .ref ke, .ref ik, .ref sc, .ref w, .ref bp, .ref ac, .ref br, .int bs, .int bm]), (no, ob 3 [.ref tno, .int (f q).2.1, .int (f q).2.2.1, .int (f q).2.2.2.1, .int (f q).2.2.2.2.1, .int (f q).2.2.2.2.2.1, .int (f q).2.2.2.2.2.2.1, .int (f q).2.2.2.2.2.2.2]), (tno, aI E 4 (f q).1), (pa, aN E 8 (fun j => some (an j)))]) rfl fp_X10_121_9 rfl rfl (Nat.le_of_ble_eq_true rfl) rfl dX10_undo_55 ?_
    refine V.aload_n dX10_undo_58 0 rfl ?_
    refine V.getf 0 6 rfl fa_X10_121_9 rfl dX10_undo_59 ?_
    exact V.iret rfl dX10_undo_62 (⟨(), rfl, rfl, rfl, trivial⟩)

set_option maxHeartbeats 4000000 in
set_option maxRecDepth 100000 in
theorem c_RL_keepU (E : vEnv) (l : Launch) (L : List Nat) (h : Nat → va_E) (a : Nat) (tx : Nat) (lo : Nat) (no : Nat) (to : Nat) (pa : Nat) (ke : Nat) (ik : Nat) (sc : Nat) (w : Nat) (bp : Nat) (ac : Nat) (br : Nat) (pe : Int32) (un : Int32) (bs : Int32) (bm : Int32) (x : Int32) (hx : withinI x 0 1 = 0) : CT E l yX10_keep cX10_keep 2 (some (.int)) 1 0 0 L h [(a, ob 9 [.ref tx, .ref lo, .ref no, .ref to, .ref pa, .int pe, .int un, .ref ke, .ref ik, .ref sc, .ref w, .ref bp, .ref ac, .ref br, .int bs, .int bm])] [.ref a, .int x] (qP L h (fun (_ : Unit) => [(a, ob 9 [.ref tx, .ref lo, .ref no, .ref to, .ref pa, .int pe, .int un, .ref ke, .ref ik, .ref sc, .ref w, .ref bp, .ref ac, .ref br, .int bs, .int bm])]) (fun _ => some (.int (-2))) (fun _ => True)) := by
  refine CT.ofV (by decide +kernel) (Nat.le_of_ble_eq_true rfl) ?_
  refine V.locals2 (lv2 := [(0, .ref a), (1, .int x)]) rfl ?_
  refine V.iload_n dX10_keep_0 1 rfl ?_
  refine V.iconst (v := 0) dX10_keep_1 (by decide) ?_
  refine V.iconst (v := 1) dX10_keep_2 (by decide) ?_
  refine V.callSp (As := [.int x, .int 0, .int 1]) (rest := []) [] (c_within E l L _ x 0 1) rfl (by decide) mi_X10_isWithin w_267 w_268 rfl rfl (Nat.le_of_ble_eq_true rfl) ⟨by decide, by decide⟩ ⟨by decide, by decide⟩ dX10_keep_3 (vw2 := fun _ => [(a, ob 9 [.ref tx, .ref lo, .ref no, .ref to, .ref pa, .int pe, .int un, .ref ke, .ref ik, .ref sc, .ref w, .ref bp, .ref ac, .ref br, .int bs, .int bm])]) (st2 := fun _ => [.int (withinI x 0 1)]) (fun _ => rfl) (fun _ => rfl) (fun _ => rfl) (fun _ _ => ?_)
  refine V.topc (v := 0) (hx) ?_
  refine V.if_ne (tgt := 12) dX10_keep_6 (by decide) (fun hc => absurd (by decide) hc) (fun _ => ?_)
  refine V.bipush (v := (-2)) dX10_keep_9 (by decide) ?_
  exact V.iret rfl dX10_keep_11 (⟨(), rfl, rfl, rfl, trivial⟩)

set_option maxHeartbeats 4000000 in
set_option maxRecDepth 100000 in
theorem c_RL_backU (E : vEnv) (l : Launch) (L : List Nat) (h : Nat → va_E) (a : Nat) (tx : Nat) (lo : Nat) (no : Nat) (to : Nat) (pa : Nat) (ke : Nat) (ik : Nat) (sc : Nat) (w : Nat) (bp : Nat) (ac : Nat) (br : Nat) (pe : Int32) (un : Int32) (bs : Int32) (bm : Int32) (x : Int32) (hx : withinI x 0 1 = 0) : CT E l yX10_back cX10_back 2 (some (.int)) 1 0 0 L h [(a, ob 9 [.ref tx, .ref lo, .ref no, .ref to, .ref pa, .int pe, .int un, .ref ke, .ref ik, .ref sc, .ref w, .ref bp, .ref ac, .ref br, .int bs, .int bm])] [.ref a, .int x] (qP L h (fun (_ : Unit) => [(a, ob 9 [.ref tx, .ref lo, .ref no, .ref to, .ref pa, .int pe, .int un, .ref ke, .ref ik, .ref sc, .ref w, .ref bp, .ref ac, .ref br, .int bs, .int bm])]) (fun _ => some (.int (-2))) (fun _ => True)) := by
  refine CT.ofV (by decide +kernel) (Nat.le_of_ble_eq_true rfl) ?_
  refine V.locals2 (lv2 := [(0, .ref a), (1, .int x)]) rfl ?_
  refine V.iload_n dX10_back_0 1 rfl ?_
  refine V.iconst (v := 0) dX10_back_1 (by decide) ?_
  refine V.iconst (v := 1) dX10_back_2 (by decide) ?_
  refine V.callSp (As := [.int x, .int 0, .int 1]) (rest := []) [] (c_within E l L _ x 0 1) rfl (by decide) mi_X10_isWithin w_267 w_268 rfl rfl (Nat.le_of_ble_eq_true rfl) ⟨by decide, by decide⟩ ⟨by decide, by decide⟩ dX10_back_3 (vw2 := fun _ => [(a, ob 9 [.ref tx, .ref lo, .ref no, .ref to, .ref pa, .int pe, .int un, .ref ke, .ref ik, .ref sc, .ref w, .ref bp, .ref ac, .ref br, .int bs, .int bm])]) (st2 := fun _ => [.int (withinI x 0 1)]) (fun _ => rfl) (fun _ => rfl) (fun _ => rfl) (fun _ _ => ?_)
  refine V.topc (v := 0) (hx) ?_
  refine V.if_ne (tgt := 12) dX10_back_6 (by decide) (fun hc => absurd (by decide) hc) (fun _ => ?_)
  refine V.bipush (v := (-2)) dX10_back_9 (by decide) ?_
  exact V.iret rfl dX10_back_11 (⟨(), rfl, rfl, rfl, trivial⟩)

set_option maxHeartbeats 4000000 in
set_option maxRecDepth 100000 in
theorem c_RL_keep (E : vEnv) (l : Launch) (L : List Nat) (h : Nat → va_E) (a : Nat) (tx : Nat) (lo : Nat) (no : Nat) (to : Nat) (pa : Nat) (ke : Nat) (ik : Nat) (sc : Nat) (w : Nat) (bp : Nat) (ac : Nat) (br : Nat) (pe : Int32) (un : Int32) (bs : Int32) (bm : Int32) (tno : Nat) (s : NS) (kn : Nat → Nat) (kt : Nat → Nat) (KV : Nat → Prop) (fk : Nat → NS) (zf : Nat → Int32) (k : Nat) (hk : k < 2) (hD : FD L KV kn kt 2) (hF : FN E kn kt 2 fk h) (hK : ∀ b ∈ [a, no, tno, ke, ik], KV b) (hbs : s.2.2.2.2.2.2.2 = 0 ∨ s.2.2.2.2.2.2.2 = 1) : CT E l yX10_keep cX10_keep 2 (some (.int)) 3 0 0 L h [(a, ob 9 [.ref tx, .ref lo, .ref no, .ref to, .ref pa, .int pe, .int un, .ref ke, .ref ik, .ref sc, .ref w, .ref bp, .ref ac, .ref br, .int bs, .int bm]), (no, ob 3 [.ref tno, .int s.2.1, .int s.2.2.1, .int s.2.2.2.1, .int s.2.2.2.2.1, .int s.2.2.2.2.2.1, .int s.2.2.2.2.2.2.1, .int s.2.2.2.2.2.2.2]), (tno, aI E 4 s.1), (ke, aN E 2 (fun j => some (kn j))), (ik, aZ E 2 zf)] [.ref a, .int (nI k)] (qG L h (inF kn kt 2) (fun (g : Nat → va_E) => g) (fun (g : Nat → va_E) => [(a, ob 9 [.ref tx, .ref lo, .ref no, .ref to, .ref pa, .int pe, .int un, .ref ke, .ref ik, .ref sc, .ref w, .ref bp, .ref ac, .ref br, .int bs, .int bm]), (no, ob 3 [.ref tno, .int s.2.1, .int s.2.2.1, .int s.2.2.2.1, .int s.2.2.2.2.1, .int s.2.2.2.2.2.1, .int s.2.2.2.2.2.2.1, .int s.2.2.2.2.2.2.2]), (tno, aI E 4 s.1), (ke, aN E 2 (fun j => some (kn j))), (ik, aZ E 2 (upd zf k 1))]) (fun g => some (.int s.2.2.1)) (fun g => FN E kn kt 2 (va_up fk k s) g)) := by
  refine CT.ofV (by decide +kernel) (Nat.le_of_ble_eq_true rfl) ?_
  refine V.locals2 (lv2 := [(0, .ref a), (1, .int (nI k))]) rfl ?_
  refine V.iload_n dX10_keep_0 1 rfl ?_
  refine V.iconst (v := 0) dX10_keep_1 (by decide) ?_
  refine V.iconst (v := 1) dX10_keep_2 (by decide) ?_
  refine V.callSp (As := [.int (nI k), .int 0, .int 1]) (rest := []) [] (c_within E l L _ ((nI k)) 0 1) rfl (by decide) mi_X10_isWithin w_267 w_268 rfl rfl (Nat.le_of_ble_eq_true rfl) ⟨by decide, by decide⟩ ⟨by decide, by decide⟩ dX10_keep_3 (vw2 := fun _ => [(a, ob 9 [.ref tx, .ref lo, .ref no, .ref to, .ref pa, .int pe, .int un, .ref ke, .ref ik, .ref sc, .ref w, .ref bp, .ref ac, .ref br, .int bs, .int bm]), (no, ob 3 [.ref tno, .int s.2.1, .int s.2.2.1, .int s.2.2.2.1, .int s.2.2.2.2.1, .int s.2.2.2.2.2.1, .int s.2.2.2.2.2.2.1, .int s.2.2.2.2.2.2.2]), (tno, aI E 4 s.1), (ke, aN E 2 (fun j => some (kn j))), (ik, aZ E 2 zf)]) (st2 := fun _ => [.int (withinI (nI k) 0 1)]) (fun _ => rfl) (fun _ => rfl) (fun _ => rfl) (fun _ _ => ?_)
  refine V.topc (v := 1) (within_nI (m := 2) hk (by omega)) ?_
  refine V.if_ne (tgt := 12) dX10_keep_6 (by decide) (fun _ => ?_) (fun hc => absurd hc (by decide))
  refine V.aload_n dX10_keep_12 0 rfl ?_
  refine V.getf 0 7 rfl fa_X10_41_9 rfl dX10_keep_13 ?_
  refine V.iload_n dX10_keep_16 1 rfl ?_
  refine V.aldN 3 rfl (vinI (by omega)) dX10_keep_17 ?_
  refine V.stack (st2 := [.ref (kn k)]) (by rw [nI_clamp (by omega)]; rfl) ?_
  refine V.mixIn (inF kn kt 2) ?_
  refine V.seeF ((kt k)) (e := aI E 4 (fk k).1) ((hD.2.2.2 k hk).2.1) (fun hm => hD.off (hK _ hm) (inF_t hk)) (inF_t hk) ((hF k hk).2) ?_
  refine V.seeF ((kn k)) (e := ob 3 [.ref (kt k), .int (fk k).2.1, .int (fk k).2.2.1, .int (fk k).2.2.2.1, .int (fk k).2.2.2.2.1, .int (fk k).2.2.2.2.2.1, .int (fk k).2.2.2.2.2.2.1, .int (fk k).2.2.2.2.2.2.2]) ((hD.2.2.2 k hk).1) (nin_app (fun hm => hD.off (hK _ hm) (inF_a hk)) (hD.2.2.1 k k hk hk)) (inF_a hk) ((hF k hk).1) ?_
  refine V.view (vw2 := [(a, ob 9 [.ref tx, .ref lo, .ref no, .ref to, .ref pa, .int pe, .int un, .ref ke, .ref ik, .ref sc, .ref w, .ref bp, .ref ac, .ref br, .int bs, .int bm]), (no, ob 3 [.ref tno, .int s.2.1, .int s.2.2.1, .int s.2.2.2.1, .int s.2.2.2.2.1, .int s.2.2.2.2.2.1, .int s.2.2.2.2.2.2.1, .int s.2.2.2.2.2.2.2]), (tno, aI E 4 s.1), (ke, aN E 2 (fun j => some (kn j))), (ik, aZ E 2 zf), ((kt k), aI E 4 (fk k).1), ((kn k), ob 3 [.ref (kt k), .int (fk k).2.1, .int (fk k).2.2.1, .int (fk k).2.2.2.1, .int (fk k).2.2.2.2.1, .int (fk k).2.2.2.2.2.1, .int (fk k).2.2.2.2.2.2.1, .int (fk k).2.2.2.2.2.2.2])]) (L2 := L) rfl rfl ?_
  refine V.aload_n dX10_keep_18 0 rfl ?_
  refine V.getf 0 2 rfl fa_X10_26_9 rfl dX10_keep_19 ?_
  refine V.callVp (As := [.ref no]) (rest := []) [6, 5, 1, 2] (c_Nose_copy E l L _ ((kn k)) ((kt k)) ((fk k)) no tno s (hbs)) rfl (by decide) mi_X3_copy 6 rfl rfl w_526 w_527 w_528 rfl rfl (Nat.le_of_ble_eq_true rfl) ⟨by decide, by decide⟩ ⟨by decide, by decide⟩ dX10_keep_22 (vw2 := fun _ => [(a, ob 9 [.ref tx, .ref lo, .ref no, .ref to, .ref pa, .int pe, .int un, .ref ke, .ref ik, .ref sc, .ref w, .ref bp, .ref ac, .ref br, .int bs, .int bm]), (no, ob 3 [.ref tno, .int s.2.1, .int s.2.2.1, .int s.2.2.2.1, .int s.2.2.2.2.1, .int s.2.2.2.2.2.1, .int s.2.2.2.2.2.2.1, .int s.2.2.2.2.2.2.2]), (tno, aI E 4 s.1), (ke, aN E 2 (fun j => some (kn j))), (ik, aZ E 2 zf), ((kt k), aI E 4 s.1), ((kn k), ob 3 [.ref (kt k), .int s.2.1, .int s.2.2.1, .int s.2.2.2.1, .int s.2.2.2.2.1, .int s.2.2.2.2.2.1, .int s.2.2.2.2.2.2.1, .int s.2.2.2.2.2.2.2])]) (st2 := fun _ => []) (fun _ => rfl) (fun _ => rfl) (fun _ => rfl) (fun _ _ => ?_)
  refine V.sinkF (vw := [(a, ob 9 [.ref tx, .ref lo, .ref no, .ref to, .ref pa, .int pe, .int un, .ref ke, .ref ik, .ref sc, .ref w, .ref bp, .ref ac, .ref br, .int bs, .int bm]), (no, ob 3 [.ref tno, .int s.2.1, .int s.2.2.1, .int s.2.2.2.1, .int s.2.2.2.2.1, .int s.2.2.2.2.2.1, .int s.2.2.2.2.2.2.1, .int s.2.2.2.2.2.2.2]), (tno, aI E 4 s.1), (ke, aN E 2 (fun j => some (kn j))), (ik, aZ E 2 zf), ((kt k), aI E 4 s.1)]) (a := (kn k)) (e := ob 3 [.ref (kt k), .int s.2.1, .int s.2.2.1, .int s.2.2.2.1, .int s.2.2.2.2.1, .int s.2.2.2.2.2.1, .int s.2.2.2.2.2.2.1, .int s.2.2.2.2.2.2.2]) (inF_a hk) ?_
  refine V.sinkF (vw := [(a, ob 9 [.ref tx, .ref lo, .ref no, .ref to, .ref pa, .int pe, .int un, .ref ke, .ref ik, .ref sc, .ref w, .ref bp, .ref ac, .ref br, .int bs, .int bm]), (no, ob 3 [.ref tno, .int s.2.1, .int s.2.2.1, .int s.2.2.2.1, .int s.2.2.2.2.1, .int s.2.2.2.2.2.1, .int s.2.2.2.2.2.2.1, .int s.2.2.2.2.2.2.2]), (tno, aI E 4 s.1), (ke, aN E 2 (fun j => some (kn j))), (ik, aZ E 2 zf)]) (a := (kt k)) (e := aI E 4 s.1) (inF_t hk) ?_
  refine V.aload_n dX10_keep_25 0 rfl ?_
  refine V.getf 0 8 rfl fa_X10_44_9 rfl dX10_keep_26 ?_
  refine V.iload_n dX10_keep_29 1 rfl ?_
  refine V.iconst (v := 1) dX10_keep_30 (by decide) ?_
  refine V.zast (vw2 := [(a, ob 9 [.ref tx, .ref lo, .ref no, .ref to, .ref pa, .int pe, .int un, .ref ke, .ref ik, .ref sc, .ref w, .ref bp, .ref ac, .ref br, .int bs, .int bm]), (no, ob 3 [.ref tno, .int s.2.1, .int s.2.2.1, .int s.2.2.2.1, .int s.2.2.2.2.1, .int s.2.2.2.2.2.1, .int s.2.2.2.2.2.2.1, .int s.2.2.2.2.2.2.2]), (tno, aI E 4 s.1), (ke, aN E 2 (fun j => some (kn j))), (ik, aZ E 2 (upd zf k 1))]) 4 rfl (vinI (by omega)) (by rw [nI_clamp (by omega)] <;> rfl) dX10_keep_31 ?_
  refine V.aload_n dX10_keep_32 0 rfl ?_
  refine V.getf 0 2 rfl fa_X10_26_9 rfl dX10_keep_33 ?_
  refine V.getf 1 2 rfl fa_X10_176_3 rfl dX10_keep_36 ?_
  exact V.iret rfl dX10_keep_39 (⟨(va_up (va_up h ((kn k)) (ob 3 [.ref (kt k), .int s.2.1, .int s.2.2.1, .int s.2.2.2.1, .int s.2.2.2.2.1, .int s.2.2.2.2.2.1, .int s.2.2.2.2.2.2.1, .int s.2.2.2.2.2.2.2])) ((kt k)) (aI E 4 s.1)), rfl, rfl, rfl, hF.set hD (j := k) hk s⟩)

set_option maxHeartbeats 4000000 in
set_option maxRecDepth 100000 in
theorem c_RL_backN (E : vEnv) (l : Launch) (L : List Nat) (h : Nat → va_E) (a : Nat) (tx : Nat) (lo : Nat) (no : Nat) (to : Nat) (pa : Nat) (ke : Nat) (ik : Nat) (sc : Nat) (w : Nat) (bp : Nat) (ac : Nat) (br : Nat) (pe : Int32) (un : Int32) (bs : Int32) (bm : Int32) (zf : Nat → Int32) (k : Nat) (hk : k < 2) (hz : zf k = 0) : CT E l yX10_back cX10_back 2 (some (.int)) 1 0 0 L h [(a, ob 9 [.ref tx, .ref lo, .ref no, .ref to, .ref pa, .int pe, .int un, .ref ke, .ref ik, .ref sc, .ref w, .ref bp, .ref ac, .ref br, .int bs, .int bm]), (ik, aZ E 2 zf)] [.ref a, .int (nI k)] (qP L h (fun (_ : Unit) => [(a, ob 9 [.ref tx, .ref lo, .ref no, .ref to, .ref pa, .int pe, .int un, .ref ke, .ref ik, .ref sc, .ref w, .ref bp, .ref ac, .ref br, .int bs, .int bm]), (ik, aZ E 2 zf)]) (fun _ => some (.int (-4))) (fun _ => True)) := by
  refine CT.ofV (by decide +kernel) (Nat.le_of_ble_eq_true rfl) ?_
  refine V.locals2 (lv2 := [(0, .ref a), (1, .int (nI k))]) rfl ?_
  refine V.iload_n dX10_back_0 1 rfl ?_
  refine V.iconst (v := 0) dX10_back_1 (by decide) ?_
  refine V.iconst (v := 1) dX10_back_2 (by decide) ?_
  refine V.callSp (As := [.int (nI k), .int 0, .int 1]) (rest := []) [] (c_within E l L _ ((nI k)) 0 1) rfl (by decide) mi_X10_isWithin w_267 w_268 rfl rfl (Nat.le_of_ble_eq_true rfl) ⟨by decide, by decide⟩ ⟨by decide, by decide⟩ dX10_back_3 (vw2 := fun _ => [(a, ob 9 [.ref tx, .ref lo, .ref no, .ref to, .ref pa, .int pe, .int un, .ref ke, .ref ik, .ref sc, .ref w, .ref bp, .ref ac, .ref br, .int bs, .int bm]), (ik, aZ E 2 zf)]) (st2 := fun _ => [.int (withinI (nI k) 0 1)]) (fun _ => rfl) (fun _ => rfl) (fun _ => rfl) (fun _ _ => ?_)
  refine V.topc (v := 1) (within_nI (m := 2) hk (by omega)) ?_
  refine V.if_ne (tgt := 12) dX10_back_6 (by decide) (fun _ => ?_) (fun hc => absurd hc (by decide))
  refine V.aload_n dX10_back_12 0 rfl ?_
  refine V.getf 0 8 rfl fa_X10_44_9 rfl dX10_back_13 ?_
  refine V.iload_n dX10_back_16 1 rfl ?_
  refine V.zald 1 rfl (vinI (by omega)) dX10_back_17 ?_
  refine V.topc (v := (zf k)) (by rw [nI_clamp (by omega)]) ?_
  refine V.if_ne (tgt := 24) dX10_back_18 (by decide) (fun hc => absurd (hz) hc) (fun _ => ?_)
  refine V.bipush (v := (-4)) dX10_back_21 (by decide) ?_
  exact V.iret rfl dX10_back_23 (⟨(), rfl, rfl, rfl, trivial⟩)

set_option maxHeartbeats 4000000 in
set_option maxRecDepth 100000 in
theorem c_RL_back (E : vEnv) (l : Launch) (L : List Nat) (h : Nat → va_E) (a : Nat) (tx : Nat) (lo : Nat) (no : Nat) (to : Nat) (pa : Nat) (ke : Nat) (ik : Nat) (sc : Nat) (w : Nat) (bp : Nat) (ac : Nat) (br : Nat) (pe : Int32) (un : Int32) (bs : Int32) (bm : Int32) (tno : Nat) (s : NS) (kn : Nat → Nat) (kt : Nat → Nat) (KV : Nat → Prop) (fk : Nat → NS) (zf : Nat → Int32) (k : Nat) (hk : k < 2) (hD : FD L KV kn kt 2) (hF : FN E kn kt 2 fk h) (hK : ∀ b ∈ [a, no, tno, ke, ik], KV b) (hz : zf k ≠ 0) (hbs : (fk k).2.2.2.2.2.2.2 = 0 ∨ (fk k).2.2.2.2.2.2.2 = 1) : CT E l yX10_back cX10_back 2 (some (.int)) 3 0 0 L h [(a, ob 9 [.ref tx, .ref lo, .ref no, .ref to, .ref pa, .int pe, .int un, .ref ke, .ref ik, .ref sc, .ref w, .ref bp, .ref ac, .ref br, .int bs, .int bm]), (no, ob 3 [.ref tno, .int s.2.1, .int s.2.2.1, .int s.2.2.2.1, .int s.2.2.2.2.1, .int s.2.2.2.2.2.1, .int s.2.2.2.2.2.2.1, .int s.2.2.2.2.2.2.2]), (tno, aI E 4 s.1), (ke, aN E 2 (fun j => some (kn j))), (ik, aZ E 2 zf)] [.ref a, .int (nI k)] (qP L h (fun (_ : Unit) => [(a, ob 9 [.ref tx, .ref lo, .ref no, .ref to, .ref pa, .int pe, .int 0, .ref ke, .ref ik, .ref sc, .ref w, .ref bp, .ref ac, .ref br, .int bs, .int bm]), (no, ob 3 [.ref tno, .int (fk k).2.1, .int (fk k).2.2.1, .int (fk k).2.2.2.1, .int (fk k).2.2.2.2.1, .int (fk k).2.2.2.2.2.1, .int (fk k).2.2.2.2.2.2.1, .int (fk k).2.2.2.2.2.2.2]), (tno, aI E 4 (fk k).1), (ke, aN E 2 (fun j => some (kn j))), (ik, aZ E 2 zf)]) (fun _ => some (.int (fk k).2.2.1)) (fun _ => True)) := by
  refine CT.ofV (by decide +kernel) (Nat.le_of_ble_eq_true rfl) ?_
  refine V.locals2 (lv2 := [(0, .ref a), (1, .int (nI k))]) rfl ?_
  refine V.iload_n dX10_back_0 1 rfl ?_
  refine V.iconst (v := 0) dX10_back_1 (by decide) ?_
  refine V.iconst (v := 1) dX10_back_2 (by decide) ?_
  refine V.callSp (As := [.int (nI k), .int 0, .int 1]) (rest := []) [] (c_within E l L _ ((nI k)) 0 1) rfl (by decide) mi_X10_isWithin w_267 w_268 rfl rfl (Nat.le_of_ble_eq_true rfl) ⟨by decide, by decide⟩ ⟨by decide, by decide⟩ dX10_back_3 (vw2 := fun _ => [(a, ob 9 [.ref tx, .ref lo, .ref no, .ref to, .ref pa, .int pe, .int un, .ref ke, .ref ik, .ref sc, .ref w, .ref bp, .ref ac, .ref br, .int bs, .int bm]), (no, ob 3 [.ref tno, .int s.2.1, .int s.2.2.1, .int s.2.2.2.1, .int s.2.2.2.2.1, .int s.2.2.2.2.2.1, .int s.2.2.2.2.2.2.1, .int s.2.2.2.2.2.2.2]), (tno, aI E 4 s.1), (ke, aN E 2 (fun j => some (kn j))), (ik, aZ E 2 zf)]) (st2 := fun _ => [.int (withinI (nI k) 0 1)]) (fun _ => rfl) (fun _ => rfl) (fun _ => rfl) (fun _ _ => ?_)
  refine V.topc (v := 1) (within_nI (m := 2) hk (by omega)) ?_
  refine V.if_ne (tgt := 12) dX10_back_6 (by decide) (fun _ => ?_) (fun hc => absurd hc (by decide))
  refine V.aload_n dX10_back_12 0 rfl ?_
  refine V.getf 0 8 rfl fa_X10_44_9 rfl dX10_back_13 ?_
  refine V.iload_n dX10_back_16 1 rfl ?_
  refine V.zald 4 rfl (vinI (by omega)) dX10_back_17 ?_
  refine V.topc (v := (zf k)) (by rw [nI_clamp (by omega)]) ?_
  refine V.if_ne (tgt := 24) dX10_back_18 (by decide) (fun _ => ?_) (fun hc => absurd hc (hz))
  refine V.aload_n dX10_back_24 0 rfl ?_
  refine V.getf 0 2 rfl fa_X10_26_9 rfl dX10_back_25 ?_
  refine V.aload_n dX10_back_28 0 rfl ?_
  refine V.getf 0 7 rfl fa_X10_41_9 rfl dX10_back_29 ?_
  refine V.iload_n dX10_back_32 1 rfl ?_
  refine V.aldN 3 rfl (vinI (by omega)) dX10_back_33 ?_
  refine V.stack (st2 := [.ref (kn k), .ref no]) (by rw [nI_clamp (by omega)]; rfl) ?_
  refine V.see ((kt k)) (e := aI E 4 (fk k).1) ((hD.2.2.2 k hk).2.1) (fun hm => hD.off (hK _ hm) (inF_t hk)) ((hF k hk).2) ?_
  refine V.see ((kn k)) (e := ob 3 [.ref (kt k), .int (fk k).2.1, .int (fk k).2.2.1, .int (fk k).2.2.2.1, .int (fk k).2.2.2.2.1, .int (fk k).2.2.2.2.2.1, .int (fk k).2.2.2.2.2.2.1, .int (fk k).2.2.2.2.2.2.2]) ((hD.2.2.2 k hk).1) (nin_app (fun hm => hD.off (hK _ hm) (inF_a hk)) (hD.2.2.1 k k hk hk)) ((hF k hk).1) ?_
  refine V.view (vw2 := [(a, ob 9 [.ref tx, .ref lo, .ref no, .ref to, .ref pa, .int pe, .int un, .ref ke, .ref ik, .ref sc, .ref w, .ref bp, .ref ac, .ref br, .int bs, .int bm]), (no, ob 3 [.ref tno, .int s.2.1, .int s.2.2.1, .int s.2.2.2.1, .int s.2.2.2.2.1, .int s.2.2.2.2.2.1, .int s.2.2.2.2.2.2.1, .int s.2.2.2.2.2.2.2]), (tno, aI E 4 s.1), (ke, aN E 2 (fun j => some (kn j))), (ik, aZ E 2 zf), ((kt k), aI E 4 (fk k).1), ((kn k), ob 3 [.ref (kt k), .int (fk k).2.1, .int (fk k).2.2.1, .int (fk k).2.2.2.1, .int (fk k).2.2.2.2.1, .int (fk k).2.2.2.2.2.1, .int (fk k).2.2.2.2.2.2.1, .int (fk k).2.2.2.2.2.2.2])]) (L2 := L) rfl rfl ?_
  refine V.callVp (As := [.ref (kn k)]) (rest := []) [1, 2, 6, 5] (c_Nose_copy E l L _ no tno s ((kn k)) ((kt k)) ((fk k)) (hbs)) rfl (by decide) mi_X3_copy 1 rfl rfl w_526 w_527 w_528 rfl rfl (Nat.le_of_ble_eq_true rfl) ⟨by decide, by decide⟩ ⟨by decide, by decide⟩ dX10_back_34 (vw2 := fun _ => [(a, ob 9 [.ref tx, .ref lo, .ref no, .ref to, .ref pa, .int pe, .int un, .ref ke, .ref ik, .ref sc, .ref w, .ref bp, .ref ac, .ref br, .int bs, .int bm]), (no, ob 3 [.ref tno, .int (fk k).2.1, .int (fk k).2.2.1, .int (fk k).2.2.2.1, .int (fk k).2.2.2.2.1, .int (fk k).2.2.2.2.2.1, .int (fk k).2.2.2.2.2.2.1, .int (fk k).2.2.2.2.2.2.2]), (tno, aI E 4 (fk k).1), (ke, aN E 2 (fun j => some (kn j))), (ik, aZ E 2 zf), ((kt k), aI E 4 (fk k).1), ((kn k), ob 3 [.ref (kt k), .int (fk k).2.1, .int (fk k).2.2.1, .int (fk k).2.2.2.1, .int (fk k).2.2.2.2.1, .int (fk k).2.2.2.2.2.1, .int (fk k).2.2.2.2.2.2.1, .int (fk k).2.2.2.2.2.2.2])]) (st2 := fun _ => []) (fun _ => rfl) (fun _ => rfl) (fun _ => rfl) (fun _ _ => ?_)
  refine V.unsee (vw := [(a, ob 9 [.ref tx, .ref lo, .ref no, .ref to, .ref pa, .int pe, .int un, .ref ke, .ref ik, .ref sc, .ref w, .ref bp, .ref ac, .ref br, .int bs, .int bm]), (no, ob 3 [.ref tno, .int (fk k).2.1, .int (fk k).2.2.1, .int (fk k).2.2.2.1, .int (fk k).2.2.2.2.1, .int (fk k).2.2.2.2.2.1, .int (fk k).2.2.2.2.2.2.1, .int (fk k).2.2.2.2.2.2.2]), (tno, aI E 4 (fk k).1), (ke, aN E 2 (fun j => some (kn j))), (ik, aZ E 2 zf), ((kt k), aI E 4 (fk k).1)]) (a := (kn k)) (e := ob 3 [.ref (kt k), .int (fk k).2.1, .int (fk k).2.2.1, .int (fk k).2.2.2.1, .int (fk k).2.2.2.2.1, .int (fk k).2.2.2.2.2.1, .int (fk k).2.2.2.2.2.2.1, .int (fk k).2.2.2.2.2.2.2]) ((hF k hk).1) ?_
  refine V.unsee (vw := [(a, ob 9 [.ref tx, .ref lo, .ref no, .ref to, .ref pa, .int pe, .int un, .ref ke, .ref ik, .ref sc, .ref w, .ref bp, .ref ac, .ref br, .int bs, .int bm]), (no, ob 3 [.ref tno, .int (fk k).2.1, .int (fk k).2.2.1, .int (fk k).2.2.2.1, .int (fk k).2.2.2.2.1, .int (fk k).2.2.2.2.2.1, .int (fk k).2.2.2.2.2.2.1, .int (fk k).2.2.2.2.2.2.2]), (tno, aI E 4 (fk k).1), (ke, aN E 2 (fun j => some (kn j))), (ik, aZ E 2 zf)]) (a := (kt k)) (e := aI E 4 (fk k).1) ((hF k hk).2) ?_
  refine V.aload_n dX10_back_37 0 rfl ?_
  refine V.iconst (v := 0) dX10_back_38 (by decide) ?_
  refine V.putf 0 6 (vw2 := [(a, ob 9 [.ref tx, .ref lo, .ref no, .ref to, .ref pa, .int pe, .int 0, .ref ke, .ref ik, .ref sc, .ref w, .ref bp, .ref ac, .ref br, .int bs, .int bm]), (no, ob 3 [.ref tno, .int (fk k).2.1, .int (fk k).2.2.1, .int (fk k).2.2.2.1, .int (fk k).2.2.2.2.1, .int (fk k).2.2.2.2.2.1, .int (fk k).2.2.2.2.2.2.1, .int (fk k).2.2.2.2.2.2.2]), (tno, aI E 4 (fk k).1), (ke, aN E 2 (fun j => some (kn j))), (ik, aZ E 2 zf)]) rfl fp_X10_121_9 rfl rfl (Nat.le_of_ble_eq_true rfl) rfl dX10_back_39 ?_
  refine V.aload_n dX10_back_42 0 rfl ?_
  refine V.getf 0 2 rfl fa_X10_26_9 rfl dX10_back_43 ?_
  refine V.getf 1 2 rfl fa_X10_176_3 rfl dX10_back_46 ?_
  exact V.iret rfl dX10_back_49 (⟨(), rfl, rfl, rfl, trivial⟩)

set_option maxHeartbeats 4000000 in
set_option maxRecDepth 100000 in
theorem c_RL_forget (E : vEnv) (l : Launch) (L : List Nat) (h : Nat → va_E) (a : Nat) (tx : Nat) (lo : Nat) (no : Nat) (to : Nat) (pa : Nat) (ke : Nat) (ik : Nat) (sc : Nat) (w : Nat) (bp : Nat) (ac : Nat) (br : Nat) (pe : Int32) (un : Int32) (bs : Int32) (bm : Int32) (tS : Nat) (tV : Nat) (tM : Nat) (n : Nat) : CT E l yX10_forget cX10_forget 2 (some (.int)) 0 0 0 L h [(a, ob 9 [.ref tx, .ref lo, .ref no, .ref to, .ref pa, .int pe, .int un, .ref ke, .ref ik, .ref sc, .ref w, .ref bp, .ref ac, .ref br, .int bs, .int bm]), (to, ob 6 [.ref tS, .ref tV, .ref tM, .int (nI n)])] [.ref a] (qP L h (fun (_ : Unit) => [(a, ob 9 [.ref tx, .ref lo, .ref no, .ref to, .ref pa, .int pe, .int un, .ref ke, .ref ik, .ref sc, .ref w, .ref bp, .ref ac, .ref br, .int bs, .int bm]), (to, ob 6 [.ref tS, .ref tV, .ref tM, .int 0])]) (fun _ => some (.int (nI n))) (fun _ => True)) := by
  refine CT.ofV (by decide +kernel) (Nat.le_of_ble_eq_true rfl) ?_
  refine V.locals2 (lv2 := [(0, .ref a)]) rfl ?_
  refine V.aload_n dX10_forget_0 0 rfl ?_
  refine V.getf 0 3 rfl fa_X10_33_9 rfl dX10_forget_1 ?_
  refine V.getf 1 3 rfl fa_X10_118_6 rfl dX10_forget_4 ?_
  refine V.istore_n (lv2 := [(1, .int (nI n)), (0, .ref a)]) dX10_forget_7 rfl (by decide) rfl ?_
  refine V.aload_n dX10_forget_8 1 rfl ?_
  refine V.getf 0 3 rfl fa_X10_33_9 rfl dX10_forget_9 ?_
  refine V.iconst (v := 0) dX10_forget_12 (by decide) ?_
  refine V.putf 1 3 (vw2 := [(a, ob 9 [.ref tx, .ref lo, .ref no, .ref to, .ref pa, .int pe, .int un, .ref ke, .ref ik, .ref sc, .ref w, .ref bp, .ref ac, .ref br, .int bs, .int bm]), (to, ob 6 [.ref tS, .ref tV, .ref tM, .int 0])]) rfl fp_X10_118_6 rfl rfl (Nat.le_of_ble_eq_true rfl) rfl dX10_forget_13 ?_
  refine V.iload_n dX10_forget_16 0 rfl ?_
  exact V.iret rfl dX10_forget_17 (⟨(), rfl, rfl, rfl, trivial⟩)

set_option maxHeartbeats 4000000 in
set_option maxRecDepth 100000 in
theorem c_RL_tellsU (E : vEnv) (l : Launch) (L : List Nat) (h : Nat → va_E) (a : Nat) (tx : Nat) (lo : Nat) (no : Nat) (to : Nat) (pa : Nat) (ke : Nat) (ik : Nat) (sc : Nat) (w : Nat) (bp : Nat) (ac : Nat) (br : Nat) (pe : Int32) (un : Int32) (bs : Int32) (bm : Int32) (lt : Nat) (lr : Nat) (lw : Nat) (m : Nat) (wa : Int32) (lp : Int32) (x : Int32) (y : Int32) (z : Int32) (hx : withinI x 0 (nI m - 1) = 0) : CT E l yX10_tells cX10_tells 4 (some (.int)) 2 0 0 L h [(a, ob 9 [.ref tx, .ref lo, .ref no, .ref to, .ref pa, .int pe, .int un, .ref ke, .ref ik, .ref sc, .ref w, .ref bp, .ref ac, .ref br, .int bs, .int bm]), (lo, ob 1 [.ref lt, .ref lr, .ref lw, .int (nI m), .int wa, .int lp])] [.ref a, .int x, .int y, .int z] (qP L h (fun (_ : Unit) => [(a, ob 9 [.ref tx, .ref lo, .ref no, .ref to, .ref pa, .int pe, .int un, .ref ke, .ref ik, .ref sc, .ref w, .ref bp, .ref ac, .ref br, .int bs, .int bm]), (lo, ob 1 [.ref lt, .ref lr, .ref lw, .int (nI m), .int wa, .int lp])]) (fun _ => some (.int (-2))) (fun _ => True)) := by
  refine CT.ofV (by decide +kernel) (Nat.le_of_ble_eq_true rfl) ?_
  refine V.locals2 (lv2 := [(0, .ref a), (1, .int x), (2, .int y), (3, .int z)]) rfl ?_
  refine V.aload_n dX10_tells_0 0 rfl ?_
  refine V.getf 0 1 rfl fa_X10_19_9 rfl dX10_tells_1 ?_
  refine V.iload_n dX10_tells_4 1 rfl ?_
  refine V.callVp (As := [.int x]) (rest := []) [1] (c_Lane_shopOfN E l L _ lo lt lr lw m wa lp x (hx)) rfl (by decide) mi_X1_shopOf 1 rfl rfl w_449 w_450 w_451 rfl rfl (Nat.le_of_ble_eq_true rfl) ⟨by decide, by decide⟩ ⟨by decide, by decide⟩ dX10_tells_5 (vw2 := fun _ => [(a, ob 9 [.ref tx, .ref lo, .ref no, .ref to, .ref pa, .int pe, .int un, .ref ke, .ref ik, .ref sc, .ref w, .ref bp, .ref ac, .ref br, .int bs, .int bm]), (lo, ob 1 [.ref lt, .ref lr, .ref lw, .int (nI m), .int wa, .int lp])]) (st2 := fun _ => [.null]) (fun _ => rfl) (fun _ => rfl) (fun _ => rfl) (fun _ _ => ?_)
  refine V.ifnonnullN dX10_tells_8 ?_
  refine V.bipush (v := (-2)) dX10_tells_11 (by decide) ?_
  exact V.iret rfl dX10_tells_13 (⟨(), rfl, rfl, rfl, trivial⟩)

set_option maxHeartbeats 4000000 in
set_option maxRecDepth 100000 in
theorem c_RL_tellsO1 (E : vEnv) (l : Launch) (L : List Nat) (h : Nat → va_E) (a : Nat) (tx : Nat) (lo : Nat) (no : Nat) (to : Nat) (pa : Nat) (ke : Nat) (ik : Nat) (sc : Nat) (w : Nat) (bp : Nat) (ac : Nat) (br : Nat) (pe : Int32) (un : Int32) (bs : Int32) (bm : Int32) (lt : Nat) (lr : Nat) (lw : Nat) (m : Nat) (wa : Int32) (lp : Int32) (wf : Nat → Option Nat) (k : Nat) (q : Nat) (y : Int32) (z : Int32) (hkm : k < m) (hm : m ≤ 6) (hq : wf k = some q) (hy : withinI y 0 9 = 0) : CT E l yX10_tells cX10_tells 4 (some (.int)) 2 0 0 L h [(a, ob 9 [.ref tx, .ref lo, .ref no, .ref to, .ref pa, .int pe, .int un, .ref ke, .ref ik, .ref sc, .ref w, .ref bp, .ref ac, .ref br, .int bs, .int bm]), (lo, ob 1 [.ref lt, .ref lr, .ref lw, .int (nI m), .int wa, .int lp]), (lw, aS E 6 wf)] [.ref a, .int (nI k), .int y, .int z] (qP L h (fun (_ : Unit) => [(a, ob 9 [.ref tx, .ref lo, .ref no, .ref to, .ref pa, .int pe, .int un, .ref ke, .ref ik, .ref sc, .ref w, .ref bp, .ref ac, .ref br, .int bs, .int bm]), (lo, ob 1 [.ref lt, .ref lr, .ref lw, .int (nI m), .int wa, .int lp]), (lw, aS E 6 wf)]) (fun _ => some (.int (-3))) (fun _ => True)) := by
  refine CT.ofV (by decide +kernel) (Nat.le_of_ble_eq_true rfl) ?_
  refine V.locals2 (lv2 := [(0, .ref a), (1, .int (nI k)), (2, .int y), (3, .int z)]) rfl ?_
  refine V.aload_n dX10_tells_0 0 rfl ?_
  refine V.getf 0 1 rfl fa_X10_19_9 rfl dX10_tells_1 ?_
  refine V.iload_n dX10_tells_4 1 rfl ?_
  refine V.callVp (As := [.int (nI k)]) (rest := []) [1, 2] (c_Lane_shopOf E l L _ lo lt lr lw m wa lp wf k q (hkm) (hm) (hq)) rfl (by decide) mi_X1_shopOf 1 rfl rfl w_449 w_450 w_451 rfl rfl (Nat.le_of_ble_eq_true rfl) ⟨by decide, by decide⟩ ⟨by decide, by decide⟩ dX10_tells_5 (vw2 := fun _ => [(a, ob 9 [.ref tx, .ref lo, .ref no, .ref to, .ref pa, .int pe, .int un, .ref ke, .ref ik, .ref sc, .ref w, .ref bp, .ref ac, .ref br, .int bs, .int bm]), (lo, ob 1 [.ref lt, .ref lr, .ref lw, .int (nI m), .int wa, .int lp]), (lw, aS E 6 wf)]) (st2 := fun _ => [.ref q]) (fun _ => rfl) (fun _ => rfl) (fun _ => rfl) (fun _ _ => ?_)
  refine V.ifnonnull (tgt := 14) dX10_tells_8 (by decide) ?_
  refine V.iload_n dX10_tells_14 2 rfl ?_
  refine V.iconst (v := 0) dX10_tells_15 (by decide) ?_
  refine V.bipush (v := 9) dX10_tells_16 (by decide) ?_
  refine V.callSp (As := [.int y, .int 0, .int 9]) (rest := []) [] (c_within E l L _ y 0 9) rfl (by decide) mi_X10_isWithin w_267 w_268 rfl rfl (Nat.le_of_ble_eq_true rfl) ⟨by decide, by decide⟩ ⟨by decide, by decide⟩ dX10_tells_18 (vw2 := fun _ => [(a, ob 9 [.ref tx, .ref lo, .ref no, .ref to, .ref pa, .int pe, .int un, .ref ke, .ref ik, .ref sc, .ref w, .ref bp, .ref ac, .ref br, .int bs, .int bm]), (lo, ob 1 [.ref lt, .ref lr, .ref lw, .int (nI m), .int wa, .int lp]), (lw, aS E 6 wf)]) (st2 := fun _ => [.int (withinI y 0 9)]) (fun _ => rfl) (fun _ => rfl) (fun _ => rfl) (fun _ _ => ?_)
  refine V.topc (v := 0) (hy) ?_
  refine V.if_eq (tgt := 34) dX10_tells_21 (by decide) (fun _ => ?_) (fun hc => absurd (by decide) hc)
  refine V.bipush (v := (-3)) dX10_tells_34 (by decide) ?_
  exact V.iret rfl dX10_tells_36 (⟨(), rfl, rfl, rfl, trivial⟩)

set_option maxHeartbeats 4000000 in
set_option maxRecDepth 100000 in
theorem c_RL_tellsO2 (E : vEnv) (l : Launch) (L : List Nat) (h : Nat → va_E) (a : Nat) (tx : Nat) (lo : Nat) (no : Nat) (to : Nat) (pa : Nat) (ke : Nat) (ik : Nat) (sc : Nat) (w : Nat) (bp : Nat) (ac : Nat) (br : Nat) (pe : Int32) (un : Int32) (bs : Int32) (bm : Int32) (lt : Nat) (lr : Nat) (lw : Nat) (m : Nat) (wa : Int32) (lp : Int32) (wf : Nat → Option Nat) (k : Nat) (q : Nat) (y : Int32) (z : Int32) (hkm : k < m) (hm : m ≤ 6) (hq : wf k = some q) (hy : withinI y 0 9 = 1) (hz : withinI z 0 30 = 0) : CT E l yX10_tells cX10_tells 4 (some (.int)) 2 0 0 L h [(a, ob 9 [.ref tx, .ref lo, .ref no, .ref to, .ref pa, .int pe, .int un, .ref ke, .ref ik, .ref sc, .ref w, .ref bp, .ref ac, .ref br, .int bs, .int bm]), (lo, ob 1 [.ref lt, .ref lr, .ref lw, .int (nI m), .int wa, .int lp]), (lw, aS E 6 wf)] [.ref a, .int (nI k), .int y, .int z] (qP L h (fun (_ : Unit) => [(a, ob 9 [.ref tx, .ref lo, .ref no, .ref to, .ref pa, .int pe, .int un, .ref ke, .ref ik, .ref sc, .ref w, .ref bp, .ref ac, .ref br, .int bs, .int bm]), (lo, ob 1 [.ref lt, .ref lr, .ref lw, .int (nI m), .int wa, .int lp]), (lw, aS E 6 wf)]) (fun _ => some (.int (-3))) (fun _ => True)) := by
  refine CT.ofV (by decide +kernel) (Nat.le_of_ble_eq_true rfl) ?_
  refine V.locals2 (lv2 := [(0, .ref a), (1, .int (nI k)), (2, .int y), (3, .int z)]) rfl ?_
  refine V.aload_n dX10_tells_0 0 rfl ?_
  refine V.getf 0 1 rfl fa_X10_19_9 rfl dX10_tells_1 ?_
  refine V.iload_n dX10_tells_4 1 rfl ?_
  refine V.callVp (As := [.int (nI k)]) (rest := []) [1, 2] (c_Lane_shopOf E l L _ lo lt lr lw m wa lp wf k q (hkm) (hm) (hq)) rfl (by decide) mi_X1_shopOf 1 rfl rfl w_449 w_450 w_451 rfl rfl (Nat.le_of_ble_eq_true rfl) ⟨by decide, by decide⟩ ⟨by decide, by decide⟩ dX10_tells_5 (vw2 := fun _ => [(a, ob 9 [.ref tx, .ref lo, .ref no, .ref to, .ref pa, .int pe, .int un, .ref ke, .ref ik, .ref sc, .ref w, .ref bp, .ref ac, .ref br, .int bs, .int bm]), (lo, ob 1 [.ref lt, .ref lr, .ref lw, .int (nI m), .int wa, .int lp]), (lw, aS E 6 wf)]) (st2 := fun _ => [.ref q]) (fun _ => rfl) (fun _ => rfl) (fun _ => rfl) (fun _ _ => ?_)
  refine V.ifnonnull (tgt := 14) dX10_tells_8 (by decide) ?_
  refine V.iload_n dX10_tells_14 2 rfl ?_
  refine V.iconst (v := 0) dX10_tells_15 (by decide) ?_
  refine V.bipush (v := 9) dX10_tells_16 (by decide) ?_
  refine V.callSp (As := [.int y, .int 0, .int 9]) (rest := []) [] (c_within E l L _ y 0 9) rfl (by decide) mi_X10_isWithin w_267 w_268 rfl rfl (Nat.le_of_ble_eq_true rfl) ⟨by decide, by decide⟩ ⟨by decide, by decide⟩ dX10_tells_18 (vw2 := fun _ => [(a, ob 9 [.ref tx, .ref lo, .ref no, .ref to, .ref pa, .int pe, .int un, .ref ke, .ref ik, .ref sc, .ref w, .ref bp, .ref ac, .ref br, .int bs, .int bm]), (lo, ob 1 [.ref lt, .ref lr, .ref lw, .int (nI m), .int wa, .int lp]), (lw, aS E 6 wf)]) (st2 := fun _ => [.int (withinI y 0 9)]) (fun _ => rfl) (fun _ => rfl) (fun _ => rfl) (fun _ _ => ?_)
  refine V.topc (v := 1) (hy) ?_
  refine V.if_eq (tgt := 34) dX10_tells_21 (by decide) (fun hc => absurd hc (by decide)) (fun _ => ?_)
  refine V.iload_n dX10_tells_24 3 rfl ?_
  refine V.iconst (v := 0) dX10_tells_25 (by decide) ?_
  refine V.bipush (v := 30) dX10_tells_26 (by decide) ?_
  refine V.callSp (As := [.int z, .int 0, .int 30]) (rest := []) [] (c_within E l L _ z 0 30) rfl (by decide) mi_X10_isWithin w_267 w_268 rfl rfl (Nat.le_of_ble_eq_true rfl) ⟨by decide, by decide⟩ ⟨by decide, by decide⟩ dX10_tells_28 (vw2 := fun _ => [(a, ob 9 [.ref tx, .ref lo, .ref no, .ref to, .ref pa, .int pe, .int un, .ref ke, .ref ik, .ref sc, .ref w, .ref bp, .ref ac, .ref br, .int bs, .int bm]), (lo, ob 1 [.ref lt, .ref lr, .ref lw, .int (nI m), .int wa, .int lp]), (lw, aS E 6 wf)]) (st2 := fun _ => [.int (withinI z 0 30)]) (fun _ => rfl) (fun _ => rfl) (fun _ => rfl) (fun _ _ => ?_)
  refine V.topc (v := 0) (hz) ?_
  refine V.if_ne (tgt := 37) dX10_tells_31 (by decide) (fun hc => absurd (by decide) hc) (fun _ => ?_)
  refine V.bipush (v := (-3)) dX10_tells_34 (by decide) ?_
  exact V.iret rfl dX10_tells_36 (⟨(), rfl, rfl, rfl, trivial⟩)

set_option maxHeartbeats 4000000 in
set_option maxRecDepth 100000 in
theorem c_RL_tellsF (E : vEnv) (l : Launch) (L : List Nat) (h : Nat → va_E) (a : Nat) (tx : Nat) (lo : Nat) (no : Nat) (to : Nat) (pa : Nat) (ke : Nat) (ik : Nat) (sc : Nat) (w : Nat) (bp : Nat) (ac : Nat) (br : Nat) (pe : Int32) (un : Int32) (bs : Int32) (bm : Int32) (lt : Nat) (lr : Nat) (lw : Nat) (m : Nat) (wa : Int32) (lp : Int32) (wf : Nat → Option Nat) (k : Nat) (q : Nat) (tS : Nat) (tV : Nat) (tM : Nat) (n : Nat) (y : Int32) (z : Int32) (hkm : k < m) (hm : m ≤ 6) (hq : wf k = some q) (hy : withinI y 0 9 = 1) (hz : withinI z 0 30 = 1) (hn : 6 ≤ n) (hn2 : n < 2 ^ 30) : CT E l yX10_tells cX10_tells 4 (some (.int)) 2 0 0 L h [(a, ob 9 [.ref tx, .ref lo, .ref no, .ref to, .ref pa, .int pe, .int un, .ref ke, .ref ik, .ref sc, .ref w, .ref bp, .ref ac, .ref br, .int bs, .int bm]), (lo, ob 1 [.ref lt, .ref lr, .ref lw, .int (nI m), .int wa, .int lp]), (lw, aS E 6 wf), (to, ob 6 [.ref tS, .ref tV, .ref tM, .int (nI n)])] [.ref a, .int (nI k), .int y, .int z] (qP L h (fun (_ : Unit) => [(a, ob 9 [.ref tx, .ref lo, .ref no, .ref to, .ref pa, .int pe, .int un, .ref ke, .ref ik, .ref sc, .ref w, .ref bp, .ref ac, .ref br, .int bs, .int bm]), (lo, ob 1 [.ref lt, .ref lr, .ref lw, .int (nI m), .int wa, .int lp]), (lw, aS E 6 wf), (to, ob 6 [.ref tS, .ref tV, .ref tM, .int (nI n)])]) (fun _ => some (.int (-5))) (fun _ => True)) := by
  refine CT.ofV (by decide +kernel) (Nat.le_of_ble_eq_true rfl) ?_
  refine V.locals2 (lv2 := [(0, .ref a), (1, .int (nI k)), (2, .int y), (3, .int z)]) rfl ?_
  refine V.aload_n dX10_tells_0 0 rfl ?_
  refine V.getf 0 1 rfl fa_X10_19_9 rfl dX10_tells_1 ?_
  refine V.iload_n dX10_tells_4 1 rfl ?_
  refine V.callVp (As := [.int (nI k)]) (rest := []) [1, 2] (c_Lane_shopOf E l L _ lo lt lr lw m wa lp wf k q (hkm) (hm) (hq)) rfl (by decide) mi_X1_shopOf 1 rfl rfl w_449 w_450 w_451 rfl rfl (Nat.le_of_ble_eq_true rfl) ⟨by decide, by decide⟩ ⟨by decide, by decide⟩ dX10_tells_5 (vw2 := fun _ => [(a, ob 9 [.ref tx, .ref lo, .ref no, .ref to, .ref pa, .int pe, .int un, .ref ke, .ref ik, .ref sc, .ref w, .ref bp, .ref ac, .ref br, .int bs, .int bm]), (lo, ob 1 [.ref lt, .ref lr, .ref lw, .int (nI m), .int wa, .int lp]), (lw, aS E 6 wf), (to, ob 6 [.ref tS, .ref tV, .ref tM, .int (nI n)])]) (st2 := fun _ => [.ref q]) (fun _ => rfl) (fun _ => rfl) (fun _ => rfl) (fun _ _ => ?_)
  refine V.ifnonnull (tgt := 14) dX10_tells_8 (by decide) ?_
  refine V.iload_n dX10_tells_14 2 rfl ?_
  refine V.iconst (v := 0) dX10_tells_15 (by decide) ?_
  refine V.bipush (v := 9) dX10_tells_16 (by decide) ?_
  refine V.callSp (As := [.int y, .int 0, .int 9]) (rest := []) [] (c_within E l L _ y 0 9) rfl (by decide) mi_X10_isWithin w_267 w_268 rfl rfl (Nat.le_of_ble_eq_true rfl) ⟨by decide, by decide⟩ ⟨by decide, by decide⟩ dX10_tells_18 (vw2 := fun _ => [(a, ob 9 [.ref tx, .ref lo, .ref no, .ref to, .ref pa, .int pe, .int un, .ref ke, .ref ik, .ref sc, .ref w, .ref bp, .ref ac, .ref br, .int bs, .int bm]), (lo, ob 1 [.ref lt, .ref lr, .ref lw, .int (nI m), .int wa, .int lp]), (lw, aS E 6 wf), (to, ob 6 [.ref tS, .ref tV, .ref tM, .int (nI n)])]) (st2 := fun _ => [.int (withinI y 0 9)]) (fun _ => rfl) (fun _ => rfl) (fun _ => rfl) (fun _ _ => ?_)
  refine V.topc (v := 1) (hy) ?_
  refine V.if_eq (tgt := 34) dX10_tells_21 (by decide) (fun hc => absurd hc (by decide)) (fun _ => ?_)
  refine V.iload_n dX10_tells_24 3 rfl ?_
  refine V.iconst (v := 0) dX10_tells_25 (by decide) ?_
  refine V.bipush (v := 30) dX10_tells_26 (by decide) ?_
  refine V.callSp (As := [.int z, .int 0, .int 30]) (rest := []) [] (c_within E l L _ z 0 30) rfl (by decide) mi_X10_isWithin w_267 w_268 rfl rfl (Nat.le_of_ble_eq_true rfl) ⟨by decide, by decide⟩ ⟨by decide, by decide⟩ dX10_tells_28 (vw2 := fun _ => [(a, ob 9 [.ref tx, .ref lo, .ref no, .ref to, .ref pa, .int pe, .int un, .ref ke, .ref ik, .ref sc, .ref w, .ref bp, .ref ac, .ref br, .int bs, .int bm]), (lo, ob 1 [.ref lt, .ref lr, .ref lw, .int (nI m), .int wa, .int lp]), (lw, aS E 6 wf), (to, ob 6 [.ref tS, .ref tV, .ref tM, .int (nI n)])]) (st2 := fun _ => [.int (withinI z 0 30)]) (fun _ => rfl) (fun _ => rfl) (fun _ => rfl) (fun _ _ => ?_)
  refine V.topc (v := 1) (hz) ?_
  refine V.if_ne (tgt := 37) dX10_tells_31 (by decide) (fun _ => ?_) (fun hc => absurd hc (by decide))
  refine V.aload_n dX10_tells_37 0 rfl ?_
  refine V.getf 0 3 rfl fa_X10_33_9 rfl dX10_tells_38 ?_
  refine V.iload_n dX10_tells_41 1 rfl ?_
  refine V.iload_n dX10_tells_42 2 rfl ?_
  refine V.iload_n dX10_tells_43 3 rfl ?_
  refine V.callVp (As := [.int (nI k), .int y, .int z]) (rest := []) [3] (c_Tells_addF E l L _ to tS tV tM n ((nI k)) y z (hn) (hn2)) rfl (by decide) mi_X7_add 3 rfl rfl w_671 w_672 w_673 rfl rfl (Nat.le_of_ble_eq_true rfl) ⟨by decide, by decide⟩ ⟨by decide, by decide⟩ dX10_tells_44 (vw2 := fun _ => [(a, ob 9 [.ref tx, .ref lo, .ref no, .ref to, .ref pa, .int pe, .int un, .ref ke, .ref ik, .ref sc, .ref w, .ref bp, .ref ac, .ref br, .int bs, .int bm]), (lo, ob 1 [.ref lt, .ref lr, .ref lw, .int (nI m), .int wa, .int lp]), (lw, aS E 6 wf), (to, ob 6 [.ref tS, .ref tV, .ref tM, .int (nI n)])]) (st2 := fun _ => [.int 0]) (fun _ => rfl) (fun _ => rfl) (fun _ => rfl) (fun _ _ => ?_)
  refine V.if_eq (tgt := 60) dX10_tells_47 (by decide) (fun _ => ?_) (fun hc => absurd (by decide) hc)
  refine V.bipush (v := (-5)) dX10_tells_60 (by decide) ?_
  exact V.iret rfl dX10_tells_62 (⟨(), rfl, rfl, rfl, trivial⟩)

set_option maxHeartbeats 4000000 in
set_option maxRecDepth 100000 in
theorem c_RL_tells (E : vEnv) (l : Launch) (L : List Nat) (h : Nat → va_E) (a : Nat) (tx : Nat) (lo : Nat) (no : Nat) (to : Nat) (pa : Nat) (ke : Nat) (ik : Nat) (sc : Nat) (w : Nat) (bp : Nat) (ac : Nat) (br : Nat) (pe : Int32) (un : Int32) (bs : Int32) (bm : Int32) (lt : Nat) (lr : Nat) (lw : Nat) (m : Nat) (wa : Int32) (lp : Int32) (wf : Nat → Option Nat) (k : Nat) (q : Nat) (tS : Nat) (tV : Nat) (tM : Nat) (n : Nat) (fS : Nat → Int32) (fV : Nat → Int32) (fM : Nat → Int32) (y : Int32) (z : Int32) (hkm : k < m) (hm : m ≤ 6) (hq : wf k = some q) (hy : withinI y 0 9 = 1) (hz : withinI z 0 30 = 1) (hn : n < 6) : CT E l yX10_tells cX10_tells 4 (some (.int)) 2 0 0 L h [(a, ob 9 [.ref tx, .ref lo, .ref no, .ref to, .ref pa, .int pe, .int un, .ref ke, .ref ik, .ref sc, .ref w, .ref bp, .ref ac, .ref br, .int bs, .int bm]), (lo, ob 1 [.ref lt, .ref lr, .ref lw, .int (nI m), .int wa, .int lp]), (lw, aS E 6 wf), (to, ob 6 [.ref tS, .ref tV, .ref tM, .int (nI n)]), (tS, aI E 6 fS), (tV, aI E 6 fV), (tM, aI E 6 fM)] [.ref a, .int (nI k), .int y, .int z] (qP L h (fun (_ : Unit) => [(a, ob 9 [.ref tx, .ref lo, .ref no, .ref to, .ref pa, .int pe, .int un, .ref ke, .ref ik, .ref sc, .ref w, .ref bp, .ref ac, .ref br, .int bs, .int bm]), (lo, ob 1 [.ref lt, .ref lr, .ref lw, .int (nI m), .int wa, .int lp]), (lw, aS E 6 wf), (to, ob 6 [.ref tS, .ref tV, .ref tM, .int (nI (n + 1))]), (tS, aI E 6 (upd fS n (nI k))), (tV, aI E 6 (upd fV n y)), (tM, aI E 6 (upd fM n z))]) (fun _ => some (.int (nI (n + 1)))) (fun _ => True)) := by
  refine CT.ofV (by decide +kernel) (Nat.le_of_ble_eq_true rfl) ?_
  refine V.locals2 (lv2 := [(0, .ref a), (1, .int (nI k)), (2, .int y), (3, .int z)]) rfl ?_
  refine V.aload_n dX10_tells_0 0 rfl ?_
  refine V.getf 0 1 rfl fa_X10_19_9 rfl dX10_tells_1 ?_
  refine V.iload_n dX10_tells_4 1 rfl ?_
  refine V.callVp (As := [.int (nI k)]) (rest := []) [1, 2] (c_Lane_shopOf E l L _ lo lt lr lw m wa lp wf k q (hkm) (hm) (hq)) rfl (by decide) mi_X1_shopOf 1 rfl rfl w_449 w_450 w_451 rfl rfl (Nat.le_of_ble_eq_true rfl) ⟨by decide, by decide⟩ ⟨by decide, by decide⟩ dX10_tells_5 (vw2 := fun _ => [(a, ob 9 [.ref tx, .ref lo, .ref no, .ref to, .ref pa, .int pe, .int un, .ref ke, .ref ik, .ref sc, .ref w, .ref bp, .ref ac, .ref br, .int bs, .int bm]), (lo, ob 1 [.ref lt, .ref lr, .ref lw, .int (nI m), .int wa, .int lp]), (lw, aS E 6 wf), (to, ob 6 [.ref tS, .ref tV, .ref tM, .int (nI n)]), (tS, aI E 6 fS), (tV, aI E 6 fV), (tM, aI E 6 fM)]) (st2 := fun _ => [.ref q]) (fun _ => rfl) (fun _ => rfl) (fun _ => rfl) (fun _ _ => ?_)
  refine V.ifnonnull (tgt := 14) dX10_tells_8 (by decide) ?_
  refine V.iload_n dX10_tells_14 2 rfl ?_
  refine V.iconst (v := 0) dX10_tells_15 (by decide) ?_
  refine V.bipush (v := 9) dX10_tells_16 (by decide) ?_
  refine V.callSp (As := [.int y, .int 0, .int 9]) (rest := []) [] (c_within E l L _ y 0 9) rfl (by decide) mi_X10_isWithin w_267 w_268 rfl rfl (Nat.le_of_ble_eq_true rfl) ⟨by decide, by decide⟩ ⟨by decide, by decide⟩ dX10_tells_18 (vw2 := fun _ => [(a, ob 9 [.ref tx, .ref lo, .ref no, .ref to, .ref pa, .int pe, .int un, .ref ke, .ref ik, .ref sc, .ref w, .ref bp, .ref ac, .ref br, .int bs, .int bm]), (lo, ob 1 [.ref lt, .ref lr, .ref lw, .int (nI m), .int wa, .int lp]), (lw, aS E 6 wf), (to, ob 6 [.ref tS, .ref tV, .ref tM, .int (nI n)]), (tS, aI E 6 fS), (tV, aI E 6 fV), (tM, aI E 6 fM)]) (st2 := fun _ => [.int (withinI y 0 9)]) (fun _ => rfl) (fun _ => rfl) (fun _ => rfl) (fun _ _ => ?_)
  refine V.topc (v := 1) (hy) ?_
  refine V.if_eq (tgt := 34) dX10_tells_21 (by decide) (fun hc => absurd hc (by decide)) (fun _ => ?_)
  refine V.iload_n dX10_tells_24 3 rfl ?_
  refine V.iconst (v := 0) dX10_tells_25 (by decide) ?_
  refine V.bipush (v := 30) dX10_tells_26 (by decide) ?_
  refine V.callSp (As := [.int z, .int 0, .int 30]) (rest := []) [] (c_within E l L _ z 0 30) rfl (by decide) mi_X10_isWithin w_267 w_268 rfl rfl (Nat.le_of_ble_eq_true rfl) ⟨by decide, by decide⟩ ⟨by decide, by decide⟩ dX10_tells_28 (vw2 := fun _ => [(a, ob 9 [.ref tx, .ref lo, .ref no, .ref to, .ref pa, .int pe, .int un, .ref ke, .ref ik, .ref sc, .ref w, .ref bp, .ref ac, .ref br, .int bs, .int bm]), (lo, ob 1 [.ref lt, .ref lr, .ref lw, .int (nI m), .int wa, .int lp]), (lw, aS E 6 wf), (to, ob 6 [.ref tS, .ref tV, .ref tM, .int (nI n)]), (tS, aI E 6 fS), (tV, aI E 6 fV), (tM, aI E 6 fM)]) (st2 := fun _ => [.int (withinI z 0 30)]) (fun _ => rfl) (fun _ => rfl) (fun _ => rfl) (fun _ _ => ?_)
  refine V.topc (v := 1) (hz) ?_
  refine V.if_ne (tgt := 37) dX10_tells_31 (by decide) (fun _ => ?_) (fun hc => absurd hc (by decide))
  refine V.aload_n dX10_tells_37 0 rfl ?_
  refine V.getf 0 3 rfl fa_X10_33_9 rfl dX10_tells_38 ?_
  refine V.iload_n dX10_tells_41 1 rfl ?_
  refine V.iload_n dX10_tells_42 2 rfl ?_
  refine V.iload_n dX10_tells_43 3 rfl ?_
  refine V.callVp (As := [.int (nI k), .int y, .int z]) (rest := []) [3, 4, 5, 6] (c_Tells_add E l L _ to tS tV tM n fS fV fM ((nI k)) y z (hn)) rfl (by decide) mi_X7_add 3 rfl rfl w_671 w_672 w_673 rfl rfl (Nat.le_of_ble_eq_true rfl) ⟨by decide, by decide⟩ ⟨by decide, by decide⟩ dX10_tells_44 (vw2 := fun _ => [(a, ob 9 [.ref tx, .ref lo, .ref no, .ref to, .ref pa, .int pe, .int un, .ref ke, .ref ik, .ref sc, .ref w, .ref bp, .ref ac, .ref br, .int bs, .int bm]), (lo, ob 1 [.ref lt, .ref lr, .ref lw, .int (nI m), .int wa, .int lp]), (lw, aS E 6 wf), (to, ob 6 [.ref tS, .ref tV, .ref tM, .int (nI (n + 1))]), (tS, aI E 6 (upd fS n (nI k))), (tV, aI E 6 (upd fV n y)), (tM, aI E 6 (upd fM n z))]) (st2 := fun _ => [.int 1]) (fun _ => rfl) (fun _ => rfl) (fun _ => rfl) (fun _ _ => ?_)
  refine V.if_eq (tgt := 60) dX10_tells_47 (by decide) (fun hc => absurd hc (by decide)) (fun _ => ?_)
  refine V.aload_n dX10_tells_50 0 rfl ?_
  refine V.getf 0 3 rfl fa_X10_33_9 rfl dX10_tells_51 ?_
  refine V.getf 3 3 rfl fa_X10_118_6 rfl dX10_tells_54 ?_
  refine V.goto (tgt := 62) dX10_tells_57 (by decide) ?_
  exact V.iret rfl dX10_tells_62 (⟨(), rfl, rfl, rfl, trivial⟩)

set_option maxHeartbeats 4000000 in
set_option maxRecDepth 100000 in
theorem c_RL_smallestU (E : vEnv) (l : Launch) (L : List Nat) (h : Nat → va_E) (a : Nat) (tx : Nat) (lo : Nat) (no : Nat) (to : Nat) (pa : Nat) (ke : Nat) (ik : Nat) (sc : Nat) (w : Nat) (bp : Nat) (ac : Nat) (br : Nat) (pe : Int32) (un : Int32) (bs : Int32) (bm : Int32) (x : Int32) (hx : withinI x 0 3 = 0) : CT E l yX10_smallest cX10_smallest 3 (some (.int)) 1 0 0 L h [(a, ob 9 [.ref tx, .ref lo, .ref no, .ref to, .ref pa, .int pe, .int un, .ref ke, .ref ik, .ref sc, .ref w, .ref bp, .ref ac, .ref br, .int bs, .int bm])] [.ref a, .int x] (qP L h (fun (_ : Unit) => [(a, ob 9 [.ref tx, .ref lo, .ref no, .ref to, .ref pa, .int pe, .int un, .ref ke, .ref ik, .ref sc, .ref w, .ref bp, .ref ac, .ref br, .int bs, .int bm])]) (fun _ => some (.int (-2))) (fun _ => True)) := by
  refine CT.ofV (by decide +kernel) (Nat.le_of_ble_eq_true rfl) ?_
  refine V.locals2 (lv2 := [(0, .ref a), (1, .int x)]) rfl ?_
  refine V.iload_n dX10_smallest_0 1 rfl ?_
  refine V.iconst (v := 0) dX10_smallest_1 (by decide) ?_
  refine V.iconst (v := 3) dX10_smallest_2 (by decide) ?_
  refine V.callSp (As := [.int x, .int 0, .int 3]) (rest := []) [] (c_within E l L _ x 0 3) rfl (by decide) mi_X10_isWithin w_267 w_268 rfl rfl (Nat.le_of_ble_eq_true rfl) ⟨by decide, by decide⟩ ⟨by decide, by decide⟩ dX10_smallest_3 (vw2 := fun _ => [(a, ob 9 [.ref tx, .ref lo, .ref no, .ref to, .ref pa, .int pe, .int un, .ref ke, .ref ik, .ref sc, .ref w, .ref bp, .ref ac, .ref br, .int bs, .int bm])]) (st2 := fun _ => [.int (withinI x 0 3)]) (fun _ => rfl) (fun _ => rfl) (fun _ => rfl) (fun _ _ => ?_)
  refine V.topc (v := 0) (hx) ?_
  refine V.if_ne (tgt := 12) dX10_smallest_6 (by decide) (fun hc => absurd (by decide) hc) (fun _ => ?_)
  refine V.bipush (v := (-2)) dX10_smallest_9 (by decide) ?_
  exact V.iret rfl dX10_smallest_11 (⟨(), rfl, rfl, rfl, trivial⟩)

set_option maxHeartbeats 4000000 in
set_option maxRecDepth 100000 in
theorem c_RL_smallest (E : vEnv) (l : Launch) (L : List Nat) (h : Nat → va_E) (a : Nat) (tx : Nat) (lo : Nat) (no : Nat) (to : Nat) (pa : Nat) (ke : Nat) (ik : Nat) (sc : Nat) (w : Nat) (bp : Nat) (ac : Nat) (br : Nat) (pe : Int32) (un : Int32) (bs : Int32) (bm : Int32) (tS : Nat) (tV : Nat) (tM : Nat) (n : Nat) (fM : Nat → Int32) (lt : Nat) (lr : Nat) (lw : Nat) (m : Nat) (wa : Int32) (lp : Int32) (wf : Nat → Option Nat) (K : Nat → Prop) (sf : Nat → SHP) (tk : Nat → Nat) (tv : Nat → Nat) (x : Int32) (hx : withinI x 0 3 = 1) (hn : n ≤ 6) (hm : m ≤ 6) (htk : ∀ i, i < n → tk i < m ∧ tv i ≤ 9) (hK : ∀ a_ ∈ [to, tS, tV, tM, lo, lw, a], K a_) (hSh : ShopsAt L K m wf sf h) : CT E l yX10_smallest cX10_smallest 3 (some (.int)) 4 0 0 L h [(a, ob 9 [.ref tx, .ref lo, .ref no, .ref to, .ref pa, .int pe, .int un, .ref ke, .ref ik, .ref sc, .ref w, .ref bp, .ref ac, .ref br, .int bs, .int bm]), (to, ob 6 [.ref tS, .ref tV, .ref tM, .int (nI n)]), (tS, aI E 6 (fun j => nI (tk j))), (tV, aI E 6 (fun j => nI (tv j))), (tM, aI E 6 fM), (lo, ob 1 [.ref lt, .ref lr, .ref lw, .int (nI m), .int wa, .int lp]), (lw, aS E 6 wf)] [.ref a, .int x] (qP L h (fun (_ : Unit) => [(a, ob 9 [.ref tx, .ref lo, .ref no, .ref to, .ref pa, .int pe, .int un, .ref ke, .ref ik, .ref sc, .ref w, .ref bp, .ref ac, .ref br, .int bs, .int bm]), (to, ob 6 [.ref tS, .ref tV, .ref tM, .int (nI n)]), (tS, aI E 6 (fun j => nI (tk j))), (tV, aI E 6 (fun j => nI (tv j))), (tM, aI E 6 fM), (lo, ob 1 [.ref lt, .ref lr, .ref lw, .int (nI m), .int wa, .int lp]), (lw, aS E 6 wf)]) (fun _ => some (.int (small9 (fun t => ∀ i, i < n → tellFits sf tk tv fM x (nI t) i) 10 0))) (fun _ => True)) := by
  refine CT.ofV (by decide +kernel) (Nat.le_of_ble_eq_true rfl) ?_
  obtain ⟨Z, hZ⟩ : ∃ Z, Z = mZ E (qP L h (fun (_ : Unit) => [(a, ob 9 [.ref tx, .ref lo, .ref no, .ref to, .ref pa, .int pe, .int un, .ref ke, .ref ik, .ref sc, .ref w, .ref bp, .ref ac, .ref br, .int bs, .int bm]), (to, ob 6 [.ref tS, .ref tV, .ref tM, .int (nI n)]), (tS, aI E 6 (fun j => nI (tk j))), (tV, aI E 6 (fun j => nI (tv j))), (tM, aI E 6 fM), (lo, ob 1 [.ref lt, .ref lr, .ref lw, .int (nI m), .int wa, .int lp]), (lw, aS E 6 wf)]) (fun _ => some (.int (small9 (fun t => ∀ i, i < n → tellFits sf tk tv fM x (nI t) i) 10 0))) (fun _ => True)) 0 0 := ⟨_, rfl⟩
  rw [← hZ]
  refine V.locals2 (lv2 := [(0, .ref a), (1, .int x)]) rfl ?_
  refine V.iload_n dX10_smallest_0 1 rfl ?_
  refine V.iconst (v := 0) dX10_smallest_1 (by decide) ?_
  refine V.iconst (v := 3) dX10_smallest_2 (by decide) ?_
  refine V.callSp (As := [.int x, .int 0, .int 3]) (rest := []) [] (c_within E l L _ x 0 3) rfl (by decide) mi_X10_isWithin w_267 w_268 rfl rfl (Nat.le_of_ble_eq_true rfl) ⟨by decide, by decide⟩ ⟨by decide, by decide⟩ dX10_smallest_3 (vw2 := fun _ => [(a, ob 9 [.ref tx, .ref lo, .ref no, .ref to, .ref pa, .int pe, .int un, .ref ke, .ref ik, .ref sc, .ref w, .ref bp, .ref ac, .ref br, .int bs, .int bm]), (to, ob 6 [.ref tS, .ref tV, .ref tM, .int (nI n)]), (tS, aI E 6 (fun j => nI (tk j))), (tV, aI E 6 (fun j => nI (tv j))), (tM, aI E 6 fM), (lo, ob 1 [.ref lt, .ref lr, .ref lw, .int (nI m), .int wa, .int lp]), (lw, aS E 6 wf)]) (st2 := fun _ => [.int (withinI x 0 3)]) (fun _ => rfl) (fun _ => rfl) (fun _ => rfl) (fun _ _ => ?_)
  refine V.topc (v := 1) (hx) ?_
  refine V.if_ne (tgt := 12) dX10_smallest_6 (by decide) (fun _ => ?_) (fun hc => absurd hc (by decide))
  refine V.iconst (v := 0) dX10_smallest_12 (by decide) ?_
  refine V.istore_n (lv2 := [(2, .int 0), (0, .ref a), (1, .int x)]) dX10_smallest_13 rfl (by decide) rfl ?_
  refine V.locals [1, 2, 0] (by rfl) ?_
  have lp_14 : ∀ (fuel : Nat) (t : Nat) (ht : t ≤ 10) (hinv : small9 (fun t => ∀ i, i < n → tellFits sf tk tv fM x (nI t) i) (10 - t) t = small9 (fun t => ∀ i, i < n → tellFits sf tk tv fM x (nI t) i) 10 0) (hf : 10 < t + fuel), V E l yX10_smallest cX10_smallest 3 (some (.int)) (rmk 4 0 0) Z L h 0 0 [(a, ob 9 [.ref tx, .ref lo, .ref no, .ref to, .ref pa, .int pe, .int un, .ref ke, .ref ik, .ref sc, .ref w, .ref bp, .ref ac, .ref br, .int bs, .int bm]), (to, ob 6 [.ref tS, .ref tV, .ref tM, .int (nI n)]), (tS, aI E 6 (fun j => nI (tk j))), (tV, aI E 6 (fun j => nI (tv j))), (tM, aI E 6 fM), (lo, ob 1 [.ref lt, .ref lr, .ref lw, .int (nI m), .int wa, .int lp]), (lw, aS E 6 wf)] 14 [(0, .ref a), (1, .int x), (2, .int (nI t))] [] := by
    intro fuel
    induction fuel with
    | zero =>
      intro t ht hinv hf
      exfalso; omega
    | succ fuel ih_14 =>
      intro t ht hinv hf
      refine V.iload_n dX10_smallest_14 2 rfl ?_
      refine V.bipush (v := 9) dX10_smallest_15 (by decide) ?_
      refine V.icmp_gt (tgt := 44) dX10_smallest_17 (by decide) (fun c1_17 => ?_) (fun c1_17 => ?_)
      · skip
        have ht9 : t = 10 := by have := (nI_ltI (a := 9) (by omega) (by omega)).mp (Int32.not_le.mp (Int32.not_le.mpr c1_17)); omega
        refine V.iconst (v := (-1)) dX10_smallest_44 (by decide) ?_
        subst hZ
        exact V.iret rfl dX10_smallest_45 (⟨(), by rw [← hinv, ht9]; rfl, rfl, rfl, trivial⟩)
      · skip
        have ht9 : t < 10 := by have := (nI_leI (b := 9) (by omega) (by omega)).mp (Int32.not_lt.mp c1_17); omega
        refine V.aload_n dX10_smallest_20 0 rfl ?_
        refine V.getf 0 3 rfl fa_X10_33_9 rfl dX10_smallest_21 ?_
        refine V.aload_n dX10_smallest_24 0 rfl ?_
        refine V.getf 0 1 rfl fa_X10_19_9 rfl dX10_smallest_25 ?_
        refine V.iload_n dX10_smallest_28 1 rfl ?_
        refine V.iload_n dX10_smallest_29 2 rfl ?_
        refine V.callVp (As := [.ref lo, .int x, .int (nI t)]) (rest := []) [1, 2, 3, 4, 5, 6] (c_Tells_fit E l L _ to tS tV tM n fM lo lt lr lw m wa lp wf K sf tk tv x ((nI t)) (hn) (hm) (htk) (fun b hb => hK b (List.mem_append_left [a] hb)) (hSh.over (vw := [(a, ob 9 [.ref tx, .ref lo, .ref no, .ref to, .ref pa, .int pe, .int un, .ref ke, .ref ik, .ref sc, .ref w, .ref bp, .ref ac, .ref br, .int bs, .int bm]), (to, ob 6 [.ref tS, .ref tV, .ref tM, .int (nI n)]), (tS, aI E 6 (fun j => nI (tk j))), (tV, aI E 6 (fun j => nI (tv j))), (tM, aI E 6 fM), (lo, ob 1 [.ref lt, .ref lr, .ref lw, .int (nI m), .int wa, .int lp]), (lw, aS E 6 wf)]) (fun b hb => hK b (by simp only [List.map, List.mem_cons, List.not_mem_nil, or_false] at hb ⊢; rcases hb with e | e | e | e | e | e | e <;> simp [e])))) rfl (by decide) mi_X7_fit 1 rfl rfl w_683 w_684 w_685 rfl rfl (Nat.le_of_ble_eq_true rfl) ⟨by decide, by decide⟩ ⟨by decide, by decide⟩ dX10_smallest_30 (vw2 := fun _ => [(a, ob 9 [.ref tx, .ref lo, .ref no, .ref to, .ref pa, .int pe, .int un, .ref ke, .ref ik, .ref sc, .ref w, .ref bp, .ref ac, .ref br, .int bs, .int bm]), (to, ob 6 [.ref tS, .ref tV, .ref tM, .int (nI n)]), (tS, aI E 6 (fun j => nI (tk j))), (tV, aI E 6 (fun j => nI (tv j))), (tM, aI E 6 fM), (lo, ob 1 [.ref lt, .ref lr, .ref lw, .int (nI m), .int wa, .int lp]), (lw, aS E 6 wf)]) (st2 := fun _ => [.int (boolI (∀ i, i < n → tellFits sf tk tv fM x (nI t) i))]) (fun _ => rfl) (fun _ => rfl) (fun _ => rfl) (fun _ _ => ?_)
        refine V.if_eq (tgt := 38) dX10_smallest_33 (by decide) (fun c2_33 => ?_) (fun c2_33 => ?_)
        · skip
          have hno : ¬ (fun t => ∀ i, i < n → tellFits sf tk tv fM x (nI t) i) t := fun hh => absurd ((boolI_t hh).symm.trans c2_33) (by decide)
          refine V.iinc (v := (nI (t + 1))) (lv2 := [(2, .int (nI (t + 1))), (0, .ref a), (1, .int x)]) dX10_smallest_38 2 rfl (nI_1 _) (by decide) rfl ?_
          refine V.goto (tgt := 14) dX10_smallest_41 (by decide) ?_
          refine V.locals [1, 2, 0] (by rfl) ?_
          exact ih_14 (t + 1) (by omega) (by rw [← hinv, show 10 - t = (10 - (t + 1)) + 1 by omega, small9, cI_f hno]) (by omega)
        · skip
          have hyes : (fun t => ∀ i, i < n → tellFits sf tk tv fM x (nI t) i) t := Classical.byContradiction (fun hh => c2_33 (boolI_f hh))
          refine V.iload_n dX10_smallest_36 2 rfl ?_
          subst hZ
          exact V.iret rfl dX10_smallest_37 (⟨(), by rw [← hinv, show 10 - t = (10 - (t + 1)) + 1 by omega, small9, cI_t hyes], rfl, rfl, trivial⟩)
  exact lp_14 (11) 0 (by omega) rfl (by omega)
