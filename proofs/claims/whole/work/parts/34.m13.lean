set_option maxHeartbeats 4000000 in
set_option maxRecDepth 100000 in
theorem c_RL_allShops (E : vEnv) (l : Launch) (L : List Nat) (h : Nat → va_E) (a : Nat) (tx : Nat) (lo : Nat) (no : Nat) (to : Nat) (pa : Nat) (ke : Nat) (ik : Nat) (sc : Nat) (w : Nat) (bp : Nat) (ac : Nat) (br : Nat) (pe : Int32) (un : Int32) (bs : Int32) (bm : Int32) (lt : Nat) (lr : Nat) (lw : Nat) (m : Nat) (wa : Int32) (lp : Int32) (hm : m < 7) : CT E l yX10_allShops cX10_allShops 1 (some (.int)) 0 0 0 L h [(a, ob 9 [.ref tx, .ref lo, .ref no, .ref to, .ref pa, .int pe, .int un, .ref ke, .ref ik, .ref sc, .ref w, .ref bp, .ref ac, .ref br, .int bs, .int bm]), (lo, ob 1 [.ref lt, .ref lr, .ref lw, .int (nI m), .int wa, .int lp])] [.ref a] (qP L h (fun (_ : Unit) => [(a, ob 9 [.ref tx, .ref lo, .ref no, .ref to, .ref pa, .int pe, .int un, .ref ke, .ref ik, .ref sc, .ref w, .ref bp, .ref ac, .ref br, .int bs, .int bm]), (lo, ob 1 [.ref lt, .ref lr, .ref lw, .int (nI m), .int wa, .int lp])]) (fun _ => some (.int (nI (2 ^ m - 1)))) (fun _ => True)) := by
  refine CT.ofV (by decide +kernel) (Nat.le_of_ble_eq_true rfl) ?_
  refine V.locals2 (lv2 := [(0, .ref a)]) rfl ?_
  refine V.iconst (v := 1) dX10_allShops_0 (by decide) ?_
  refine V.aload_n dX10_allShops_1 0 rfl ?_
  refine V.getf 0 1 rfl fa_X10_19_9 rfl dX10_allShops_2 ?_
  refine V.getf 1 3 rfl fa_X10_89_1 rfl dX10_allShops_5 ?_
  refine V.ishl dX10_allShops_8 ?_
  refine V.iconst (v := 1) dX10_allShops_9 (by decide) ?_
  refine V.isub dX10_allShops_10 ?_
  refine V.topc (v := (nI (2 ^ m - 1))) (allI m hm) ?_
  exact V.iret rfl dX10_allShops_11 (⟨(), rfl, rfl, rfl, trivial⟩)

set_option maxHeartbeats 4000000 in
set_option maxRecDepth 100000 in
theorem c_RL_isSet (E : vEnv) (l : Launch) (L : List Nat) (h : Nat → va_E) (a : Nat) (tx : Nat) (lo : Nat) (no : Nat) (to : Nat) (pa : Nat) (ke : Nat) (ik : Nat) (sc : Nat) (w : Nat) (bp : Nat) (ac : Nat) (br : Nat) (pe : Int32) (un : Int32) (bs : Int32) (bm : Int32) (lt : Nat) (lr : Nat) (lw : Nat) (m : Nat) (wa : Int32) (lp : Int32) (x : Int32) (hm : m < 7) : CT E l yX10_isSet cX10_isSet 2 (some (.boolean)) 1 0 0 L h [(a, ob 9 [.ref tx, .ref lo, .ref no, .ref to, .ref pa, .int pe, .int un, .ref ke, .ref ik, .ref sc, .ref w, .ref bp, .ref ac, .ref br, .int bs, .int bm]), (lo, ob 1 [.ref lt, .ref lr, .ref lw, .int (nI m), .int wa, .int lp])] [.ref a, .int x] (qP L h (fun (_ : Unit) => [(a, ob 9 [.ref tx, .ref lo, .ref no, .ref to, .ref pa, .int pe, .int un, .ref ke, .ref ik, .ref sc, .ref w, .ref bp, .ref ac, .ref br, .int bs, .int bm]), (lo, ob 1 [.ref lt, .ref lr, .ref lw, .int (nI m), .int wa, .int lp])]) (fun _ => some (.int (withinI x 0 (nI (2 ^ m - 1))))) (fun _ => True)) := by
  refine CT.ofV (by decide +kernel) (Nat.le_of_ble_eq_true rfl) ?_
  refine V.locals2 (lv2 := [(0, .ref a), (1, .int x)]) rfl ?_
  refine V.iload_n dX10_isSet_0 1 rfl ?_
  refine V.iconst (v := 0) dX10_isSet_1 (by decide) ?_
  refine V.aload_n dX10_isSet_2 0 rfl ?_
  refine V.callVp (As := []) (rest := [.int 0, .int x]) [0, 1] (c_RL_allShops E l L _ a tx lo no to pa ke ik sc w bp ac br pe un bs bm lt lr lw m wa lp (by assumption)) rfl (by decide) mi_X10_allShops 0 rfl rfl w_587 w_589 wp_2 rfl rfl (Nat.le_of_ble_eq_true rfl) ⟨by decide, by decide⟩ ⟨by decide, by decide⟩ dX10_isSet_3 (vw2 := fun _ => [(a, ob 9 [.ref tx, .ref lo, .ref no, .ref to, .ref pa, .int pe, .int un, .ref ke, .ref ik, .ref sc, .ref w, .ref bp, .ref ac, .ref br, .int bs, .int bm]), (lo, ob 1 [.ref lt, .ref lr, .ref lw, .int (nI m), .int wa, .int lp])]) (st2 := fun _ => [.int (nI (2 ^ m - 1)), .int 0, .int x]) (fun _ => rfl) (fun _ => rfl) (fun _ => rfl) (fun _ _ => ?_)
  refine V.callSp (As := [.int x, .int 0, .int (nI (2 ^ m - 1))]) (rest := []) [] (c_within E l L _ x 0 ((nI (2 ^ m - 1)))) rfl (by decide) mi_X10_isWithin w_267 w_268 rfl rfl (Nat.le_of_ble_eq_true rfl) ⟨by decide, by decide⟩ ⟨by decide, by decide⟩ dX10_isSet_6 (vw2 := fun _ => [(a, ob 9 [.ref tx, .ref lo, .ref no, .ref to, .ref pa, .int pe, .int un, .ref ke, .ref ik, .ref sc, .ref w, .ref bp, .ref ac, .ref br, .int bs, .int bm]), (lo, ob 1 [.ref lt, .ref lr, .ref lw, .int (nI m), .int wa, .int lp])]) (st2 := fun _ => [.int (withinI x 0 (nI (2 ^ m - 1)))]) (fun _ => rfl) (fun _ => rfl) (fun _ => rfl) (fun _ _ => ?_)
  exact V.zret rfl (by rcases withinI_01 x 0 (nI (2 ^ m - 1)) with e | e <;> rw [e] <;> rfl) dX10_isSet_9 (⟨(), rfl, rfl, rfl, trivial⟩)

set_option maxHeartbeats 4000000 in
set_option maxRecDepth 100000 in
theorem c_RL_remember (E : vEnv) (l : Launch) (L : List Nat) (h : Nat → va_E) (a : Nat) (tx : Nat) (lo : Nat) (no : Nat) (to : Nat) (pa : Nat) (ke : Nat) (ik : Nat) (sc : Nat) (w : Nat) (bp : Nat) (ac : Nat) (br : Nat) (bs : Int32) (bm : Int32) (tno : Nat) (s : NS) (an : Nat → Nat) (tn : Nat → Nat) (KV : Nat → Prop) (f : Nat → NS) (p : Nat) (u : Nat) (hp : p < 8) (hu : u ≤ 8) (hD : FD L KV an tn 8) (hF : FN E an tn 8 f h) (hbs : s.2.2.2.2.2.2.2 = 0 ∨ s.2.2.2.2.2.2.2 = 1) (hK : ∀ b ∈ [a, no, tno, pa], KV b) : CT E l yX10_remember cX10_remember 1 none 3 0 0 L h [(a, ob 9 [.ref tx, .ref lo, .ref no, .ref to, .ref pa, .int (nI p), .int (nI u), .ref ke, .ref ik, .ref sc, .ref w, .ref bp, .ref ac, .ref br, .int bs, .int bm]), (no, ob 3 [.ref tno, .int s.2.1, .int s.2.2.1, .int s.2.2.2.1, .int s.2.2.2.2.1, .int s.2.2.2.2.2.1, .int s.2.2.2.2.2.2.1, .int s.2.2.2.2.2.2.2]), (tno, aI E 4 s.1), (pa, aN E 8 (fun j => some (an j)))] [.ref a] (qG L h (inF an tn 8) (fun (g : Nat → va_E) => g) (fun (g : Nat → va_E) => [(a, ob 9 [.ref tx, .ref lo, .ref no, .ref to, .ref pa, .int (nI ((p + 1) % 8)), .int (nI (min 8 (u + 1))), .ref ke, .ref ik, .ref sc, .ref w, .ref bp, .ref ac, .ref br, .int bs, .int bm]), (no, ob 3 [.ref tno, .int s.2.1, .int s.2.2.1, .int s.2.2.2.1, .int s.2.2.2.2.1, .int s.2.2.2.2.2.1, .int s.2.2.2.2.2.2.1, .int s.2.2.2.2.2.2.2]), (tno, aI E 4 s.1), (pa, aN E 8 (fun j => some (an j)))]) (fun g => none) (fun g => FN E an tn 8 (va_up f p s) g)) := by
  refine CT.ofV (by decide +kernel) (Nat.le_of_ble_eq_true rfl) ?_
  refine V.locals2 (lv2 := [(0, .ref a)]) rfl ?_
  refine V.aload_n dX10_remember_0 0 rfl ?_
  refine V.getf 0 4 rfl fa_X10_37_9 rfl dX10_remember_1 ?_
  refine V.aload_n dX10_remember_4 0 rfl ?_
  refine V.getf 0 5 rfl fa_X10_192_9 rfl dX10_remember_5 ?_
  refine V.aldN 3 rfl (vinI (by omega)) dX10_remember_8 ?_
  refine V.stack (st2 := [.ref (an p)]) (by rw [nI_clamp (by omega)]; rfl) ?_
  refine V.aload_n dX10_remember_9 0 rfl ?_
  refine V.getf 0 2 rfl fa_X10_26_9 rfl dX10_remember_10 ?_
  refine V.mixIn (inF an tn 8) ?_
  refine V.seeF ((tn p)) (e := aI E 4 (f p).1) ((hD.2.2.2 p hp).2.1) (fun hm => hD.off (hK _ hm) (inF_t hp)) (inF_t hp) ((hF p hp).2) ?_
  refine V.seeF ((an p)) (e := ob 3 [.ref (tn p), .int (f p).2.1, .int (f p).2.2.1, .int (f p).2.2.2.1, .int (f p).2.2.2.2.1, .int (f p).2.2.2.2.2.1, .int (f p).2.2.2.2.2.2.1, .int (f p).2.2.2.2.2.2.2]) ((hD.2.2.2 p hp).1) (nin_app (fun hm => hD.off (hK _ hm) (inF_a hp)) (hD.2.2.1 p p hp hp)) (inF_a hp) ((hF p hp).1) ?_
  refine V.view (vw2 := [(a, ob 9 [.ref tx, .ref lo, .ref no, .ref to, .ref pa, .int (nI p), .int (nI u), .ref ke, .ref ik, .ref sc, .ref w, .ref bp, .ref ac, .ref br, .int bs, .int bm]), (no, ob 3 [.ref tno, .int s.2.1, .int s.2.2.1, .int s.2.2.2.1, .int s.2.2.2.2.1, .int s.2.2.2.2.2.1, .int s.2.2.2.2.2.2.1, .int s.2.2.2.2.2.2.2]), (tno, aI E 4 s.1), (pa, aN E 8 (fun j => some (an j))), ((tn p), aI E 4 (f p).1), ((an p), ob 3 [.ref (tn p), .int (f p).2.1, .int (f p).2.2.1, .int (f p).2.2.2.1, .int (f p).2.2.2.2.1, .int (f p).2.2.2.2.2.1, .int (f p).2.2.2.2.2.2.1, .int (f p).2.2.2.2.2.2.2])]) (L2 := L) rfl rfl ?_
  refine V.callVp (As := [.ref no]) (rest := []) [5, 4, 1, 2] (c_Nose_copy E l L _ ((an p)) ((tn p)) ((f p)) no tno s (hbs)) rfl (by decide) mi_X3_copy 5 rfl rfl w_526 w_527 w_528 rfl rfl (Nat.le_of_ble_eq_true rfl) ⟨by decide, by decide⟩ ⟨by decide, by decide⟩ dX10_remember_13 (vw2 := fun _ => [(a, ob 9 [.ref tx, .ref lo, .ref no, .ref to, .ref pa, .int (nI p), .int (nI u), .ref ke, .ref ik, .ref sc, .ref w, .ref bp, .ref ac, .ref br, .int bs, .int bm]), (no, ob 3 [.ref tno, .int s.2.1, .int s.2.2.1, .int s.2.2.2.1, .int s.2.2.2.2.1, .int s.2.2.2.2.2.1, .int s.2.2.2.2.2.2.1, .int s.2.2.2.2.2.2.2]), (tno, aI E 4 s.1), (pa, aN E 8 (fun j => some (an j))), ((tn p), aI E 4 s.1), ((an p), ob 3 [.ref (tn p), .int s.2.1, .int s.2.2.1, .int s.2.2.2.1, .int s.2.2.2.2.1, .int s.2.2.2.2.2.1, .int s.2.2.2.2.2.2.1, .int s.2.2.2.2.2.2.2])]) (st2 := fun _ => []) (fun _ => rfl) (fun _ => rfl) (fun _ => rfl) (fun _ _ => ?_)
  refine V.sinkF (vw := [(a, ob 9 [.ref tx, .ref lo, .ref no, .ref to, .ref pa, .int (nI p), .int (nI u), .ref ke, .ref ik, .ref sc, .ref w, .ref bp, .ref ac, .ref br, .int bs, .int bm]), (no, ob 3 [.ref tno, .int s.2.1, .int s.2.2.1, .int s.2.2.2.1, .int s.2.2.2.2.1, .int s.2.2.2.2.2.1, .int s.2.2.2.2.2.2.1, .int s.2.2.2.2.2.2.2]), (tno, aI E 4 s.1), (pa, aN E 8 (fun j => some (an j))), ((tn p), aI E 4 s.1)]) (a := (an p)) (e := ob 3 [.ref (tn p), .int s.2.1, .int s.2.2.1, .int s.2.2.2.1, .int s.2.2.2.2.1, .int s.2.2.2.2.2.1, .int s.2.2.2.2.2.2.1, .int s.2.2.2.2.2.2.2]) (inF_a hp) ?_
  refine V.sinkF (vw := [(a, ob 9 [.ref tx, .ref lo, .ref no, .ref to, .ref pa, .int (nI p), .int (nI u), .ref ke, .ref ik, .ref sc, .ref w, .ref bp, .ref ac, .ref br, .int bs, .int bm]), (no, ob 3 [.ref tno, .int s.2.1, .int s.2.2.1, .int s.2.2.2.1, .int s.2.2.2.2.1, .int s.2.2.2.2.2.1, .int s.2.2.2.2.2.2.1, .int s.2.2.2.2.2.2.2]), (tno, aI E 4 s.1), (pa, aN E 8 (fun j => some (an j)))]) (a := (tn p)) (e := aI E 4 s.1) (inF_t hp) ?_
  refine V.aload_n dX10_remember_16 0 rfl ?_
  refine V.aload_n dX10_remember_17 0 rfl ?_
  refine V.getf 0 5 rfl fa_X10_192_9 rfl dX10_remember_18 ?_
  refine V.iconst (v := 1) dX10_remember_21 (by decide) ?_
  refine V.iadd dX10_remember_22 ?_
  refine V.topc (v := (nI (p + 1))) (nI_1 p) ?_
  refine V.bipush (v := 8) dX10_remember_23 (by decide) ?_
  refine V.irem dX10_remember_25 (by decide) ?_
  refine V.topc (v := (nI ((p + 1) % 8))) (rem8 hp) ?_
  refine V.putf 0 5 (vw2 := [(a, ob 9 [.ref tx, .ref lo, .ref no, .ref to, .ref pa, .int (nI ((p + 1) % 8)), .int (nI u), .ref ke, .ref ik, .ref sc, .ref w, .ref bp, .ref ac, .ref br, .int bs, .int bm]), (no, ob 3 [.ref tno, .int s.2.1, .int s.2.2.1, .int s.2.2.2.1, .int s.2.2.2.2.1, .int s.2.2.2.2.2.1, .int s.2.2.2.2.2.2.1, .int s.2.2.2.2.2.2.2]), (tno, aI E 4 s.1), (pa, aN E 8 (fun j => some (an j)))]) rfl fp_X10_192_9 rfl rfl (Nat.le_of_ble_eq_true rfl) rfl dX10_remember_26 ?_
  refine V.aload_n dX10_remember_29 0 rfl ?_
  refine V.bipush (v := 8) dX10_remember_30 (by decide) ?_
  refine V.aload_n dX10_remember_32 0 rfl ?_
  refine V.getf 0 6 rfl fa_X10_121_9 rfl dX10_remember_33 ?_
  refine V.iconst (v := 1) dX10_remember_36 (by decide) ?_
  refine V.iadd dX10_remember_37 ?_
  refine V.topc (v := (nI (u + 1))) (nI_1 u) ?_
  refine V.mmin w_514 (Nat.le_of_ble_eq_true rfl) ⟨by decide, by decide⟩ ⟨by decide, by decide⟩ dX10_remember_38 ?_
  refine V.topc (v := (nI (min 8 (u + 1)))) (min8 hu) ?_
  refine V.putf 0 6 (vw2 := [(a, ob 9 [.ref tx, .ref lo, .ref no, .ref to, .ref pa, .int (nI ((p + 1) % 8)), .int (nI (min 8 (u + 1))), .ref ke, .ref ik, .ref sc, .ref w, .ref bp, .ref ac, .ref br, .int bs, .int bm]), (no, ob 3 [.ref tno, .int s.2.1, .int s.2.2.1, .int s.2.2.2.1, .int s.2.2.2.2.1, .int s.2.2.2.2.2.1, .int s.2.2.2.2.2.2.1, .int s.2.2.2.2.2.2.2]), (tno, aI E 4 s.1), (pa, aN E 8 (fun j => some (an j)))]) rfl fp_X10_121_9 rfl rfl (Nat.le_of_ble_eq_true rfl) rfl dX10_remember_41 ?_
  exact V.vret rfl dX10_remember_44 (⟨(va_up (va_up h ((an p)) (ob 3 [.ref (tn p), .int s.2.1, .int s.2.2.1, .int s.2.2.2.1, .int s.2.2.2.2.1, .int s.2.2.2.2.2.1, .int s.2.2.2.2.2.2.1, .int s.2.2.2.2.2.2.2])) ((tn p)) (aI E 4 s.1)), rfl, rfl, rfl, hF.set hD (j := p) hp s⟩)

set_option maxHeartbeats 4000000 in
set_option maxRecDepth 100000 in
theorem c_RL_gcd (E : vEnv) (l : Launch) (L : List Nat) (h : Nat → va_E) (b1 : Nat) (b2 : Nat) (h1 : b1 < 2 ^ 30) (h2 : b2 ≤ 720) : CT E l yX10_commonDivisor cX10_commonDivisor 6 (some (.int)) 0 0 0 L h [] [.int (nI b1), .int (nI b2)] (qP L h (fun (_ : Unit) => []) (fun _ => some (.int (nI (Nat.gcd b1 b2)))) (fun _ => True)) := by
  refine CT.ofV (by decide +kernel) (Nat.le_of_ble_eq_true rfl) ?_
  obtain ⟨Z, hZ⟩ : ∃ Z, Z = mZ E (qP L h (fun (_ : Unit) => []) (fun _ => some (.int (nI (Nat.gcd b1 b2)))) (fun _ => True)) 0 0 := ⟨_, rfl⟩
  rw [← hZ]
  refine V.locals2 (lv2 := [(0, .int (nI b1)), (1, .int (nI b2))]) rfl ?_
  refine V.iload_n dX10_commonDivisor_0 0 rfl ?_
  refine V.istore_n (lv2 := [(2, .int (nI b1)), (0, .int (nI b1)), (1, .int (nI b2))]) dX10_commonDivisor_1 rfl (by decide) rfl ?_
  refine V.iload_n dX10_commonDivisor_2 2 rfl ?_
  refine V.istore_n (lv2 := [(3, .int (nI b2)), (2, .int (nI b1)), (0, .int (nI b1)), (1, .int (nI b2))]) dX10_commonDivisor_3 rfl (by decide) rfl ?_
  refine V.iconst (v := 0) dX10_commonDivisor_4 (by decide) ?_
  refine V.istore (lv2 := [(4, .int 0), (3, .int (nI b2)), (2, .int (nI b1)), (0, .int (nI b1)), (1, .int (nI b2))]) dX10_commonDivisor_5 (by decide) rfl ?_
  refine V.locals [2, 1, 0] (by rfl) ?_
  have lp_7 : ∀ (fuel : Nat) (x : Nat) (z : Nat) (n : Nat) (hx : x < 2 ^ 30) (hzn : z + n ≤ 720) (hg : Nat.gcd x z = Nat.gcd b1 b2) (hf : 720 < n + fuel), V E l yX10_commonDivisor cX10_commonDivisor 6 (some (.int)) (rmk 0 0 0) Z L h 0 0 [] 7 [(2, .int (nI x)), (3, .int (nI z)), (4, .int (nI n))] [] := by
    intro fuel
    induction fuel with
    | zero =>
      intro x z n hx hzn hg hf
      exfalso; omega
    | succ fuel ih_7 =>
      intro x z n hx hzn hg hf
      refine V.iload dX10_commonDivisor_7 2 rfl ?_
      refine V.sipush (v := 720) dX10_commonDivisor_9 (by decide) ?_
      refine V.icmp_ge (tgt := 35) dX10_commonDivisor_12 (by decide) (fun c1_12 => ?_) (fun c1_12 => ?_)
      · skip
        have hz0 : z = 0 := by have := (nI_leI (a := 720) (by omega) (by omega)).mp c1_12; omega
        refine V.iload_n dX10_commonDivisor_35 0 rfl ?_
        subst hZ
        exact V.iret rfl dX10_commonDivisor_36 (⟨(), by subst hz0; rw [← hg, Nat.gcd_zero_right], rfl, rfl, trivial⟩)
      · skip
        refine V.iload_n dX10_commonDivisor_15 1 rfl ?_
        refine V.if_eq (tgt := 35) dX10_commonDivisor_16 (by decide) (fun c2_16 => ?_) (fun c2_16 => ?_)
        · skip
          have hz0 : z = 0 := (nI_eq (b := 0) (by omega) (by omega)).mp c2_16
          refine V.iload_n dX10_commonDivisor_35 0 rfl ?_
          subst hZ
          exact V.iret rfl dX10_commonDivisor_36 (⟨(), by subst hz0; rw [← hg, Nat.gcd_zero_right], rfl, rfl, trivial⟩)
        · skip
          have hz1 : 0 < z := Nat.pos_of_ne_zero (fun hh => c2_16 (by rw [hh]; rfl))
          have hml := Nat.mod_lt x hz1
          refine V.iload_n dX10_commonDivisor_19 0 rfl ?_
          refine V.iload_n dX10_commonDivisor_20 1 rfl ?_
          refine V.irem dX10_commonDivisor_21 (fun hh => absurd ((nI_eq (b := 0) (by omega) (by omega)).mp hh) (by omega)) ?_
          refine V.topc (v := (nI (x % z))) (pk_rem (by omega) (by omega) (by omega)) ?_
          refine V.istore (lv2 := [(5, .int (nI (x % z))), (2, .int (nI x)), (3, .int (nI z)), (4, .int (nI n))]) dX10_commonDivisor_22 (by decide) rfl ?_
          refine V.iload_n dX10_commonDivisor_24 2 rfl ?_
          refine V.istore_n (lv2 := [(2, .int (nI z)), (5, .int (nI (x % z))), (3, .int (nI z)), (4, .int (nI n))]) dX10_commonDivisor_25 rfl (by decide) rfl ?_
          refine V.iload dX10_commonDivisor_26 1 rfl ?_
          refine V.istore_n (lv2 := [(3, .int (nI (x % z))), (2, .int (nI z)), (5, .int (nI (x % z))), (4, .int (nI n))]) dX10_commonDivisor_28 rfl (by decide) rfl ?_
          refine V.iinc (v := (nI (n + 1))) (lv2 := [(4, .int (nI (n + 1))), (3, .int (nI (x % z))), (2, .int (nI z)), (5, .int (nI (x % z)))]) dX10_commonDivisor_29 3 rfl (nI_1 _) (by decide) rfl ?_
          refine V.goto (tgt := 7) dX10_commonDivisor_32 (by decide) ?_
          refine V.locals [2, 1, 0] (by rfl) ?_
          exact ih_7 z (x % z) (n + 1) (by omega) (by omega) (gcd_step.trans hg) (by omega)
  exact lp_7 (721) b1 b2 0 h1 (by omega) rfl (by omega)

set_option maxHeartbeats 4000000 in
set_option maxRecDepth 100000 in
theorem c_RL_isOfKind_0 (E : vEnv) (l : Launch) (L : List Nat) (h : Nat → va_E) (q : Nat) (so : Int32) (sg : Int32) (pr : Int32) (x : Int32) : CT E l yX10_isOfKind cX10_isOfKind 2 (some (.boolean)) 0 0 0 L h [(q, ob 5 [.int so, .int sg, .int pr])] [.ref q, .int x] (qP L h (fun (_ : Unit) => [(q, ob 5 [.int so, .int sg, .int pr])]) (fun _ => some (.int (ofKindI 0 x))) (fun _ => True)) := by
  refine CT.ofV (by decide +kernel) (Nat.le_of_ble_eq_true rfl) ?_
  refine V.locals2 (lv2 := [(0, .ref q), (1, .int x)]) rfl ?_
  refine V.iload_n dX10_isOfKind_0 1 rfl ?_
  by_cases e1_0 : x = 0
  · refine V.topc e1_0 ?_
    refine V.tableIn (tgt := 36) (off := 35) dX10_isOfKind_1 (by decide) (by decide) (by decide) (by decide) ?_
    refine V.iconst (v := 1) dX10_isOfKind_36 (by decide) ?_
    exact V.zret rfl (rfl) dX10_isOfKind_37 (⟨(), by unfold ofKindI; rw [if_pos e1_0] <;> rfl, rfl, rfl, trivial⟩)
  by_cases e1_1 : x = 1
  · refine V.topc e1_1 ?_
    refine V.tableIn (tgt := 38) (off := 37) dX10_isOfKind_1 (by decide) (by decide) (by decide) (by decide) ?_
    refine V.aload_n dX10_isOfKind_38 0 rfl ?_
    refine V.instE 0 rfl rfl w_492 dX10_isOfKind_39 ?_
    exact V.zret rfl (rfl) dX10_isOfKind_42 (⟨(), by unfold ofKindI; rw [if_neg e1_0, if_pos e1_1] <;> rfl, rfl, rfl, trivial⟩)
  by_cases e1_2 : x = 2
  · refine V.topc e1_2 ?_
    refine V.tableIn (tgt := 43) (off := 42) dX10_isOfKind_1 (by decide) (by decide) (by decide) (by decide) ?_
    refine V.aload_n dX10_isOfKind_43 0 rfl ?_
    refine V.instNo 0 rfl rfl w_493 (by decide) dX10_isOfKind_44 ?_
    exact V.zret rfl (rfl) dX10_isOfKind_47 (⟨(), by unfold ofKindI; rw [if_neg e1_0, if_neg e1_1, if_pos e1_2] <;> rfl, rfl, rfl, trivial⟩)
  by_cases e1_3 : x = 3
  · refine V.topc e1_3 ?_
    refine V.tableIn (tgt := 48) (off := 47) dX10_isOfKind_1 (by decide) (by decide) (by decide) (by decide) ?_
    refine V.aload_n dX10_isOfKind_48 0 rfl ?_
    refine V.instNo 0 rfl rfl w_187 (by decide) dX10_isOfKind_49 ?_
    exact V.zret rfl (rfl) dX10_isOfKind_52 (⟨(), by unfold ofKindI; rw [if_neg e1_0, if_neg e1_1, if_neg e1_2, if_pos e1_3] <;> rfl, rfl, rfl, trivial⟩)
  by_cases e1_4 : x = 4
  · refine V.topc e1_4 ?_
    refine V.tableIn (tgt := 53) (off := 52) dX10_isOfKind_1 (by decide) (by decide) (by decide) (by decide) ?_
    refine V.aload_n dX10_isOfKind_53 0 rfl ?_
    refine V.instNo 0 rfl rfl w_494 (by decide) dX10_isOfKind_54 ?_
    exact V.zret rfl (rfl) dX10_isOfKind_57 (⟨(), by unfold ofKindI; rw [if_neg e1_0, if_neg e1_1, if_neg e1_2, if_neg e1_3, if_pos e1_4] <;> rfl, rfl, rfl, trivial⟩)
  refine V.tableOut (tgt := 58) dX10_isOfKind_1 (sw_out 4 (by omega) (fun j hj => by rcases (show j = 0 ∨ j = 1 ∨ j = 2 ∨ j = 3 ∨ j = 4 by omega) with rfl | rfl | rfl | rfl | rfl <;> assumption)) (by decide) ?_
  refine V.iconst (v := 0) dX10_isOfKind_58 (by decide) ?_
  exact V.zret rfl (rfl) dX10_isOfKind_59 (⟨(), by unfold ofKindI; rw [if_neg e1_0, if_neg e1_1, if_neg e1_2, if_neg e1_3, if_neg e1_4] <;> rfl, rfl, rfl, trivial⟩)

set_option maxHeartbeats 4000000 in
set_option maxRecDepth 100000 in
theorem c_RL_isOfKind_1 (E : vEnv) (l : Launch) (L : List Nat) (h : Nat → va_E) (q : Nat) (so : Int32) (sg : Int32) (pr : Int32) (x : Int32) : CT E l yX10_isOfKind cX10_isOfKind 2 (some (.boolean)) 0 0 0 L h [(q, ob 2 [.int so, .int sg, .int pr])] [.ref q, .int x] (qP L h (fun (_ : Unit) => [(q, ob 2 [.int so, .int sg, .int pr])]) (fun _ => some (.int (ofKindI 1 x))) (fun _ => True)) := by
  refine CT.ofV (by decide +kernel) (Nat.le_of_ble_eq_true rfl) ?_
  refine V.locals2 (lv2 := [(0, .ref q), (1, .int x)]) rfl ?_
  refine V.iload_n dX10_isOfKind_0 1 rfl ?_
  by_cases e1_0 : x = 0
  · refine V.topc e1_0 ?_
    refine V.tableIn (tgt := 36) (off := 35) dX10_isOfKind_1 (by decide) (by decide) (by decide) (by decide) ?_
    refine V.iconst (v := 1) dX10_isOfKind_36 (by decide) ?_
    exact V.zret rfl (rfl) dX10_isOfKind_37 (⟨(), by unfold ofKindI; rw [if_pos e1_0] <;> rfl, rfl, rfl, trivial⟩)
  by_cases e1_1 : x = 1
  · refine V.topc e1_1 ?_
    refine V.tableIn (tgt := 38) (off := 37) dX10_isOfKind_1 (by decide) (by decide) (by decide) (by decide) ?_
    refine V.aload_n dX10_isOfKind_38 0 rfl ?_
    refine V.instY 0 rfl rfl w_492 (by decide) dX10_isOfKind_39 ?_
    exact V.zret rfl (rfl) dX10_isOfKind_42 (⟨(), by unfold ofKindI; rw [if_neg e1_0, if_pos e1_1] <;> rfl, rfl, rfl, trivial⟩)
  by_cases e1_2 : x = 2
  · refine V.topc e1_2 ?_
    refine V.tableIn (tgt := 43) (off := 42) dX10_isOfKind_1 (by decide) (by decide) (by decide) (by decide) ?_
    refine V.aload_n dX10_isOfKind_43 0 rfl ?_
    refine V.instE 0 rfl rfl w_493 dX10_isOfKind_44 ?_
    exact V.zret rfl (rfl) dX10_isOfKind_47 (⟨(), by unfold ofKindI; rw [if_neg e1_0, if_neg e1_1, if_pos e1_2] <;> rfl, rfl, rfl, trivial⟩)
  by_cases e1_3 : x = 3
  · refine V.topc e1_3 ?_
    refine V.tableIn (tgt := 48) (off := 47) dX10_isOfKind_1 (by decide) (by decide) (by decide) (by decide) ?_
    refine V.aload_n dX10_isOfKind_48 0 rfl ?_
    refine V.instNo 0 rfl rfl w_187 (by decide) dX10_isOfKind_49 ?_
    exact V.zret rfl (rfl) dX10_isOfKind_52 (⟨(), by unfold ofKindI; rw [if_neg e1_0, if_neg e1_1, if_neg e1_2, if_pos e1_3] <;> rfl, rfl, rfl, trivial⟩)
  by_cases e1_4 : x = 4
  · refine V.topc e1_4 ?_
    refine V.tableIn (tgt := 53) (off := 52) dX10_isOfKind_1 (by decide) (by decide) (by decide) (by decide) ?_
    refine V.aload_n dX10_isOfKind_53 0 rfl ?_
    refine V.instNo 0 rfl rfl w_494 (by decide) dX10_isOfKind_54 ?_
    exact V.zret rfl (rfl) dX10_isOfKind_57 (⟨(), by unfold ofKindI; rw [if_neg e1_0, if_neg e1_1, if_neg e1_2, if_neg e1_3, if_pos e1_4] <;> rfl, rfl, rfl, trivial⟩)
  refine V.tableOut (tgt := 58) dX10_isOfKind_1 (sw_out 4 (by omega) (fun j hj => by rcases (show j = 0 ∨ j = 1 ∨ j = 2 ∨ j = 3 ∨ j = 4 by omega) with rfl | rfl | rfl | rfl | rfl <;> assumption)) (by decide) ?_
  refine V.iconst (v := 0) dX10_isOfKind_58 (by decide) ?_
  exact V.zret rfl (rfl) dX10_isOfKind_59 (⟨(), by unfold ofKindI; rw [if_neg e1_0, if_neg e1_1, if_neg e1_2, if_neg e1_3, if_neg e1_4] <;> rfl, rfl, rfl, trivial⟩)

set_option maxHeartbeats 4000000 in
set_option maxRecDepth 100000 in
theorem c_RL_isOfKind_2 (E : vEnv) (l : Launch) (L : List Nat) (h : Nat → va_E) (q : Nat) (so : Int32) (sg : Int32) (pr : Int32) (x : Int32) : CT E l yX10_isOfKind cX10_isOfKind 2 (some (.boolean)) 0 0 0 L h [(q, ob 0 [.int so, .int sg, .int pr])] [.ref q, .int x] (qP L h (fun (_ : Unit) => [(q, ob 0 [.int so, .int sg, .int pr])]) (fun _ => some (.int (ofKindI 2 x))) (fun _ => True)) := by
  refine CT.ofV (by decide +kernel) (Nat.le_of_ble_eq_true rfl) ?_
  refine V.locals2 (lv2 := [(0, .ref q), (1, .int x)]) rfl ?_
  refine V.iload_n dX10_isOfKind_0 1 rfl ?_
  by_cases e1_0 : x = 0
  · refine V.topc e1_0 ?_
    refine V.tableIn (tgt := 36) (off := 35) dX10_isOfKind_1 (by decide) (by decide) (by decide) (by decide) ?_
    refine V.iconst (v := 1) dX10_isOfKind_36 (by decide) ?_
    exact V.zret rfl (rfl) dX10_isOfKind_37 (⟨(), by unfold ofKindI; rw [if_pos e1_0] <;> rfl, rfl, rfl, trivial⟩)
  by_cases e1_1 : x = 1
  · refine V.topc e1_1 ?_
    refine V.tableIn (tgt := 38) (off := 37) dX10_isOfKind_1 (by decide) (by decide) (by decide) (by decide) ?_
    refine V.aload_n dX10_isOfKind_38 0 rfl ?_
    refine V.instNo 0 rfl rfl w_492 (by decide) dX10_isOfKind_39 ?_
    exact V.zret rfl (rfl) dX10_isOfKind_42 (⟨(), by unfold ofKindI; rw [if_neg e1_0, if_pos e1_1] <;> rfl, rfl, rfl, trivial⟩)
  by_cases e1_2 : x = 2
  · refine V.topc e1_2 ?_
    refine V.tableIn (tgt := 43) (off := 42) dX10_isOfKind_1 (by decide) (by decide) (by decide) (by decide) ?_
    refine V.aload_n dX10_isOfKind_43 0 rfl ?_
    refine V.instNo 0 rfl rfl w_493 (by decide) dX10_isOfKind_44 ?_
    exact V.zret rfl (rfl) dX10_isOfKind_47 (⟨(), by unfold ofKindI; rw [if_neg e1_0, if_neg e1_1, if_pos e1_2] <;> rfl, rfl, rfl, trivial⟩)
  by_cases e1_3 : x = 3
  · refine V.topc e1_3 ?_
    refine V.tableIn (tgt := 48) (off := 47) dX10_isOfKind_1 (by decide) (by decide) (by decide) (by decide) ?_
    refine V.aload_n dX10_isOfKind_48 0 rfl ?_
    refine V.instE 0 rfl rfl w_187 dX10_isOfKind_49 ?_
    exact V.zret rfl (rfl) dX10_isOfKind_52 (⟨(), by unfold ofKindI; rw [if_neg e1_0, if_neg e1_1, if_neg e1_2, if_pos e1_3] <;> rfl, rfl, rfl, trivial⟩)
  by_cases e1_4 : x = 4
  · refine V.topc e1_4 ?_
    refine V.tableIn (tgt := 53) (off := 52) dX10_isOfKind_1 (by decide) (by decide) (by decide) (by decide) ?_
    refine V.aload_n dX10_isOfKind_53 0 rfl ?_
    refine V.instNo 0 rfl rfl w_494 (by decide) dX10_isOfKind_54 ?_
    exact V.zret rfl (rfl) dX10_isOfKind_57 (⟨(), by unfold ofKindI; rw [if_neg e1_0, if_neg e1_1, if_neg e1_2, if_neg e1_3, if_pos e1_4] <;> rfl, rfl, rfl, trivial⟩)
  refine V.tableOut (tgt := 58) dX10_isOfKind_1 (sw_out 4 (by omega) (fun j hj => by rcases (show j = 0 ∨ j = 1 ∨ j = 2 ∨ j = 3 ∨ j = 4 by omega) with rfl | rfl | rfl | rfl | rfl <;> assumption)) (by decide) ?_
  refine V.iconst (v := 0) dX10_isOfKind_58 (by decide) ?_
  exact V.zret rfl (rfl) dX10_isOfKind_59 (⟨(), by unfold ofKindI; rw [if_neg e1_0, if_neg e1_1, if_neg e1_2, if_neg e1_3, if_neg e1_4] <;> rfl, rfl, rfl, trivial⟩)

set_option maxHeartbeats 4000000 in
set_option maxRecDepth 100000 in
theorem c_RL_isOfKind_3 (E : vEnv) (l : Launch) (L : List Nat) (h : Nat → va_E) (q : Nat) (so : Int32) (sg : Int32) (pr : Int32) (x : Int32) : CT E l yX10_isOfKind cX10_isOfKind 2 (some (.boolean)) 0 0 0 L h [(q, ob 4 [.int so, .int sg, .int pr])] [.ref q, .int x] (qP L h (fun (_ : Unit) => [(q, ob 4 [.int so, .int sg, .int pr])]) (fun _ => some (.int (ofKindI 3 x))) (fun _ => True)) := by
  refine CT.ofV (by decide +kernel) (Nat.le_of_ble_eq_true rfl) ?_
  refine V.locals2 (lv2 := [(0, .ref q), (1, .int x)]) rfl ?_
  refine V.iload_n dX10_isOfKind_0 1 rfl ?_
  by_cases e1_0 : x = 0
  · refine V.topc e1_0 ?_
    refine V.tableIn (tgt := 36) (off := 35) dX10_isOfKind_1 (by decide) (by decide) (by decide) (by decide) ?_
    refine V.iconst (v := 1) dX10_isOfKind_36 (by decide) ?_
    exact V.zret rfl (rfl) dX10_isOfKind_37 (⟨(), by unfold ofKindI; rw [if_pos e1_0] <;> rfl, rfl, rfl, trivial⟩)
  by_cases e1_1 : x = 1
  · refine V.topc e1_1 ?_
    refine V.tableIn (tgt := 38) (off := 37) dX10_isOfKind_1 (by decide) (by decide) (by decide) (by decide) ?_
    refine V.aload_n dX10_isOfKind_38 0 rfl ?_
    refine V.instNo 0 rfl rfl w_492 (by decide) dX10_isOfKind_39 ?_
    exact V.zret rfl (rfl) dX10_isOfKind_42 (⟨(), by unfold ofKindI; rw [if_neg e1_0, if_pos e1_1] <;> rfl, rfl, rfl, trivial⟩)
  by_cases e1_2 : x = 2
  · refine V.topc e1_2 ?_
    refine V.tableIn (tgt := 43) (off := 42) dX10_isOfKind_1 (by decide) (by decide) (by decide) (by decide) ?_
    refine V.aload_n dX10_isOfKind_43 0 rfl ?_
    refine V.instNo 0 rfl rfl w_493 (by decide) dX10_isOfKind_44 ?_
    exact V.zret rfl (rfl) dX10_isOfKind_47 (⟨(), by unfold ofKindI; rw [if_neg e1_0, if_neg e1_1, if_pos e1_2] <;> rfl, rfl, rfl, trivial⟩)
  by_cases e1_3 : x = 3
  · refine V.topc e1_3 ?_
    refine V.tableIn (tgt := 48) (off := 47) dX10_isOfKind_1 (by decide) (by decide) (by decide) (by decide) ?_
    refine V.aload_n dX10_isOfKind_48 0 rfl ?_
    refine V.instNo 0 rfl rfl w_187 (by decide) dX10_isOfKind_49 ?_
    exact V.zret rfl (rfl) dX10_isOfKind_52 (⟨(), by unfold ofKindI; rw [if_neg e1_0, if_neg e1_1, if_neg e1_2, if_pos e1_3] <;> rfl, rfl, rfl, trivial⟩)
  by_cases e1_4 : x = 4
  · refine V.topc e1_4 ?_
    refine V.tableIn (tgt := 53) (off := 52) dX10_isOfKind_1 (by decide) (by decide) (by decide) (by decide) ?_
    refine V.aload_n dX10_isOfKind_53 0 rfl ?_
    refine V.instE 0 rfl rfl w_494 dX10_isOfKind_54 ?_
    exact V.zret rfl (rfl) dX10_isOfKind_57 (⟨(), by unfold ofKindI; rw [if_neg e1_0, if_neg e1_1, if_neg e1_2, if_neg e1_3, if_pos e1_4] <;> rfl, rfl, rfl, trivial⟩)
  refine V.tableOut (tgt := 58) dX10_isOfKind_1 (sw_out 4 (by omega) (fun j hj => by rcases (show j = 0 ∨ j = 1 ∨ j = 2 ∨ j = 3 ∨ j = 4 by omega) with rfl | rfl | rfl | rfl | rfl <;> assumption)) (by decide) ?_
  refine V.iconst (v := 0) dX10_isOfKind_58 (by decide) ?_
  exact V.zret rfl (rfl) dX10_isOfKind_59 (⟨(), by unfold ofKindI; rw [if_neg e1_0, if_neg e1_1, if_neg e1_2, if_neg e1_3, if_neg e1_4] <;> rfl, rfl, rfl, trivial⟩)

set_option maxHeartbeats 4000000 in
theorem c_RL_isOfKind (E : vEnv) (l : Launch) (L : List Nat) (h : Nat → va_E) (q : Nat) (κ : Nat) (so : Nat) (sg : Int32) (pr : Int32) (x : Int32) (hk : κ < 4) : CT E l yX10_isOfKind cX10_isOfKind 2 (some (.boolean)) 0 0 0 L h [(q, ob (kci κ) [.int (nI so), .int sg, .int pr])] [.ref q, .int x] (qP L h (fun (_ : Unit) => [(q, ob (kci κ) [.int (nI so), .int sg, .int pr])]) (fun _ => some (.int (ofKindI κ x))) (fun _ => True)) := by
  rcases (show κ = 0 ∨ κ = 1 ∨ κ = 2 ∨ κ = 3 by omega) with rfl | rfl | rfl | rfl
  · exact c_RL_isOfKind_0 E l L h q (nI so) sg pr x
  · exact c_RL_isOfKind_1 E l L h q (nI so) sg pr x
  · exact c_RL_isOfKind_2 E l L h q (nI so) sg pr x
  · exact c_RL_isOfKind_3 E l L h q (nI so) sg pr x

set_option maxHeartbeats 4000000 in
set_option maxRecDepth 100000 in
theorem c_RL_writeO (E : vEnv) (l : Launch) (L : List Nat) (h : Nat → va_E) (a : Nat) (tx : Nat) (lo : Nat) (no : Nat) (to : Nat) (pa : Nat) (ke : Nat) (ik : Nat) (sc : Nat) (w : Nat) (bp : Nat) (ac : Nat) (br : Nat) (pe : Int32) (un : Int32) (bs : Int32) (bm : Int32) (x : Int32) (hx : withinI x 0 255 = 0) : CT E l yX10_write cX10_write 2 (some (.int)) 1 0 0 L h [(a, ob 9 [.ref tx, .ref lo, .ref no, .ref to, .ref pa, .int pe, .int un, .ref ke, .ref ik, .ref sc, .ref w, .ref bp, .ref ac, .ref br, .int bs, .int bm])] [.ref a, .int x] (qP L h (fun (_ : Unit) => [(a, ob 9 [.ref tx, .ref lo, .ref no, .ref to, .ref pa, .int pe, .int un, .ref ke, .ref ik, .ref sc, .ref w, .ref bp, .ref ac, .ref br, .int bs, .int bm])]) (fun _ => some (.int (-3))) (fun _ => True)) := by
  refine CT.ofV (by decide +kernel) (Nat.le_of_ble_eq_true rfl) ?_
  refine V.locals2 (lv2 := [(0, .ref a), (1, .int x)]) rfl ?_
  refine V.iload_n dX10_write_0 1 rfl ?_
  refine V.iconst (v := 0) dX10_write_1 (by decide) ?_
  refine V.sipush (v := 255) dX10_write_2 (by decide) ?_
  refine V.callSp (As := [.int x, .int 0, .int 255]) (rest := []) [] (c_within E l L _ x 0 255) rfl (by decide) mi_X10_isWithin w_267 w_268 rfl rfl (Nat.le_of_ble_eq_true rfl) ⟨by decide, by decide⟩ ⟨by decide, by decide⟩ dX10_write_5 (vw2 := fun _ => [(a, ob 9 [.ref tx, .ref lo, .ref no, .ref to, .ref pa, .int pe, .int un, .ref ke, .ref ik, .ref sc, .ref w, .ref bp, .ref ac, .ref br, .int bs, .int bm])]) (st2 := fun _ => [.int (withinI x 0 255)]) (fun _ => rfl) (fun _ => rfl) (fun _ => rfl) (fun _ _ => ?_)
  refine V.topc (v := 0) (hx) ?_
  refine V.if_ne (tgt := 14) dX10_write_8 (by decide) (fun hc => absurd (by decide) hc) (fun _ => ?_)
  refine V.bipush (v := (-3)) dX10_write_11 (by decide) ?_
  exact V.iret rfl dX10_write_13 (⟨(), rfl, rfl, rfl, trivial⟩)

set_option maxHeartbeats 4000000 in
set_option maxRecDepth 100000 in
theorem c_RL_write (E : vEnv) (l : Launch) (L : List Nat) (h : Nat → va_E) (a : Nat) (tx : Nat) (lo : Nat) (no : Nat) (to : Nat) (pa : Nat) (ke : Nat) (ik : Nat) (sc : Nat) (w : Nat) (bp : Nat) (ac : Nat) (br : Nat) (pe : Int32) (un : Int32) (bs : Int32) (bm : Int32) (tl : Nat) (tw : Nat) (tq : Nat) (n : Nat) (cl : Int32) (x1 : Int32) (x2 : Int32) (x3 : Int32) (F : Nat → Int32) (k : Nat) (hk : k < 256) (hn : n < 160) : CT E l yX10_write cX10_write 2 (some (.int)) 1 0 0 L h [(a, ob 9 [.ref tx, .ref lo, .ref no, .ref to, .ref pa, .int pe, .int un, .ref ke, .ref ik, .ref sc, .ref w, .ref bp, .ref ac, .ref br, .int bs, .int bm]), (tx, ob 7 [.ref tl, .int (nI n), .ref tw, .ref tq, .int cl, .int x1, .int x2, .int x3]), (tl, aC E 160 F)] [.ref a, .int (nI k)] (qP L h (fun (_ : Unit) => [(a, ob 9 [.ref tx, .ref lo, .ref no, .ref to, .ref pa, .int pe, .int un, .ref ke, .ref ik, .ref sc, .ref w, .ref bp, .ref ac, .ref br, .int bs, .int bm]), (tx, ob 7 [.ref tl, .int (nI (n + 1)), .ref tw, .ref tq, .int cl, .int x1, .int x2, .int x3]), (tl, aC E 160 (upd F n (nI k)))]) (fun _ => some (.int (nI (n + 1)))) (fun _ => True)) := by
  refine CT.ofV (by decide +kernel) (Nat.le_of_ble_eq_true rfl) ?_
  refine V.locals2 (lv2 := [(0, .ref a), (1, .int (nI k))]) rfl ?_
  refine V.iload_n dX10_write_0 1 rfl ?_
  refine V.iconst (v := 0) dX10_write_1 (by decide) ?_
  refine V.sipush (v := 255) dX10_write_2 (by decide) ?_
  refine V.callSp (As := [.int (nI k), .int 0, .int 255]) (rest := []) [] (c_within E l L _ ((nI k)) 0 255) rfl (by decide) mi_X10_isWithin w_267 w_268 rfl rfl (Nat.le_of_ble_eq_true rfl) ⟨by decide, by decide⟩ ⟨by decide, by decide⟩ dX10_write_5 (vw2 := fun _ => [(a, ob 9 [.ref tx, .ref lo, .ref no, .ref to, .ref pa, .int pe, .int un, .ref ke, .ref ik, .ref sc, .ref w, .ref bp, .ref ac, .ref br, .int bs, .int bm]), (tx, ob 7 [.ref tl, .int (nI n), .ref tw, .ref tq, .int cl, .int x1, .int x2, .int x3]), (tl, aC E 160 F)]) (st2 := fun _ => [.int (withinI (nI k) 0 255)]) (fun _ => rfl) (fun _ => rfl) (fun _ => rfl) (fun _ _ => ?_)
  refine V.topc (v := 1) (within_nI (m := 256) hk (by omega)) ?_
  refine V.if_ne (tgt := 14) dX10_write_8 (by decide) (fun _ => ?_) (fun hc => absurd hc (by decide))
  refine V.aload_n dX10_write_14 0 rfl ?_
  refine V.getf 0 0 rfl fa_X10_10_9 rfl dX10_write_15 ?_
  refine V.iload_n dX10_write_18 1 rfl ?_
  refine V.i2c (v := (nI k)) dX10_write_19 (char8b k hk) ?_
  refine V.callVp (As := [.int (nI k)]) (rest := []) [1, 2] (c_Text_add E l L _ tx tl tw tq n cl x1 x2 x3 F ((nI k)) (hn) (char8 k hk)) rfl (by decide) mi_X8_add 1 rfl rfl w_270 w_271 w_272 rfl rfl (Nat.le_of_ble_eq_true rfl) ⟨by decide, by decide⟩ ⟨by decide, by decide⟩ dX10_write_20 (vw2 := fun _ => [(a, ob 9 [.ref tx, .ref lo, .ref no, .ref to, .ref pa, .int pe, .int un, .ref ke, .ref ik, .ref sc, .ref w, .ref bp, .ref ac, .ref br, .int bs, .int bm]), (tx, ob 7 [.ref tl, .int (nI (n + 1)), .ref tw, .ref tq, .int cl, .int x1, .int x2, .int x3]), (tl, aC E 160 (upd F n (nI k)))]) (st2 := fun _ => [.int 1]) (fun _ => rfl) (fun _ => rfl) (fun _ => rfl) (fun _ _ => ?_)
  refine V.if_eq (tgt := 36) dX10_write_23 (by decide) (fun hc => absurd hc (by decide)) (fun _ => ?_)
  refine V.aload_n dX10_write_26 0 rfl ?_
  refine V.getf 0 0 rfl fa_X10_10_9 rfl dX10_write_27 ?_
  refine V.getf 1 1 rfl fa_X10_86_7 rfl dX10_write_30 ?_
  refine V.goto (tgt := 38) dX10_write_33 (by decide) ?_
  exact V.iret rfl dX10_write_38 (⟨(), rfl, rfl, rfl, trivial⟩)

set_option maxHeartbeats 4000000 in
set_option maxRecDepth 100000 in
theorem c_RL_writeF (E : vEnv) (l : Launch) (L : List Nat) (h : Nat → va_E) (a : Nat) (tx : Nat) (lo : Nat) (no : Nat) (to : Nat) (pa : Nat) (ke : Nat) (ik : Nat) (sc : Nat) (w : Nat) (bp : Nat) (ac : Nat) (br : Nat) (pe : Int32) (un : Int32) (bs : Int32) (bm : Int32) (tl : Nat) (tw : Nat) (tq : Nat) (cl : Int32) (x1 : Int32) (x2 : Int32) (x3 : Int32) (k : Nat) (hk : k < 256) : CT E l yX10_write cX10_write 2 (some (.int)) 1 0 0 L h [(a, ob 9 [.ref tx, .ref lo, .ref no, .ref to, .ref pa, .int pe, .int un, .ref ke, .ref ik, .ref sc, .ref w, .ref bp, .ref ac, .ref br, .int bs, .int bm]), (tx, ob 7 [.ref tl, .int 160, .ref tw, .ref tq, .int cl, .int x1, .int x2, .int x3])] [.ref a, .int (nI k)] (qP L h (fun (_ : Unit) => [(a, ob 9 [.ref tx, .ref lo, .ref no, .ref to, .ref pa, .int pe, .int un, .ref ke, .ref ik, .ref sc, .ref w, .ref bp, .ref ac, .ref br, .int bs, .int bm]), (tx, ob 7 [.ref tl, .int 160, .ref tw, .ref tq, .int cl, .int x1, .int x2, .int x3])]) (fun _ => some (.int (-5))) (fun _ => True)) := by
  refine CT.ofV (by decide +kernel) (Nat.le_of_ble_eq_true rfl) ?_
  refine V.locals2 (lv2 := [(0, .ref a), (1, .int (nI k))]) rfl ?_
  refine V.iload_n dX10_write_0 1 rfl ?_
  refine V.iconst (v := 0) dX10_write_1 (by decide) ?_
  refine V.sipush (v := 255) dX10_write_2 (by decide) ?_
  refine V.callSp (As := [.int (nI k), .int 0, .int 255]) (rest := []) [] (c_within E l L _ ((nI k)) 0 255) rfl (by decide) mi_X10_isWithin w_267 w_268 rfl rfl (Nat.le_of_ble_eq_true rfl) ⟨by decide, by decide⟩ ⟨by decide, by decide⟩ dX10_write_5 (vw2 := fun _ => [(a, ob 9 [.ref tx, .ref lo, .ref no, .ref to, .ref pa, .int pe, .int un, .ref ke, .ref ik, .ref sc, .ref w, .ref bp, .ref ac, .ref br, .int bs, .int bm]), (tx, ob 7 [.ref tl, .int 160, .ref tw, .ref tq, .int cl, .int x1, .int x2, .int x3])]) (st2 := fun _ => [.int (withinI (nI k) 0 255)]) (fun _ => rfl) (fun _ => rfl) (fun _ => rfl) (fun _ _ => ?_)
  refine V.topc (v := 1) (within_nI (m := 256) hk (by omega)) ?_
  refine V.if_ne (tgt := 14) dX10_write_8 (by decide) (fun _ => ?_) (fun hc => absurd hc (by decide))
  refine V.aload_n dX10_write_14 0 rfl ?_
  refine V.getf 0 0 rfl fa_X10_10_9 rfl dX10_write_15 ?_
  refine V.iload_n dX10_write_18 1 rfl ?_
  refine V.i2c (v := (nI k)) dX10_write_19 (char8b k hk) ?_
  refine V.callVp (As := [.int (nI k)]) (rest := []) [1] (c_Text_addF E l L _ tx tl tw tq 0 cl x1 x2 x3 ((nI k))) rfl (by decide) mi_X8_add 1 rfl rfl w_270 w_271 w_272 rfl rfl (Nat.le_of_ble_eq_true rfl) ⟨by decide, by decide⟩ ⟨by decide, by decide⟩ dX10_write_20 (vw2 := fun _ => [(a, ob 9 [.ref tx, .ref lo, .ref no, .ref to, .ref pa, .int pe, .int un, .ref ke, .ref ik, .ref sc, .ref w, .ref bp, .ref ac, .ref br, .int bs, .int bm]), (tx, ob 7 [.ref tl, .int 160, .ref tw, .ref tq, .int cl, .int x1, .int x2, .int x3])]) (st2 := fun _ => [.int 0]) (fun _ => rfl) (fun _ => rfl) (fun _ => rfl) (fun _ _ => ?_)
  refine V.if_eq (tgt := 36) dX10_write_23 (by decide) (fun _ => ?_) (fun hc => absurd (by decide) hc)
  refine V.bipush (v := (-5)) dX10_write_36 (by decide) ?_
  exact V.iret rfl dX10_write_38 (⟨(), rfl, rfl, rfl, trivial⟩)

set_option maxHeartbeats 4000000 in
set_option maxRecDepth 100000 in
theorem c_RL_erase (E : vEnv) (l : Launch) (L : List Nat) (h : Nat → va_E) (a : Nat) (tx : Nat) (lo : Nat) (no : Nat) (to : Nat) (pa : Nat) (ke : Nat) (ik : Nat) (sc : Nat) (w : Nat) (bp : Nat) (ac : Nat) (br : Nat) (pe : Int32) (un : Int32) (bs : Int32) (bm : Int32) (tl : Nat) (tw : Nat) (tq : Nat) (n : Nat) (cl : Int32) (x1 : Int32) (x2 : Int32) (x3 : Int32) : CT E l yX10_erase cX10_erase 2 (some (.int)) 0 0 0 L h [(a, ob 9 [.ref tx, .ref lo, .ref no, .ref to, .ref pa, .int pe, .int un, .ref ke, .ref ik, .ref sc, .ref w, .ref bp, .ref ac, .ref br, .int bs, .int bm]), (tx, ob 7 [.ref tl, .int (nI n), .ref tw, .ref tq, .int cl, .int x1, .int x2, .int x3])] [.ref a] (qP L h (fun (_ : Unit) => [(a, ob 9 [.ref tx, .ref lo, .ref no, .ref to, .ref pa, .int pe, .int un, .ref ke, .ref ik, .ref sc, .ref w, .ref bp, .ref ac, .ref br, .int bs, .int bm]), (tx, ob 7 [.ref tl, .int 0, .ref tw, .ref tq, .int cl, .int x1, .int x2, .int x3])]) (fun _ => some (.int (nI n))) (fun _ => True)) := by
  refine CT.ofV (by decide +kernel) (Nat.le_of_ble_eq_true rfl) ?_
  refine V.locals2 (lv2 := [(0, .ref a)]) rfl ?_
  refine V.aload_n dX10_erase_0 0 rfl ?_
  refine V.getf 0 0 rfl fa_X10_10_9 rfl dX10_erase_1 ?_
  refine V.getf 1 1 rfl fa_X10_86_7 rfl dX10_erase_4 ?_
  refine V.istore_n (lv2 := [(1, .int (nI n)), (0, .ref a)]) dX10_erase_7 rfl (by decide) rfl ?_
  refine V.aload_n dX10_erase_8 1 rfl ?_
  refine V.getf 0 0 rfl fa_X10_10_9 rfl dX10_erase_9 ?_
  refine V.iconst (v := 0) dX10_erase_12 (by decide) ?_
  refine V.putf 1 1 (vw2 := [(a, ob 9 [.ref tx, .ref lo, .ref no, .ref to, .ref pa, .int pe, .int un, .ref ke, .ref ik, .ref sc, .ref w, .ref bp, .ref ac, .ref br, .int bs, .int bm]), (tx, ob 7 [.ref tl, .int 0, .ref tw, .ref tq, .int cl, .int x1, .int x2, .int x3])]) rfl fp_X10_86_7 rfl rfl (Nat.le_of_ble_eq_true rfl) rfl dX10_erase_13 ?_
  refine V.iload_n dX10_erase_16 0 rfl ?_
  exact V.iret rfl dX10_erase_17 (⟨(), rfl, rfl, rfl, trivial⟩)

set_option maxHeartbeats 4000000 in
set_option maxRecDepth 100000 in
theorem c_RL_fault (E : vEnv) (l : Launch) (L : List Nat) (h : Nat → va_E) (a : Nat) (tx : Nat) (lo : Nat) (no : Nat) (to : Nat) (pa : Nat) (ke : Nat) (ik : Nat) (sc : Nat) (w : Nat) (bp : Nat) (ac : Nat) (br : Nat) (pe : Int32) (un : Int32) (bs : Int32) (bm : Int32) (tl : Nat) (tw : Nat) (tq : Nat) (n : Nat) (cl : Int32) (x1 : Int32) (x2 : Int32) (x3 : Int32) (lt : Nat) (lr : Nat) (lw : Nat) (m : Nat) (wa : Int32) (lp : Int32) (F : Nat → Int32) (W : Nat → Int32) (G : Nat → Int32) (hn : n ≤ 160) (hm : m ≤ 6) : CT E l yX10_fault cX10_fault 1 (some (.int)) 8 0 0 L h [(a, ob 9 [.ref tx, .ref lo, .ref no, .ref to, .ref pa, .int pe, .int un, .ref ke, .ref ik, .ref sc, .ref w, .ref bp, .ref ac, .ref br, .int bs, .int bm]), (lo, ob 1 [.ref lt, .ref lr, .ref lw, .int (nI m), .int wa, .int lp]), (tx, ob 7 [.ref tl, .int (nI n), .ref tw, .ref tq, .int cl, .int x1, .int x2, .int x3]), (tl, aC E 160 F), (tw, aI E 14 W), (tq, aI E 42 G)] [.ref a] (qP L h (fun (u : RDS) => [(a, ob 9 [.ref tx, .ref lo, .ref no, .ref to, .ref pa, .int pe, .int un, .ref ke, .ref ik, .ref sc, .ref w, .ref bp, .ref ac, .ref br, .int bs, .int bm]), (lo, ob 1 [.ref lt, .ref lr, .ref lw, .int (nI m), .int wa, .int lp]), (tx, ob 7 [.ref tl, .int (nI n), .ref tw, .ref tq, .int u.2.2.2.1, .int u.2.2.2.2.1, .int u.2.2.2.2.2.1, .int u.2.2.2.2.2.2]), (tl, aC E 160 F), (tw, aI E 14 u.2.1), (tq, aI E 42 u.2.2.1)]) (fun u => some (.int u.1)) (fun u => rdRel (readG F n 13 0 m) u)) := by
  refine CT.ofV (by decide +kernel) (Nat.le_of_ble_eq_true rfl) ?_
  refine V.locals2 (lv2 := [(0, .ref a)]) rfl ?_
  refine V.aload_n dX10_fault_0 0 rfl ?_
  refine V.getf 0 0 rfl fa_X10_10_9 rfl dX10_fault_1 ?_
  refine V.aload_n dX10_fault_4 0 rfl ?_
  refine V.getf 0 1 rfl fa_X10_19_9 rfl dX10_fault_5 ?_
  refine V.getf 1 3 rfl fa_X10_89_1 rfl dX10_fault_8 ?_
  refine V.callVp (As := [.int (nI m)]) (rest := []) [2, 3, 4, 5] (c_Text_read E l L _ tx tl tw tq n cl x1 x2 x3 F W G m (hn) (hm)) rfl (by decide) mi_X8_read 2 rfl rfl w_282 w_283 w_284 rfl rfl (Nat.le_of_ble_eq_true rfl) ⟨by decide, by decide⟩ ⟨by decide, by decide⟩ dX10_fault_11 (vw2 := fun u => [(a, ob 9 [.ref tx, .ref lo, .ref no, .ref to, .ref pa, .int pe, .int un, .ref ke, .ref ik, .ref sc, .ref w, .ref bp, .ref ac, .ref br, .int bs, .int bm]), (lo, ob 1 [.ref lt, .ref lr, .ref lw, .int (nI m), .int wa, .int lp]), (tx, ob 7 [.ref tl, .int (nI n), .ref tw, .ref tq, .int u.2.2.2.1, .int u.2.2.2.2.1, .int u.2.2.2.2.2.1, .int u.2.2.2.2.2.2]), (tl, aC E 160 F), (tw, aI E 14 u.2.1), (tq, aI E 42 u.2.2.1)]) (st2 := fun u => [.int u.1]) (fun _ => rfl) (fun _ => rfl) (fun _ => rfl) (fun u hq_11 => ?_)
  exact V.iret rfl dX10_fault_14 (⟨u, rfl, rfl, rfl, hq_11⟩)

set_option maxHeartbeats 4000000 in
set_option maxRecDepth 100000 in
theorem c_RL_sortU (E : vEnv) (l : Launch) (L : List Nat) (h : Nat → va_E) (a : Nat) (tx : Nat) (lo : Nat) (no : Nat) (to : Nat) (pa : Nat) (ke : Nat) (ik : Nat) (sc : Nat) (w : Nat) (bp : Nat) (ac : Nat) (br : Nat) (pe : Int32) (un : Int32) (bs : Int32) (bm : Int32) (x : Int32) (y : Int32) (hx : withinI x 0 3 = 0) : CT E l yX10_sort cX10_sort 3 (some (.int)) 1 0 0 L h [(a, ob 9 [.ref tx, .ref lo, .ref no, .ref to, .ref pa, .int pe, .int un, .ref ke, .ref ik, .ref sc, .ref w, .ref bp, .ref ac, .ref br, .int bs, .int bm])] [.ref a, .int x, .int y] (qP L h (fun (_ : Unit) => [(a, ob 9 [.ref tx, .ref lo, .ref no, .ref to, .ref pa, .int pe, .int un, .ref ke, .ref ik, .ref sc, .ref w, .ref bp, .ref ac, .ref br, .int bs, .int bm])]) (fun _ => some (.int (-2))) (fun _ => True)) := by
  refine CT.ofV (by decide +kernel) (Nat.le_of_ble_eq_true rfl) ?_
  refine V.locals2 (lv2 := [(0, .ref a), (1, .int x), (2, .int y)]) rfl ?_
  refine V.iload_n dX10_sort_0 1 rfl ?_
  refine V.iconst (v := 0) dX10_sort_1 (by decide) ?_
  refine V.iconst (v := 3) dX10_sort_2 (by decide) ?_
  refine V.callSp (As := [.int x, .int 0, .int 3]) (rest := []) [] (c_within E l L _ x 0 3) rfl (by decide) mi_X10_isWithin w_267 w_268 rfl rfl (Nat.le_of_ble_eq_true rfl) ⟨by decide, by decide⟩ ⟨by decide, by decide⟩ dX10_sort_3 (vw2 := fun _ => [(a, ob 9 [.ref tx, .ref lo, .ref no, .ref to, .ref pa, .int pe, .int un, .ref ke, .ref ik, .ref sc, .ref w, .ref bp, .ref ac, .ref br, .int bs, .int bm])]) (st2 := fun _ => [.int (withinI x 0 3)]) (fun _ => rfl) (fun _ => rfl) (fun _ => rfl) (fun _ _ => ?_)
  refine V.topc (v := 0) (hx) ?_
  refine V.if_ne (tgt := 12) dX10_sort_6 (by decide) (fun hc => absurd (by decide) hc) (fun _ => ?_)
  refine V.bipush (v := (-2)) dX10_sort_9 (by decide) ?_
  exact V.iret rfl dX10_sort_11 (⟨(), rfl, rfl, rfl, trivial⟩)

set_option maxHeartbeats 4000000 in
set_option maxRecDepth 100000 in
theorem c_RL_sort (E : vEnv) (l : Launch) (L : List Nat) (h : Nat → va_E) (a : Nat) (tx : Nat) (lo : Nat) (no : Nat) (to : Nat) (pa : Nat) (ke : Nat) (ik : Nat) (sc : Nat) (w : Nat) (bp : Nat) (ac : Nat) (br : Nat) (pe : Int32) (un : Int32) (bs : Int32) (bm : Int32) (lt : Nat) (lr : Nat) (lw : Nat) (m : Nat) (wa : Int32) (lp : Int32) (tno : Nat) (s : NS) (ti : Nat → Int32) (r : Nat → Int32) (k : Nat) (y : Int32) (hk : k < 4) : CT E l yX10_sort cX10_sort 3 (some (.int)) 1 0 0 L h [(a, ob 9 [.ref tx, .ref lo, .ref no, .ref to, .ref pa, .int pe, .int un, .ref ke, .ref ik, .ref sc, .ref w, .ref bp, .ref ac, .ref br, .int bs, .int bm]), (lo, ob 1 [.ref lt, .ref lr, .ref lw, .int (nI m), .int wa, .int lp]), (lt, aI E 4 ti), (lr, aI E 4 r), (no, ob 3 [.ref tno, .int s.2.1, .int s.2.2.1, .int s.2.2.2.1, .int s.2.2.2.2.1, .int s.2.2.2.2.2.1, .int s.2.2.2.2.2.2.1, .int s.2.2.2.2.2.2.2]), (tno, aI E 4 s.1)] [.ref a, .int (nI k), .int y] (qP L h (fun (_ : Unit) => [(a, ob 9 [.ref tx, .ref lo, .ref no, .ref to, .ref pa, .int pe, .int un, .ref ke, .ref ik, .ref sc, .ref w, .ref bp, .ref ac, .ref br, .int bs, .int bm]), (lo, ob 1 [.ref lt, .ref lr, .ref lw, .int (nI m), .int wa, .int lp]), (lt, aI E 4 ti), (lr, aI E 4 r), (no, ob 3 [.ref tno, .int s.2.1, .int s.2.2.1, .int s.2.2.2.1, .int s.2.2.2.2.1, .int s.2.2.2.2.2.1, .int s.2.2.2.2.2.2.1, .int s.2.2.2.2.2.2.2]), (tno, aI E 4 s.1)]) (fun _ => some (.int (sel3 y (ti k) (r k) (s.1 k)))) (fun _ => True)) := by
  refine CT.ofV (by decide +kernel) (Nat.le_of_ble_eq_true rfl) ?_
  refine V.locals2 (lv2 := [(0, .ref a), (1, .int (nI k)), (2, .int y)]) rfl ?_
  refine V.iload_n dX10_sort_0 1 rfl ?_
  refine V.iconst (v := 0) dX10_sort_1 (by decide) ?_
  refine V.iconst (v := 3) dX10_sort_2 (by decide) ?_
  refine V.callSp (As := [.int (nI k), .int 0, .int 3]) (rest := []) [] (c_within E l L _ ((nI k)) 0 3) rfl (by decide) mi_X10_isWithin w_267 w_268 rfl rfl (Nat.le_of_ble_eq_true rfl) ⟨by decide, by decide⟩ ⟨by decide, by decide⟩ dX10_sort_3 (vw2 := fun _ => [(a, ob 9 [.ref tx, .ref lo, .ref no, .ref to, .ref pa, .int pe, .int un, .ref ke, .ref ik, .ref sc, .ref w, .ref bp, .ref ac, .ref br, .int bs, .int bm]), (lo, ob 1 [.ref lt, .ref lr, .ref lw, .int (nI m), .int wa, .int lp]), (lt, aI E 4 ti), (lr, aI E 4 r), (no, ob 3 [.ref tno, .int s.2.1, .int s.2.2.1, .int s.2.2.2.1, .int s.2.2.2.2.1, .int s.2.2.2.2.2.1, .int s.2.2.2.2.2.2.1, .int s.2.2.2.2.2.2.2]), (tno, aI E 4 s.1)]) (st2 := fun _ => [.int (withinI (nI k) 0 3)]) (fun _ => rfl) (fun _ => rfl) (fun _ => rfl) (fun _ _ => ?_)
  refine V.topc (v := 1) (within_nI (m := 4) hk (by omega)) ?_
  refine V.if_ne (tgt := 12) dX10_sort_6 (by decide) (fun _ => ?_) (fun hc => absurd hc (by decide))
  refine V.iload_n dX10_sort_12 2 rfl ?_
  by_cases e13_0 : y = 0
  · refine V.topc e13_0 ?_
    refine V.tableIn (tgt := 40) (off := 27) dX10_sort_13 (by decide) (by decide) (by decide) (by decide) ?_
    refine V.aload_n dX10_sort_40 0 rfl ?_
    refine V.getf 0 1 rfl fa_X10_19_9 rfl dX10_sort_41 ?_
    refine V.getf 1 0 rfl fa_X10_124_1 rfl dX10_sort_44 ?_
    refine V.iload_n dX10_sort_47 1 rfl ?_
    refine V.iald 2 rfl (vinI (by omega)) dX10_sort_48 ?_
    refine V.topc (v := (ti k)) (by rw [nI_clamp (by omega)] <;> rfl) ?_
    exact V.iret rfl dX10_sort_49 (⟨(), by unfold sel3; rw [if_pos e13_0] <;> rfl, rfl, rfl, trivial⟩)
  by_cases e13_1 : y = 1
  · refine V.topc e13_1 ?_
    refine V.tableIn (tgt := 50) (off := 37) dX10_sort_13 (by decide) (by decide) (by decide) (by decide) ?_
    refine V.aload_n dX10_sort_50 0 rfl ?_
    refine V.getf 0 1 rfl fa_X10_19_9 rfl dX10_sort_51 ?_
    refine V.getf 1 1 rfl fa_X10_127_1 rfl dX10_sort_54 ?_
    refine V.iload_n dX10_sort_57 1 rfl ?_
    refine V.iald 3 rfl (vinI (by omega)) dX10_sort_58 ?_
    refine V.topc (v := (r k)) (by rw [nI_clamp (by omega)] <;> rfl) ?_
    exact V.iret rfl dX10_sort_59 (⟨(), by unfold sel3; rw [if_neg e13_0, if_pos e13_1] <;> rfl, rfl, rfl, trivial⟩)
  by_cases e13_2 : y = 2
  · refine V.topc e13_2 ?_
    refine V.tableIn (tgt := 60) (off := 47) dX10_sort_13 (by decide) (by decide) (by decide) (by decide) ?_
    refine V.aload_n dX10_sort_60 0 rfl ?_
    refine V.getf 0 2 rfl fa_X10_26_9 rfl dX10_sort_61 ?_
    refine V.getf 4 0 rfl fa_X10_130_3 rfl dX10_sort_64 ?_
    refine V.iload_n dX10_sort_67 1 rfl ?_
    refine V.iald 5 rfl (vinI (by omega)) dX10_sort_68 ?_
    refine V.topc (v := (s.1 k)) (by rw [nI_clamp (by omega)] <;> rfl) ?_
    exact V.iret rfl dX10_sort_69 (⟨(), by unfold sel3; rw [if_neg e13_0, if_neg e13_1, if_pos e13_2] <;> rfl, rfl, rfl, trivial⟩)
  refine V.tableOut (tgt := 70) dX10_sort_13 (sw_out 2 (by omega) (fun j hj => by rcases (show j = 0 ∨ j = 1 ∨ j = 2 by omega) with rfl | rfl | rfl <;> assumption)) (by decide) ?_
  refine V.bipush (v := (-3)) dX10_sort_70 (by decide) ?_
  exact V.iret rfl dX10_sort_72 (⟨(), by unfold sel3; rw [if_neg e13_0, if_neg e13_1, if_neg e13_2] <;> rfl, rfl, rfl, trivial⟩)

set_option maxHeartbeats 4000000 in
set_option maxRecDepth 100000 in
theorem c_RL_count (E : vEnv) (l : Launch) (L : List Nat) (h : Nat → va_E) (a : Nat) (tx : Nat) (lo : Nat) (no : Nat) (to : Nat) (pa : Nat) (ke : Nat) (ik : Nat) (sc : Nat) (w : Nat) (bp : Nat) (ac : Nat) (br : Nat) (pe : Int32) (un : Int32) (bs : Int32) (bm : Int32) (lt : Nat) (lr : Nat) (lw : Nat) (m : Nat) (wa : Int32) (lp : Int32) (tno : Nat) (s : NS) (tS : Nat) (tV : Nat) (tM : Nat) (nt : Nat) (tl : Nat) (tw : Nat) (tq : Nat) (n : Nat) (cl : Int32) (x1 : Int32) (x2 : Int32) (x3 : Int32) (y : Int32) : CT E l yX10_count cX10_count 2 (some (.int)) 0 0 0 L h [(a, ob 9 [.ref tx, .ref lo, .ref no, .ref to, .ref pa, .int pe, .int un, .ref ke, .ref ik, .ref sc, .ref w, .ref bp, .ref ac, .ref br, .int bs, .int bm]), (lo, ob 1 [.ref lt, .ref lr, .ref lw, .int (nI m), .int wa, .int lp]), (no, ob 3 [.ref tno, .int s.2.1, .int s.2.2.1, .int s.2.2.2.1, .int s.2.2.2.2.1, .int s.2.2.2.2.2.1, .int s.2.2.2.2.2.2.1, .int s.2.2.2.2.2.2.2]), (tno, aI E 4 s.1), (to, ob 6 [.ref tS, .ref tV, .ref tM, .int (nI nt)]), (tx, ob 7 [.ref tl, .int (nI n), .ref tw, .ref tq, .int cl, .int x1, .int x2, .int x3])] [.ref a, .int y] (qP L h (fun (_ : Unit) => [(a, ob 9 [.ref tx, .ref lo, .ref no, .ref to, .ref pa, .int pe, .int un, .ref ke, .ref ik, .ref sc, .ref w, .ref bp, .ref ac, .ref br, .int bs, .int bm]), (lo, ob 1 [.ref lt, .ref lr, .ref lw, .int (nI m), .int wa, .int lp]), (no, ob 3 [.ref tno, .int s.2.1, .int s.2.2.1, .int s.2.2.2.1, .int s.2.2.2.2.1, .int s.2.2.2.2.2.1, .int s.2.2.2.2.2.2.1, .int s.2.2.2.2.2.2.2]), (tno, aI E 4 s.1), (to, ob 6 [.ref tS, .ref tV, .ref tM, .int (nI nt)]), (tx, ob 7 [.ref tl, .int (nI n), .ref tw, .ref tq, .int cl, .int x1, .int x2, .int x3])]) (fun _ => some (.int (sel11 y (nI m) wa s.2.2.2.2.1 s.2.1 s.2.2.1 s.2.2.2.2.2.1 s.2.2.2.1 s.2.2.2.2.2.2.1 (nI nt) un (nI n)))) (fun _ => True)) := by
  refine CT.ofV (by decide +kernel) (Nat.le_of_ble_eq_true rfl) ?_
  refine V.locals2 (lv2 := [(0, .ref a), (1, .int y)]) rfl ?_
  refine V.iload_n dX10_count_0 1 rfl ?_
  by_cases e1_0 : y = 0
  · refine V.topc e1_0 ?_
    refine V.tableIn (tgt := 60) (off := 59) dX10_count_1 (by decide) (by decide) (by decide) (by decide) ?_
    refine V.aload_n dX10_count_60 0 rfl ?_
    refine V.getf 0 1 rfl fa_X10_19_9 rfl dX10_count_61 ?_
    refine V.getf 1 3 rfl fa_X10_89_1 rfl dX10_count_64 ?_
    exact V.iret rfl dX10_count_67 (⟨(), by unfold sel11; rw [if_pos e1_0] <;> rfl, rfl, rfl, trivial⟩)
  by_cases e1_1 : y = 1
  · refine V.topc e1_1 ?_
    refine V.tableIn (tgt := 68) (off := 67) dX10_count_1 (by decide) (by decide) (by decide) (by decide) ?_
    refine V.aload_n dX10_count_68 0 rfl ?_
    refine V.getf 0 1 rfl fa_X10_19_9 rfl dX10_count_69 ?_
    refine V.getf 1 4 rfl fa_X10_253_1 rfl dX10_count_72 ?_
    exact V.iret rfl dX10_count_75 (⟨(), by unfold sel11; rw [if_neg e1_0, if_pos e1_1] <;> rfl, rfl, rfl, trivial⟩)
  by_cases e1_2 : y = 2
  · refine V.topc e1_2 ?_
    refine V.tableIn (tgt := 76) (off := 75) dX10_count_1 (by decide) (by decide) (by decide) (by decide) ?_
    refine V.aload_n dX10_count_76 0 rfl ?_
    refine V.getf 0 2 rfl fa_X10_26_9 rfl dX10_count_77 ?_
    refine V.getf 2 4 rfl fa_X10_74_3 rfl dX10_count_80 ?_
    exact V.iret rfl dX10_count_83 (⟨(), by unfold sel11; rw [if_neg e1_0, if_neg e1_1, if_pos e1_2] <;> rfl, rfl, rfl, trivial⟩)
  by_cases e1_3 : y = 3
  · refine V.topc e1_3 ?_
    refine V.tableIn (tgt := 84) (off := 83) dX10_count_1 (by decide) (by decide) (by decide) (by decide) ?_
    refine V.aload_n dX10_count_84 0 rfl ?_
    refine V.getf 0 2 rfl fa_X10_26_9 rfl dX10_count_85 ?_
    refine V.getf 2 1 rfl fa_X10_189_3 rfl dX10_count_88 ?_
    exact V.iret rfl dX10_count_91 (⟨(), by unfold sel11; rw [if_neg e1_0, if_neg e1_1, if_neg e1_2, if_pos e1_3] <;> rfl, rfl, rfl, trivial⟩)
  by_cases e1_4 : y = 4
  · refine V.topc e1_4 ?_
    refine V.tableIn (tgt := 92) (off := 91) dX10_count_1 (by decide) (by decide) (by decide) (by decide) ?_
    refine V.aload_n dX10_count_92 0 rfl ?_
    refine V.getf 0 2 rfl fa_X10_26_9 rfl dX10_count_93 ?_
    refine V.getf 2 2 rfl fa_X10_176_3 rfl dX10_count_96 ?_
    exact V.iret rfl dX10_count_99 (⟨(), by unfold sel11; rw [if_neg e1_0, if_neg e1_1, if_neg e1_2, if_neg e1_3, if_pos e1_4] <;> rfl, rfl, rfl, trivial⟩)
  by_cases e1_5 : y = 5
  · refine V.topc e1_5 ?_
    refine V.tableIn (tgt := 100) (off := 99) dX10_count_1 (by decide) (by decide) (by decide) (by decide) ?_
    refine V.aload_n dX10_count_100 0 rfl ?_
    refine V.getf 0 2 rfl fa_X10_26_9 rfl dX10_count_101 ?_
    refine V.getf 2 5 rfl fa_X10_156_3 rfl dX10_count_104 ?_
    exact V.iret rfl dX10_count_107 (⟨(), by unfold sel11; rw [if_neg e1_0, if_neg e1_1, if_neg e1_2, if_neg e1_3, if_neg e1_4, if_pos e1_5] <;> rfl, rfl, rfl, trivial⟩)
  by_cases e1_6 : y = 6
  · refine V.topc e1_6 ?_
    refine V.tableIn (tgt := 108) (off := 107) dX10_count_1 (by decide) (by decide) (by decide) (by decide) ?_
    refine V.aload_n dX10_count_108 0 rfl ?_
    refine V.getf 0 2 rfl fa_X10_26_9 rfl dX10_count_109 ?_
    refine V.getf 2 3 rfl fa_X10_159_3 rfl dX10_count_112 ?_
    exact V.iret rfl dX10_count_115 (⟨(), by unfold sel11; rw [if_neg e1_0, if_neg e1_1, if_neg e1_2, if_neg e1_3, if_neg e1_4, if_neg e1_5, if_pos e1_6] <;> rfl, rfl, rfl, trivial⟩)
  by_cases e1_7 : y = 7
  · refine V.topc e1_7 ?_
    refine V.tableIn (tgt := 116) (off := 115) dX10_count_1 (by decide) (by decide) (by decide) (by decide) ?_
    refine V.aload_n dX10_count_116 0 rfl ?_
    refine V.getf 0 2 rfl fa_X10_26_9 rfl dX10_count_117 ?_
    refine V.getf 2 6 rfl fa_X10_256_3 rfl dX10_count_120 ?_
    exact V.iret rfl dX10_count_123 (⟨(), by unfold sel11; rw [if_neg e1_0, if_neg e1_1, if_neg e1_2, if_neg e1_3, if_neg e1_4, if_neg e1_5, if_neg e1_6, if_pos e1_7] <;> rfl, rfl, rfl, trivial⟩)
  by_cases e1_8 : y = 8
  · refine V.topc e1_8 ?_
    refine V.tableIn (tgt := 124) (off := 123) dX10_count_1 (by decide) (by decide) (by decide) (by decide) ?_
    refine V.aload_n dX10_count_124 0 rfl ?_
    refine V.getf 0 3 rfl fa_X10_33_9 rfl dX10_count_125 ?_
    refine V.getf 4 3 rfl fa_X10_118_6 rfl dX10_count_128 ?_
    exact V.iret rfl dX10_count_131 (⟨(), by unfold sel11; rw [if_neg e1_0, if_neg e1_1, if_neg e1_2, if_neg e1_3, if_neg e1_4, if_neg e1_5, if_neg e1_6, if_neg e1_7, if_pos e1_8] <;> rfl, rfl, rfl, trivial⟩)
  by_cases e1_9 : y = 9
  · refine V.topc e1_9 ?_
    refine V.tableIn (tgt := 132) (off := 131) dX10_count_1 (by decide) (by decide) (by decide) (by decide) ?_
    refine V.aload_n dX10_count_132 0 rfl ?_
    refine V.getf 0 6 rfl fa_X10_121_9 rfl dX10_count_133 ?_
    exact V.iret rfl dX10_count_136 (⟨(), by unfold sel11; rw [if_neg e1_0, if_neg e1_1, if_neg e1_2, if_neg e1_3, if_neg e1_4, if_neg e1_5, if_neg e1_6, if_neg e1_7, if_neg e1_8, if_pos e1_9] <;> rfl, rfl, rfl, trivial⟩)
  by_cases e1_10 : y = 10
  · refine V.topc e1_10 ?_
    refine V.tableIn (tgt := 137) (off := 136) dX10_count_1 (by decide) (by decide) (by decide) (by decide) ?_
    refine V.aload_n dX10_count_137 0 rfl ?_
    refine V.getf 0 0 rfl fa_X10_10_9 rfl dX10_count_138 ?_
    refine V.getf 5 1 rfl fa_X10_86_7 rfl dX10_count_141 ?_
    exact V.iret rfl dX10_count_144 (⟨(), by unfold sel11; rw [if_neg e1_0, if_neg e1_1, if_neg e1_2, if_neg e1_3, if_neg e1_4, if_neg e1_5, if_neg e1_6, if_neg e1_7, if_neg e1_8, if_neg e1_9, if_pos e1_10] <;> rfl, rfl, rfl, trivial⟩)
  refine V.tableOut (tgt := 145) dX10_count_1 (sw_out 10 (by omega) (fun j hj => by rcases (show j = 0 ∨ j = 1 ∨ j = 2 ∨ j = 3 ∨ j = 4 ∨ j = 5 ∨ j = 6 ∨ j = 7 ∨ j = 8 ∨ j = 9 ∨ j = 10 by omega) with rfl | rfl | rfl | rfl | rfl | rfl | rfl | rfl | rfl | rfl | rfl <;> assumption)) (by decide) ?_
  refine V.bipush (v := (-3)) dX10_count_145 (by decide) ?_
  exact V.iret rfl dX10_count_147 (⟨(), by unfold sel11; rw [if_neg e1_0, if_neg e1_1, if_neg e1_2, if_neg e1_3, if_neg e1_4, if_neg e1_5, if_neg e1_6, if_neg e1_7, if_neg e1_8, if_neg e1_9, if_neg e1_10] <;> rfl, rfl, rfl, trivial⟩)

set_option maxHeartbeats 4000000 in
set_option maxRecDepth 100000 in
theorem c_RL_shopU (E : vEnv) (l : Launch) (L : List Nat) (h : Nat → va_E) (a : Nat) (tx : Nat) (lo : Nat) (no : Nat) (to : Nat) (pa : Nat) (ke : Nat) (ik : Nat) (sc : Nat) (w : Nat) (bp : Nat) (ac : Nat) (br : Nat) (pe : Int32) (un : Int32) (bs : Int32) (bm : Int32) (lt : Nat) (lr : Nat) (lw : Nat) (m : Nat) (wa : Int32) (lp : Int32) (x : Int32) (y : Int32) (hx : withinI x 0 (nI m - 1) = 0) : CT E l yX10_shop cX10_shop 4 (some (.int)) 2 0 0 L h [(a, ob 9 [.ref tx, .ref lo, .ref no, .ref to, .ref pa, .int pe, .int un, .ref ke, .ref ik, .ref sc, .ref w, .ref bp, .ref ac, .ref br, .int bs, .int bm]), (lo, ob 1 [.ref lt, .ref lr, .ref lw, .int (nI m), .int wa, .int lp])] [.ref a, .int x, .int y] (qP L h (fun (_ : Unit) => [(a, ob 9 [.ref tx, .ref lo, .ref no, .ref to, .ref pa, .int pe, .int un, .ref ke, .ref ik, .ref sc, .ref w, .ref bp, .ref ac, .ref br, .int bs, .int bm]), (lo, ob 1 [.ref lt, .ref lr, .ref lw, .int (nI m), .int wa, .int lp])]) (fun _ => some (.int (-2))) (fun _ => True)) := by
  refine CT.ofV (by decide +kernel) (Nat.le_of_ble_eq_true rfl) ?_
  refine V.locals2 (lv2 := [(0, .ref a), (1, .int x), (2, .int y)]) rfl ?_
  refine V.aload_n dX10_shop_0 0 rfl ?_
  refine V.getf 0 1 rfl fa_X10_19_9 rfl dX10_shop_1 ?_
  refine V.iload_n dX10_shop_4 1 rfl ?_
  refine V.callVp (As := [.int x]) (rest := []) [1] (c_Lane_shopOfN E l L _ lo lt lr lw m wa lp x (hx)) rfl (by decide) mi_X1_shopOf 1 rfl rfl w_449 w_450 w_451 rfl rfl (Nat.le_of_ble_eq_true rfl) ⟨by decide, by decide⟩ ⟨by decide, by decide⟩ dX10_shop_5 (vw2 := fun _ => [(a, ob 9 [.ref tx, .ref lo, .ref no, .ref to, .ref pa, .int pe, .int un, .ref ke, .ref ik, .ref sc, .ref w, .ref bp, .ref ac, .ref br, .int bs, .int bm]), (lo, ob 1 [.ref lt, .ref lr, .ref lw, .int (nI m), .int wa, .int lp])]) (st2 := fun _ => [.null]) (fun _ => rfl) (fun _ => rfl) (fun _ => rfl) (fun _ _ => ?_)
  refine V.astore_nN (lv2 := [(3, .null), (0, .ref a), (1, .int x), (2, .int y)]) dX10_shop_8 rfl (by decide) rfl ?_
  refine V.aload_nN dX10_shop_9 0 rfl ?_
  refine V.ifnonnullN dX10_shop_10 ?_
  refine V.bipush (v := (-2)) dX10_shop_13 (by decide) ?_
  exact V.iret rfl dX10_shop_15 (⟨(), rfl, rfl, rfl, trivial⟩)

set_option maxHeartbeats 4000000 in
set_option maxRecDepth 100000 in
theorem c_RL_shop (E : vEnv) (l : Launch) (L : List Nat) (h : Nat → va_E) (a : Nat) (tx : Nat) (lo : Nat) (no : Nat) (to : Nat) (pa : Nat) (ke : Nat) (ik : Nat) (sc : Nat) (w : Nat) (bp : Nat) (ac : Nat) (br : Nat) (pe : Int32) (un : Int32) (bs : Int32) (bm : Int32) (lt : Nat) (lr : Nat) (lw : Nat) (m : Nat) (wa : Int32) (lp : Int32) (tno : Nat) (s : NS) (wf : Nat → Option Nat) (k : Nat) (q : Nat) (κ : Nat) (so : Nat) (sg : Int32) (pr : Int32) (y : Int32) (hkm : k < m) (hm : m ≤ 6) (hq : wf k = some q) (hk : κ < 4) (hs : so < 4) : CT E l yX10_shop cX10_shop 4 (some (.int)) 3 0 0 L h [(a, ob 9 [.ref tx, .ref lo, .ref no, .ref to, .ref pa, .int pe, .int un, .ref ke, .ref ik, .ref sc, .ref w, .ref bp, .ref ac, .ref br, .int bs, .int bm]), (lo, ob 1 [.ref lt, .ref lr, .ref lw, .int (nI m), .int wa, .int lp]), (lw, aS E 6 wf), (no, ob 3 [.ref tno, .int s.2.1, .int s.2.2.1, .int s.2.2.2.1, .int s.2.2.2.2.1, .int s.2.2.2.2.2.1, .int s.2.2.2.2.2.2.1, .int s.2.2.2.2.2.2.2]), (tno, aI E 4 s.1), (q, ob (kci κ) [.int (nI so), .int sg, .int pr])] [.ref a, .int (nI k), .int y] (qP L h (fun (_ : Unit) => [(a, ob 9 [.ref tx, .ref lo, .ref no, .ref to, .ref pa, .int pe, .int un, .ref ke, .ref ik, .ref sc, .ref w, .ref bp, .ref ac, .ref br, .int bs, .int bm]), (lo, ob 1 [.ref lt, .ref lr, .ref lw, .int (nI m), .int wa, .int lp]), (lw, aS E 6 wf), (no, ob 3 [.ref tno, .int s.2.1, .int s.2.2.1, .int s.2.2.2.1, .int s.2.2.2.2.1, .int s.2.2.2.2.2.1, .int s.2.2.2.2.2.2.1, .int s.2.2.2.2.2.2.2]), (tno, aI E 4 s.1), (q, ob (kci κ) [.int (nI so), .int sg, .int pr])]) (fun _ => some (.int (sel7 y (kindI κ) (nI so) sg pr (placeI m k s.2.2.2.2.2.2.2) ((s.2.2.2.2.2.1 >>> (nI k &&& 31)) &&& 1) (muchN κ so sg s)))) (fun _ => True)) := by
  refine CT.ofV (by decide +kernel) (Nat.le_of_ble_eq_true rfl) ?_
  refine V.locals2 (lv2 := [(0, .ref a), (1, .int (nI k)), (2, .int y)]) rfl ?_
  refine V.aload_n dX10_shop_0 0 rfl ?_
  refine V.getf 0 1 rfl fa_X10_19_9 rfl dX10_shop_1 ?_
  refine V.iload_n dX10_shop_4 1 rfl ?_
  refine V.callVp (As := [.int (nI k)]) (rest := []) [1, 2] (c_Lane_shopOf E l L _ lo lt lr lw m wa lp wf k q (hkm) (hm) (hq)) rfl (by decide) mi_X1_shopOf 1 rfl rfl w_449 w_450 w_451 rfl rfl (Nat.le_of_ble_eq_true rfl) ⟨by decide, by decide⟩ ⟨by decide, by decide⟩ dX10_shop_5 (vw2 := fun _ => [(a, ob 9 [.ref tx, .ref lo, .ref no, .ref to, .ref pa, .int pe, .int un, .ref ke, .ref ik, .ref sc, .ref w, .ref bp, .ref ac, .ref br, .int bs, .int bm]), (lo, ob 1 [.ref lt, .ref lr, .ref lw, .int (nI m), .int wa, .int lp]), (lw, aS E 6 wf), (no, ob 3 [.ref tno, .int s.2.1, .int s.2.2.1, .int s.2.2.2.1, .int s.2.2.2.2.1, .int s.2.2.2.2.2.1, .int s.2.2.2.2.2.2.1, .int s.2.2.2.2.2.2.2]), (tno, aI E 4 s.1), (q, ob (kci κ) [.int (nI so), .int sg, .int pr])]) (st2 := fun _ => [.ref q]) (fun _ => rfl) (fun _ => rfl) (fun _ => rfl) (fun _ _ => ?_)
  refine V.astore_n (lv2 := [(3, .ref q), (0, .ref a), (1, .int (nI k)), (2, .int y)]) dX10_shop_8 rfl (by decide) rfl ?_
  refine V.aload_n dX10_shop_9 0 rfl ?_
  refine V.ifnonnull (tgt := 16) dX10_shop_10 (by decide) ?_
  refine V.iload_n dX10_shop_16 3 rfl ?_
  by_cases e17_0 : y = 0
  · refine V.topc e17_0 ?_
    refine V.tableIn (tgt := 60) (off := 43) dX10_shop_17 (by decide) (by decide) (by decide) (by decide) ?_
    refine V.aload_n dX10_shop_60 0 rfl ?_
    refine V.kind (rest := []) (by assumption) 5 rfl w_453 rfl (Nat.le_of_ble_eq_true rfl) ⟨by decide, by decide⟩ ⟨by decide, by decide⟩ dX10_shop_61 ?_
    exact V.iret rfl dX10_shop_64 (⟨(), by unfold sel7; rw [if_pos e17_0] <;> rfl, rfl, rfl, trivial⟩)
  by_cases e17_1 : y = 1
  · refine V.topc e17_1 ?_
    refine V.tableIn (tgt := 65) (off := 48) dX10_shop_17 (by decide) (by decide) (by decide) (by decide) ?_
    refine V.aload_n dX10_shop_65 0 rfl ?_
    refine V.getf 5 0 rfl (fas_X10_143 (by assumption)) rfl dX10_shop_66 ?_
    exact V.iret rfl dX10_shop_69 (⟨(), by unfold sel7; rw [if_neg e17_0, if_pos e17_1] <;> rfl, rfl, rfl, trivial⟩)
  by_cases e17_2 : y = 2
  · refine V.topc e17_2 ?_
    refine V.tableIn (tgt := 70) (off := 53) dX10_shop_17 (by decide) (by decide) (by decide) (by decide) ?_
    refine V.aload_n dX10_shop_70 0 rfl ?_
    refine V.getf 5 1 rfl (fas_X10_146 (by assumption)) rfl dX10_shop_71 ?_
    exact V.iret rfl dX10_shop_74 (⟨(), by unfold sel7; rw [if_neg e17_0, if_neg e17_1, if_pos e17_2] <;> rfl, rfl, rfl, trivial⟩)
  by_cases e17_3 : y = 3
  · refine V.topc e17_3 ?_
    refine V.tableIn (tgt := 75) (off := 58) dX10_shop_17 (by decide) (by decide) (by decide) (by decide) ?_
    refine V.aload_n dX10_shop_75 0 rfl ?_
    refine V.getf 5 2 rfl (fas_X10_149 (by assumption)) rfl dX10_shop_76 ?_
    exact V.iret rfl dX10_shop_79 (⟨(), by unfold sel7; rw [if_neg e17_0, if_neg e17_1, if_neg e17_2, if_pos e17_3] <;> rfl, rfl, rfl, trivial⟩)
  by_cases e17_4 : y = 4
  · refine V.topc e17_4 ?_
    refine V.tableIn (tgt := 80) (off := 63) dX10_shop_17 (by decide) (by decide) (by decide) (by decide) ?_
    refine V.aload_n dX10_shop_80 1 rfl ?_
    refine V.getf 0 2 rfl fa_X10_26_9 rfl dX10_shop_81 ?_
    refine V.aload_n dX10_shop_84 1 rfl ?_
    refine V.getf 0 1 rfl fa_X10_19_9 rfl dX10_shop_85 ?_
    refine V.iload_n dX10_shop_88 2 rfl ?_
    refine V.callVp (As := [.ref lo, .int (nI k)]) (rest := []) [3, 4, 1] (c_Nose_placeOf E l L _ no tno s lo lt lr lw m wa lp k) rfl (by decide) mi_X3_placeOf 3 rfl rfl w_468 w_469 w_470 rfl rfl (Nat.le_of_ble_eq_true rfl) ⟨by decide, by decide⟩ ⟨by decide, by decide⟩ dX10_shop_89 (vw2 := fun _ => [(a, ob 9 [.ref tx, .ref lo, .ref no, .ref to, .ref pa, .int pe, .int un, .ref ke, .ref ik, .ref sc, .ref w, .ref bp, .ref ac, .ref br, .int bs, .int bm]), (lo, ob 1 [.ref lt, .ref lr, .ref lw, .int (nI m), .int wa, .int lp]), (lw, aS E 6 wf), (no, ob 3 [.ref tno, .int s.2.1, .int s.2.2.1, .int s.2.2.2.1, .int s.2.2.2.2.1, .int s.2.2.2.2.2.1, .int s.2.2.2.2.2.2.1, .int s.2.2.2.2.2.2.2]), (tno, aI E 4 s.1), (q, ob (kci κ) [.int (nI so), .int sg, .int pr])]) (st2 := fun _ => [.int (placeI m k s.2.2.2.2.2.2.2)]) (fun _ => rfl) (fun _ => rfl) (fun _ => rfl) (fun _ _ => ?_)
    exact V.iret rfl dX10_shop_92 (⟨(), by unfold sel7; rw [if_neg e17_0, if_neg e17_1, if_neg e17_2, if_neg e17_3, if_pos e17_4] <;> rfl, rfl, rfl, trivial⟩)
  by_cases e17_5 : y = 5
  · refine V.topc e17_5 ?_
    refine V.tableIn (tgt := 93) (off := 76) dX10_shop_17 (by decide) (by decide) (by decide) (by decide) ?_
    refine V.aload_n dX10_shop_93 1 rfl ?_
    refine V.getf 0 2 rfl fa_X10_26_9 rfl dX10_shop_94 ?_
    refine V.getf 3 5 rfl fa_X10_156_3 rfl dX10_shop_97 ?_
    refine V.iload_n dX10_shop_100 2 rfl ?_
    refine V.ishr dX10_shop_101 ?_
    refine V.iconst (v := 1) dX10_shop_102 (by decide) ?_
    refine V.iand dX10_shop_103 ?_
    exact V.iret rfl dX10_shop_104 (⟨(), by unfold sel7; rw [if_neg e17_0, if_neg e17_1, if_neg e17_2, if_neg e17_3, if_neg e17_4, if_pos e17_5] <;> rfl, rfl, rfl, trivial⟩)
  by_cases e17_6 : y = 6
  · refine V.topc e17_6 ?_
    refine V.tableIn (tgt := 105) (off := 88) dX10_shop_17 (by decide) (by decide) (by decide) (by decide) ?_
    refine V.aload_n dX10_shop_105 0 rfl ?_
    refine V.aload_n dX10_shop_106 1 rfl ?_
    refine V.getf 0 2 rfl fa_X10_26_9 rfl dX10_shop_107 ?_
    refine V.getf 3 0 rfl fa_X10_130_3 rfl dX10_shop_110 ?_
    refine V.aload_n dX10_shop_113 0 rfl ?_
    refine V.getf 5 0 rfl (fas_X10_143 (by assumption)) rfl dX10_shop_114 ?_
    refine V.iald 4 rfl (mod4_in hs) dX10_shop_117 ?_
    refine V.topc (v := (s.1 so)) (by rw [nI_clamp (by omega)] <;> rfl) ?_
    refine V.aload_n dX10_shop_118 1 rfl ?_
    refine V.getf 0 2 rfl fa_X10_26_9 rfl dX10_shop_119 ?_
    refine V.getf 3 3 rfl fa_X10_159_3 rfl dX10_shop_122 ?_
    refine V.if_le (tgt := 132) dX10_shop_125 (by decide) (fun c1_125 => ?_) (fun c1_125 => ?_)
    · skip
      have hcold : coldB s.2.2.2.1 = 0 := if_neg (Int32.not_lt.mpr c1_125)
      refine V.iconst (v := 0) dX10_shop_132 (by decide) ?_
      refine V.smeltBy (rest := []) (by assumption) 5 rfl w_472 rfl (Nat.le_of_ble_eq_true rfl) ⟨by decide, by decide⟩ ⟨by decide, by decide⟩ dX10_shop_133 ?_
      refine V.topc (v := (muchN κ so sg s)) (by unfold muchN; rw [hcold]) ?_
      exact V.iret rfl dX10_shop_136 (⟨(), by unfold sel7; rw [if_neg e17_0, if_neg e17_1, if_neg e17_2, if_neg e17_3, if_neg e17_4, if_neg e17_5, if_pos e17_6] <;> rfl, rfl, rfl, trivial⟩)
    · skip
      have hcold : coldB s.2.2.2.1 = 1 := if_pos (Int32.not_le.mp c1_125)
      refine V.iconst (v := 1) dX10_shop_128 (by decide) ?_
      refine V.goto (tgt := 133) dX10_shop_129 (by decide) ?_
      refine V.smeltBy (rest := []) (by assumption) 5 rfl w_472 rfl (Nat.le_of_ble_eq_true rfl) ⟨by decide, by decide⟩ ⟨by decide, by decide⟩ dX10_shop_133 ?_
      refine V.topc (v := (muchN κ so sg s)) (by unfold muchN; rw [hcold]) ?_
      exact V.iret rfl dX10_shop_136 (⟨(), by unfold sel7; rw [if_neg e17_0, if_neg e17_1, if_neg e17_2, if_neg e17_3, if_neg e17_4, if_neg e17_5, if_pos e17_6] <;> rfl, rfl, rfl, trivial⟩)
  refine V.tableOut (tgt := 137) dX10_shop_17 (sw_out 6 (by omega) (fun j hj => by rcases (show j = 0 ∨ j = 1 ∨ j = 2 ∨ j = 3 ∨ j = 4 ∨ j = 5 ∨ j = 6 by omega) with rfl | rfl | rfl | rfl | rfl | rfl | rfl <;> assumption)) (by decide) ?_
  refine V.bipush (v := (-3)) dX10_shop_137 (by decide) ?_
  exact V.iret rfl dX10_shop_139 (⟨(), by unfold sel7; rw [if_neg e17_0, if_neg e17_1, if_neg e17_2, if_neg e17_3, if_neg e17_4, if_neg e17_5, if_neg e17_6] <;> rfl, rfl, rfl, trivial⟩)

set_option maxHeartbeats 4000000 in
set_option maxRecDepth 100000 in
theorem c_RL_asU (E : vEnv) (l : Launch) (L : List Nat) (h : Nat → va_E) (a : Nat) (tx : Nat) (lo : Nat) (no : Nat) (to : Nat) (pa : Nat) (ke : Nat) (ik : Nat) (sc : Nat) (w : Nat) (bp : Nat) (ac : Nat) (br : Nat) (pe : Int32) (un : Int32) (bs : Int32) (bm : Int32) (lt : Nat) (lr : Nat) (lw : Nat) (m : Nat) (wa : Int32) (lp : Int32) (x : Int32) (y : Int32) (hx : withinI x 0 (nI m - 1) = 0) : CT E l yX10_as cX10_as 5 (some (.int)) 2 0 0 L h [(a, ob 9 [.ref tx, .ref lo, .ref no, .ref to, .ref pa, .int pe, .int un, .ref ke, .ref ik, .ref sc, .ref w, .ref bp, .ref ac, .ref br, .int bs, .int bm]), (lo, ob 1 [.ref lt, .ref lr, .ref lw, .int (nI m), .int wa, .int lp])] [.ref a, .int x, .int y] (qP L h (fun (_ : Unit) => [(a, ob 9 [.ref tx, .ref lo, .ref no, .ref to, .ref pa, .int pe, .int un, .ref ke, .ref ik, .ref sc, .ref w, .ref bp, .ref ac, .ref br, .int bs, .int bm]), (lo, ob 1 [.ref lt, .ref lr, .ref lw, .int (nI m), .int wa, .int lp])]) (fun _ => some (.int (-2))) (fun _ => True)) := by
  refine CT.ofV (by decide +kernel) (Nat.le_of_ble_eq_true rfl) ?_
  refine V.locals2 (lv2 := [(0, .ref a), (1, .int x), (2, .int y)]) rfl ?_
  refine V.aload_n dX10_as_0 0 rfl ?_
  refine V.getf 0 1 rfl fa_X10_19_9 rfl dX10_as_1 ?_
  refine V.iload_n dX10_as_4 1 rfl ?_
  refine V.callVp (As := [.int x]) (rest := []) [1] (c_Lane_shopOfN E l L _ lo lt lr lw m wa lp x (hx)) rfl (by decide) mi_X1_shopOf 1 rfl rfl w_449 w_450 w_451 rfl rfl (Nat.le_of_ble_eq_true rfl) ⟨by decide, by decide⟩ ⟨by decide, by decide⟩ dX10_as_5 (vw2 := fun _ => [(a, ob 9 [.ref tx, .ref lo, .ref no, .ref to, .ref pa, .int pe, .int un, .ref ke, .ref ik, .ref sc, .ref w, .ref bp, .ref ac, .ref br, .int bs, .int bm]), (lo, ob 1 [.ref lt, .ref lr, .ref lw, .int (nI m), .int wa, .int lp])]) (st2 := fun _ => [.null]) (fun _ => rfl) (fun _ => rfl) (fun _ => rfl) (fun _ _ => ?_)
  refine V.astore_nN (lv2 := [(3, .null), (0, .ref a), (1, .int x), (2, .int y)]) dX10_as_8 rfl (by decide) rfl ?_
  refine V.aload_nN dX10_as_9 0 rfl ?_
  refine V.ifnonnullN dX10_as_10 ?_
  refine V.bipush (v := (-2)) dX10_as_13 (by decide) ?_
  exact V.iret rfl dX10_as_15 (⟨(), rfl, rfl, rfl, trivial⟩)

set_option maxHeartbeats 4000000 in
set_option maxRecDepth 100000 in
theorem c_RL_asO (E : vEnv) (l : Launch) (L : List Nat) (h : Nat → va_E) (a : Nat) (tx : Nat) (lo : Nat) (no : Nat) (to : Nat) (pa : Nat) (ke : Nat) (ik : Nat) (sc : Nat) (w : Nat) (bp : Nat) (ac : Nat) (br : Nat) (pe : Int32) (un : Int32) (bs : Int32) (bm : Int32) (lt : Nat) (lr : Nat) (lw : Nat) (m : Nat) (wa : Int32) (lp : Int32) (wf : Nat → Option Nat) (k : Nat) (q : Nat) (y : Int32) (hkm : k < m) (hm : m ≤ 6) (hq : wf k = some q) (hy : withinI y 0 4 = 0) : CT E l yX10_as cX10_as 5 (some (.int)) 3 0 0 L h [(a, ob 9 [.ref tx, .ref lo, .ref no, .ref to, .ref pa, .int pe, .int un, .ref ke, .ref ik, .ref sc, .ref w, .ref bp, .ref ac, .ref br, .int bs, .int bm]), (lo, ob 1 [.ref lt, .ref lr, .ref lw, .int (nI m), .int wa, .int lp]), (lw, aS E 6 wf)] [.ref a, .int (nI k), .int y] (qP L h (fun (_ : Unit) => [(a, ob 9 [.ref tx, .ref lo, .ref no, .ref to, .ref pa, .int pe, .int un, .ref ke, .ref ik, .ref sc, .ref w, .ref bp, .ref ac, .ref br, .int bs, .int bm]), (lo, ob 1 [.ref lt, .ref lr, .ref lw, .int (nI m), .int wa, .int lp]), (lw, aS E 6 wf)]) (fun _ => some (.int (-3))) (fun _ => True)) := by
  refine CT.ofV (by decide +kernel) (Nat.le_of_ble_eq_true rfl) ?_
  refine V.locals2 (lv2 := [(0, .ref a), (1, .int (nI k)), (2, .int y)]) rfl ?_
  refine V.aload_n dX10_as_0 0 rfl ?_
  refine V.getf 0 1 rfl fa_X10_19_9 rfl dX10_as_1 ?_
  refine V.iload_n dX10_as_4 1 rfl ?_
  refine V.callVp (As := [.int (nI k)]) (rest := []) [1, 2] (c_Lane_shopOf E l L _ lo lt lr lw m wa lp wf k q (hkm) (hm) (hq)) rfl (by decide) mi_X1_shopOf 1 rfl rfl w_449 w_450 w_451 rfl rfl (Nat.le_of_ble_eq_true rfl) ⟨by decide, by decide⟩ ⟨by decide, by decide⟩ dX10_as_5 (vw2 := fun _ => [(a, ob 9 [.ref tx, .ref lo, .ref no, .ref to, .ref pa, .int pe, .int un, .ref ke, .ref ik, .ref sc, .ref w, .ref bp, .ref ac, .ref br, .int bs, .int bm]), (lo, ob 1 [.ref lt, .ref lr, .ref lw, .int (nI m), .int wa, .int lp]), (lw, aS E 6 wf)]) (st2 := fun _ => [.ref q]) (fun _ => rfl) (fun _ => rfl) (fun _ => rfl) (fun _ _ => ?_)
  refine V.astore_n (lv2 := [(3, .ref q), (0, .ref a), (1, .int (nI k)), (2, .int y)]) dX10_as_8 rfl (by decide) rfl ?_
  refine V.aload_n dX10_as_9 0 rfl ?_
  refine V.ifnonnull (tgt := 16) dX10_as_10 (by decide) ?_
  refine V.iload_n dX10_as_16 3 rfl ?_
  refine V.iconst (v := 0) dX10_as_17 (by decide) ?_
  refine V.iconst (v := 4) dX10_as_18 (by decide) ?_
  refine V.callSp (As := [.int y, .int 0, .int 4]) (rest := []) [] (c_within E l L _ y 0 4) rfl (by decide) mi_X10_isWithin w_267 w_268 rfl rfl (Nat.le_of_ble_eq_true rfl) ⟨by decide, by decide⟩ ⟨by decide, by decide⟩ dX10_as_19 (vw2 := fun _ => [(a, ob 9 [.ref tx, .ref lo, .ref no, .ref to, .ref pa, .int pe, .int un, .ref ke, .ref ik, .ref sc, .ref w, .ref bp, .ref ac, .ref br, .int bs, .int bm]), (lo, ob 1 [.ref lt, .ref lr, .ref lw, .int (nI m), .int wa, .int lp]), (lw, aS E 6 wf)]) (st2 := fun _ => [.int (withinI y 0 4)]) (fun _ => rfl) (fun _ => rfl) (fun _ => rfl) (fun _ _ => ?_)
  refine V.topc (v := 0) (hy) ?_
  refine V.if_ne (tgt := 28) dX10_as_22 (by decide) (fun hc => absurd (by decide) hc) (fun _ => ?_)
  refine V.bipush (v := (-3)) dX10_as_25 (by decide) ?_
  exact V.iret rfl dX10_as_27 (⟨(), rfl, rfl, rfl, trivial⟩)

set_option maxHeartbeats 4000000 in
set_option maxRecDepth 100000 in
theorem c_RL_asN (E : vEnv) (l : Launch) (L : List Nat) (h : Nat → va_E) (a : Nat) (tx : Nat) (lo : Nat) (no : Nat) (to : Nat) (pa : Nat) (ke : Nat) (ik : Nat) (sc : Nat) (w : Nat) (bp : Nat) (ac : Nat) (br : Nat) (pe : Int32) (un : Int32) (bs : Int32) (bm : Int32) (lt : Nat) (lr : Nat) (lw : Nat) (m : Nat) (wa : Int32) (lp : Int32) (wf : Nat → Option Nat) (k : Nat) (q : Nat) (κ : Nat) (so : Nat) (sg : Int32) (pr : Int32) (y : Int32) (hkm : k < m) (hm : m ≤ 6) (hq : wf k = some q) (hk : κ < 4) (hs : so < 4) (hy : withinI y 0 4 = 1) (hy2 : ofKindI κ y = 0) : CT E l yX10_as cX10_as 5 (some (.int)) 3 0 0 L h [(a, ob 9 [.ref tx, .ref lo, .ref no, .ref to, .ref pa, .int pe, .int un, .ref ke, .ref ik, .ref sc, .ref w, .ref bp, .ref ac, .ref br, .int bs, .int bm]), (lo, ob 1 [.ref lt, .ref lr, .ref lw, .int (nI m), .int wa, .int lp]), (lw, aS E 6 wf), (q, ob (kci κ) [.int (nI so), .int sg, .int pr])] [.ref a, .int (nI k), .int y] (qP L h (fun (_ : Unit) => [(a, ob 9 [.ref tx, .ref lo, .ref no, .ref to, .ref pa, .int pe, .int un, .ref ke, .ref ik, .ref sc, .ref w, .ref bp, .ref ac, .ref br, .int bs, .int bm]), (lo, ob 1 [.ref lt, .ref lr, .ref lw, .int (nI m), .int wa, .int lp]), (lw, aS E 6 wf), (q, ob (kci κ) [.int (nI so), .int sg, .int pr])]) (fun _ => some (.int (-4))) (fun _ => True)) := by
  refine CT.ofV (by decide +kernel) (Nat.le_of_ble_eq_true rfl) ?_
  refine V.locals2 (lv2 := [(0, .ref a), (1, .int (nI k)), (2, .int y)]) rfl ?_
  refine V.aload_n dX10_as_0 0 rfl ?_
  refine V.getf 0 1 rfl fa_X10_19_9 rfl dX10_as_1 ?_
  refine V.iload_n dX10_as_4 1 rfl ?_
  refine V.callVp (As := [.int (nI k)]) (rest := []) [1, 2] (c_Lane_shopOf E l L _ lo lt lr lw m wa lp wf k q (hkm) (hm) (hq)) rfl (by decide) mi_X1_shopOf 1 rfl rfl w_449 w_450 w_451 rfl rfl (Nat.le_of_ble_eq_true rfl) ⟨by decide, by decide⟩ ⟨by decide, by decide⟩ dX10_as_5 (vw2 := fun _ => [(a, ob 9 [.ref tx, .ref lo, .ref no, .ref to, .ref pa, .int pe, .int un, .ref ke, .ref ik, .ref sc, .ref w, .ref bp, .ref ac, .ref br, .int bs, .int bm]), (lo, ob 1 [.ref lt, .ref lr, .ref lw, .int (nI m), .int wa, .int lp]), (lw, aS E 6 wf), (q, ob (kci κ) [.int (nI so), .int sg, .int pr])]) (st2 := fun _ => [.ref q]) (fun _ => rfl) (fun _ => rfl) (fun _ => rfl) (fun _ _ => ?_)
  refine V.astore_n (lv2 := [(3, .ref q), (0, .ref a), (1, .int (nI k)), (2, .int y)]) dX10_as_8 rfl (by decide) rfl ?_
  refine V.aload_n dX10_as_9 0 rfl ?_
  refine V.ifnonnull (tgt := 16) dX10_as_10 (by decide) ?_
  refine V.iload_n dX10_as_16 3 rfl ?_
  refine V.iconst (v := 0) dX10_as_17 (by decide) ?_
  refine V.iconst (v := 4) dX10_as_18 (by decide) ?_
  refine V.callSp (As := [.int y, .int 0, .int 4]) (rest := []) [] (c_within E l L _ y 0 4) rfl (by decide) mi_X10_isWithin w_267 w_268 rfl rfl (Nat.le_of_ble_eq_true rfl) ⟨by decide, by decide⟩ ⟨by decide, by decide⟩ dX10_as_19 (vw2 := fun _ => [(a, ob 9 [.ref tx, .ref lo, .ref no, .ref to, .ref pa, .int pe, .int un, .ref ke, .ref ik, .ref sc, .ref w, .ref bp, .ref ac, .ref br, .int bs, .int bm]), (lo, ob 1 [.ref lt, .ref lr, .ref lw, .int (nI m), .int wa, .int lp]), (lw, aS E 6 wf), (q, ob (kci κ) [.int (nI so), .int sg, .int pr])]) (st2 := fun _ => [.int (withinI y 0 4)]) (fun _ => rfl) (fun _ => rfl) (fun _ => rfl) (fun _ _ => ?_)
  refine V.topc (v := 1) (hy) ?_
  refine V.if_ne (tgt := 28) dX10_as_22 (by decide) (fun _ => ?_) (fun hc => absurd hc (by decide))
  refine V.aload_n dX10_as_28 0 rfl ?_
  refine V.iload_n dX10_as_29 3 rfl ?_
  refine V.callSp (As := [.ref q, .int y]) (rest := []) [3] (c_RL_isOfKind E l L _ q κ so sg pr y (hk)) rfl (by decide) mi_X10_isOfKind w_489 w_490 rfl rfl (Nat.le_of_ble_eq_true rfl) ⟨by decide, by decide⟩ ⟨by decide, by decide⟩ dX10_as_30 (vw2 := fun _ => [(a, ob 9 [.ref tx, .ref lo, .ref no, .ref to, .ref pa, .int pe, .int un, .ref ke, .ref ik, .ref sc, .ref w, .ref bp, .ref ac, .ref br, .int bs, .int bm]), (lo, ob 1 [.ref lt, .ref lr, .ref lw, .int (nI m), .int wa, .int lp]), (lw, aS E 6 wf), (q, ob (kci κ) [.int (nI so), .int sg, .int pr])]) (st2 := fun _ => [.int (ofKindI κ y)]) (fun _ => rfl) (fun _ => rfl) (fun _ => rfl) (fun _ _ => ?_)
  refine V.topc (v := 0) (hy2) ?_
  refine V.if_ne (tgt := 39) dX10_as_33 (by decide) (fun hc => absurd (by decide) hc) (fun _ => ?_)
  refine V.bipush (v := (-4)) dX10_as_36 (by decide) ?_
  exact V.iret rfl dX10_as_38 (⟨(), rfl, rfl, rfl, trivial⟩)

set_option maxHeartbeats 4000000 in
set_option maxRecDepth 100000 in
theorem c_RL_as (E : vEnv) (l : Launch) (L : List Nat) (h : Nat → va_E) (a : Nat) (tx : Nat) (lo : Nat) (no : Nat) (to : Nat) (pa : Nat) (ke : Nat) (ik : Nat) (sc : Nat) (w : Nat) (bp : Nat) (ac : Nat) (br : Nat) (pe : Int32) (un : Int32) (bs : Int32) (bm : Int32) (lt : Nat) (lr : Nat) (lw : Nat) (m : Nat) (wa : Int32) (lp : Int32) (ti : Nat → Int32) (tno : Nat) (s : NS) (wf : Nat → Option Nat) (k : Nat) (q : Nat) (κ : Nat) (so : Nat) (sg : Int32) (pr : Int32) (y : Int32) (hkm : k < m) (hm : m ≤ 6) (hq : wf k = some q) (hk : κ < 4) (hs : so < 4) (hy : withinI y 0 4 = 1) (hy2 : ofKindI κ y = 1) : CT E l yX10_as cX10_as 5 (some (.int)) 3 0 0 L h [(a, ob 9 [.ref tx, .ref lo, .ref no, .ref to, .ref pa, .int pe, .int un, .ref ke, .ref ik, .ref sc, .ref w, .ref bp, .ref ac, .ref br, .int bs, .int bm]), (lo, ob 1 [.ref lt, .ref lr, .ref lw, .int (nI m), .int wa, .int lp]), (lt, aI E 4 ti), (lw, aS E 6 wf), (no, ob 3 [.ref tno, .int s.2.1, .int s.2.2.1, .int s.2.2.2.1, .int s.2.2.2.2.1, .int s.2.2.2.2.2.1, .int s.2.2.2.2.2.2.1, .int s.2.2.2.2.2.2.2]), (tno, aI E 4 s.1), (q, ob (kci κ) [.int (nI so), .int sg, .int pr])] [.ref a, .int (nI k), .int y] (qP L h (fun (_ : Unit) => [(a, ob 9 [.ref tx, .ref lo, .ref no, .ref to, .ref pa, .int pe, .int un, .ref ke, .ref ik, .ref sc, .ref w, .ref bp, .ref ac, .ref br, .int bs, .int bm]), (lo, ob 1 [.ref lt, .ref lr, .ref lw, .int (nI m), .int wa, .int lp]), (lt, aI E 4 ti), (lw, aS E 6 wf), (no, ob 3 [.ref tno, .int s.2.1, .int s.2.2.1, .int s.2.2.2.1, .int s.2.2.2.2.1, .int s.2.2.2.2.2.1, .int s.2.2.2.2.2.2.1, .int s.2.2.2.2.2.2.2]), (tno, aI E 4 s.1), (q, ob (kci κ) [.int (nI so), .int sg, .int pr])]) (fun _ => some (.int (asI κ so ti s))) (fun _ => True)) := by
  refine CT.ofV (by decide +kernel) (Nat.le_of_ble_eq_true rfl) ?_
  refine V.locals2 (lv2 := [(0, .ref a), (1, .int (nI k)), (2, .int y)]) rfl ?_
  refine V.aload_n dX10_as_0 0 rfl ?_
  refine V.getf 0 1 rfl fa_X10_19_9 rfl dX10_as_1 ?_
  refine V.iload_n dX10_as_4 1 rfl ?_
  refine V.callVp (As := [.int (nI k)]) (rest := []) [1, 3] (c_Lane_shopOf E l L _ lo lt lr lw m wa lp wf k q (hkm) (hm) (hq)) rfl (by decide) mi_X1_shopOf 1 rfl rfl w_449 w_450 w_451 rfl rfl (Nat.le_of_ble_eq_true rfl) ⟨by decide, by decide⟩ ⟨by decide, by decide⟩ dX10_as_5 (vw2 := fun _ => [(a, ob 9 [.ref tx, .ref lo, .ref no, .ref to, .ref pa, .int pe, .int un, .ref ke, .ref ik, .ref sc, .ref w, .ref bp, .ref ac, .ref br, .int bs, .int bm]), (lo, ob 1 [.ref lt, .ref lr, .ref lw, .int (nI m), .int wa, .int lp]), (lt, aI E 4 ti), (lw, aS E 6 wf), (no, ob 3 [.ref tno, .int s.2.1, .int s.2.2.1, .int s.2.2.2.1, .int s.2.2.2.2.1, .int s.2.2.2.2.2.1, .int s.2.2.2.2.2.2.1, .int s.2.2.2.2.2.2.2]), (tno, aI E 4 s.1), (q, ob (kci κ) [.int (nI so), .int sg, .int pr])]) (st2 := fun _ => [.ref q]) (fun _ => rfl) (fun _ => rfl) (fun _ => rfl) (fun _ _ => ?_)
  refine V.astore_n (lv2 := [(3, .ref q), (0, .ref a), (1, .int (nI k)), (2, .int y)]) dX10_as_8 rfl (by decide) rfl ?_
  refine V.aload_n dX10_as_9 0 rfl ?_
  refine V.ifnonnull (tgt := 16) dX10_as_10 (by decide) ?_
  refine V.iload_n dX10_as_16 3 rfl ?_
  refine V.iconst (v := 0) dX10_as_17 (by decide) ?_
  refine V.iconst (v := 4) dX10_as_18 (by decide) ?_
  refine V.callSp (As := [.int y, .int 0, .int 4]) (rest := []) [] (c_within E l L _ y 0 4) rfl (by decide) mi_X10_isWithin w_267 w_268 rfl rfl (Nat.le_of_ble_eq_true rfl) ⟨by decide, by decide⟩ ⟨by decide, by decide⟩ dX10_as_19 (vw2 := fun _ => [(a, ob 9 [.ref tx, .ref lo, .ref no, .ref to, .ref pa, .int pe, .int un, .ref ke, .ref ik, .ref sc, .ref w, .ref bp, .ref ac, .ref br, .int bs, .int bm]), (lo, ob 1 [.ref lt, .ref lr, .ref lw, .int (nI m), .int wa, .int lp]), (lt, aI E 4 ti), (lw, aS E 6 wf), (no, ob 3 [.ref tno, .int s.2.1, .int s.2.2.1, .int s.2.2.2.1, .int s.2.2.2.2.1, .int s.2.2.2.2.2.1, .int s.2.2.2.2.2.2.1, .int s.2.2.2.2.2.2.2]), (tno, aI E 4 s.1), (q, ob (kci κ) [.int (nI so), .int sg, .int pr])]) (st2 := fun _ => [.int (withinI y 0 4)]) (fun _ => rfl) (fun _ => rfl) (fun _ => rfl) (fun _ _ => ?_)
  refine V.topc (v := 1) (hy) ?_
  refine V.if_ne (tgt := 28) dX10_as_22 (by decide) (fun _ => ?_) (fun hc => absurd hc (by decide))
  refine V.aload_n dX10_as_28 0 rfl ?_
  refine V.iload_n dX10_as_29 3 rfl ?_
  refine V.callSp (As := [.ref q, .int y]) (rest := []) [6] (c_RL_isOfKind E l L _ q κ so sg pr y (hk)) rfl (by decide) mi_X10_isOfKind w_489 w_490 rfl rfl (Nat.le_of_ble_eq_true rfl) ⟨by decide, by decide⟩ ⟨by decide, by decide⟩ dX10_as_30 (vw2 := fun _ => [(a, ob 9 [.ref tx, .ref lo, .ref no, .ref to, .ref pa, .int pe, .int un, .ref ke, .ref ik, .ref sc, .ref w, .ref bp, .ref ac, .ref br, .int bs, .int bm]), (lo, ob 1 [.ref lt, .ref lr, .ref lw, .int (nI m), .int wa, .int lp]), (lt, aI E 4 ti), (lw, aS E 6 wf), (no, ob 3 [.ref tno, .int s.2.1, .int s.2.2.1, .int s.2.2.2.1, .int s.2.2.2.2.1, .int s.2.2.2.2.2.1, .int s.2.2.2.2.2.2.1, .int s.2.2.2.2.2.2.2]), (tno, aI E 4 s.1), (q, ob (kci κ) [.int (nI so), .int sg, .int pr])]) (st2 := fun _ => [.int (ofKindI κ y)]) (fun _ => rfl) (fun _ => rfl) (fun _ => rfl) (fun _ _ => ?_)
  refine V.topc (v := 1) (hy2) ?_
  refine V.if_ne (tgt := 39) dX10_as_33 (by decide) (fun _ => ?_) (fun hc => absurd hc (by decide))
  refine V.aload_n dX10_as_39 1 rfl ?_
  refine V.getf 0 2 rfl fa_X10_26_9 rfl dX10_as_40 ?_
  refine V.getf 4 0 rfl fa_X10_130_3 rfl dX10_as_43 ?_
  refine V.aload_n dX10_as_46 0 rfl ?_
  refine V.getf 6 0 rfl (fas_X10_143 (by assumption)) rfl dX10_as_47 ?_
  refine V.iald 5 rfl (vinI (by omega)) dX10_as_50 ?_
  refine V.topc (v := (s.1 so)) (by rw [nI_clamp (by omega)] <;> rfl) ?_
  refine V.istore (lv2 := [(4, .int (s.1 so)), (3, .ref q), (0, .ref a), (1, .int (nI k)), (2, .int y)]) dX10_as_51 (by decide) rfl ?_
  refine V.iload dX10_as_53 0 rfl ?_
  refine V.aload_n dX10_as_55 1 rfl ?_
  refine V.aload_n dX10_as_56 1 rfl ?_
  refine V.getf 6 0 rfl (fas_X10_143 (by assumption)) rfl dX10_as_57 ?_
  refine V.aload_n dX10_as_60 2 rfl ?_
  refine V.getf 0 1 rfl fa_X10_19_9 rfl dX10_as_61 ?_
  refine V.getf 1 0 rfl fa_X10_124_1 rfl dX10_as_64 ?_
  refine V.aload_n dX10_as_67 1 rfl ?_
  refine V.getf 6 0 rfl (fas_X10_143 (by assumption)) rfl dX10_as_68 ?_
  refine V.iald 2 rfl (vinI (by omega)) dX10_as_71 ?_
  refine V.topc (v := (ti so)) (by rw [nI_clamp (by omega)] <;> rfl) ?_
  refine V.tiring (rest := [.int (s.1 so)]) (by assumption) 6 rfl w_495 rfl (Nat.le_of_ble_eq_true rfl) ⟨by decide, by decide⟩ ⟨by decide, by decide⟩ dX10_as_72 ?_
  refine V.iadd dX10_as_75 ?_
  refine V.callSp (As := [.int ((s.1 so) + (tiringI κ (nI so) (nI so) (ti so)))]) (rest := []) [] (c_held E l L _ (((s.1 so) + (tiringI κ (nI so) (nI so) (ti so))))) rfl (by decide) mi_X10_held w_511 w_512 rfl rfl (Nat.le_of_ble_eq_true rfl) ⟨by decide, by decide⟩ ⟨by decide, by decide⟩ dX10_as_76 (vw2 := fun _ => [(a, ob 9 [.ref tx, .ref lo, .ref no, .ref to, .ref pa, .int pe, .int un, .ref ke, .ref ik, .ref sc, .ref w, .ref bp, .ref ac, .ref br, .int bs, .int bm]), (lo, ob 1 [.ref lt, .ref lr, .ref lw, .int (nI m), .int wa, .int lp]), (lt, aI E 4 ti), (lw, aS E 6 wf), (no, ob 3 [.ref tno, .int s.2.1, .int s.2.2.1, .int s.2.2.2.1, .int s.2.2.2.2.1, .int s.2.2.2.2.2.1, .int s.2.2.2.2.2.2.1, .int s.2.2.2.2.2.2.2]), (tno, aI E 4 s.1), (q, ob (kci κ) [.int (nI so), .int sg, .int pr])]) (st2 := fun _ => [.int (heldI ((s.1 so) + (tiringI κ (nI so) (nI so) (ti so))))]) (fun _ => rfl) (fun _ => rfl) (fun _ => rfl) (fun _ _ => ?_)
  refine V.iload dX10_as_79 0 rfl ?_
  refine V.isub dX10_as_81 ?_
  refine V.bipush (v := 99) dX10_as_82 (by decide) ?_
  refine V.iadd dX10_as_84 ?_
  exact V.iret rfl dX10_as_85 (⟨(), rfl, rfl, rfl, trivial⟩)
