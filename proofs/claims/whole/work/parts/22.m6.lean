set_option maxHeartbeats 4000000 in
set_option maxRecDepth 100000 in
theorem c_Walks_begin (E : vEnv) (l : Launch) (L : List Nat) (h : Nat → va_E) (a : Nat) (ta : Nat) (n0 : Int32) (ρ0 : Nat → Nat) (w : Nat) (wr : Nat) (ws : Nat) (wn : Nat) (sm0 : Nat → Int32) (an : Nat → Nat) (tn : Nat → Nat) (lo : Nat) (lt : Nat) (lr : Nat) (lw : Nat) (m : Nat) (wa : Int32) (lp : Int32) (ti : Nat → Int32) (r : Nat → Int32) (wf : Nat → Option Nat) (KV : Nat → Prop) (sf : Nat → SHP) (f0 : Nat → NS) (s0 : NS) (x0 : Int32) (hm : m ≤ 6) (hset : ∀ i, i < (fillW x0 ρ0 6).1 → (fillW x0 ρ0 6).2 i < m) (hD : FD L KV an tn 7) (hK : ∀ b ∈ [w, wr, ws, wn, lo, lt, lr, lw, a, ta], KV b) (hSh : ShopsAt L (fun b => KV b ∨ inF an tn 7 b) m wf sf h) (hF0 : FN E an tn 7 f0 h) (hb0 : ∀ j, j < 7 → (f0 j).2.2.2.2.2.2.2 = 0 ∨ (f0 j).2.2.2.2.2.2.2 = 1) (hbs : s0.2.2.2.2.2.2.2 = 0 ∨ s0.2.2.2.2.2.2.2 = 1) : CT E l yX9_begin cX9_begin 5 (some (.boolean)) 6 0 0 L h [(w, ob 8 [.ref wr, .ref ws, .ref wn, .int n0]), (wr, aI E 6 (fun j => nI (ρ0 j))), (ws, aI E 6 sm0), (wn, aN E 7 (fun j => some (an j))), (lo, ob 1 [.ref lt, .ref lr, .ref lw, .int (nI m), .int wa, .int lp]), (lt, aI E 4 ti), (lr, aI E 4 r), (lw, aS E 6 wf), (a, ob 3 [.ref ta, .int s0.2.1, .int s0.2.2.1, .int s0.2.2.2.1, .int s0.2.2.2.2.1, .int s0.2.2.2.2.2.1, .int s0.2.2.2.2.2.2.1, .int s0.2.2.2.2.2.2.2]), (ta, aI E 4 s0.1)] [.ref w, .ref lo, .ref a, .int x0] (qG L h (inF an tn 7) (fun (u : (Nat → va_E) × (Nat → NS) × (Nat → Int32)) => u.1) (fun (u : (Nat → va_E) × (Nat → NS) × (Nat → Int32)) => [(w, ob 8 [.ref wr, .ref ws, .ref wn, .int (nI (fillW x0 ρ0 6).1)]), (wr, aI E 6 (fun x => nI ((fillW x0 ρ0 6).2 x))), (ws, aI E 6 u.2.2), (wn, aN E 7 (fun j => some (an j))), (lo, ob 1 [.ref lt, .ref lr, .ref lw, .int (nI m), .int wa, .int lp]), (lt, aI E 4 ti), (lr, aI E 4 r), (lw, aS E 6 wf), (a, ob 3 [.ref ta, .int s0.2.1, .int s0.2.2.1, .int s0.2.2.2.1, .int s0.2.2.2.2.1, .int s0.2.2.2.2.2.1, .int s0.2.2.2.2.2.2.1, .int s0.2.2.2.2.2.2.2]), (ta, aI E 4 s0.1)]) (fun u => some (.int 1)) (fun u => FN E an tn 7 u.2.1 u.1 ∧ (∀ j, j ≤ (fillW x0 ρ0 6).1 → u.2.1 j = walkN (m, sf, wa, ti, r) ((fillW x0 ρ0 6).2) s0 j) ∧ (∀ j, j < (fillW x0 ρ0 6).1 → u.2.2 j = visitS (m, sf, wa, ti, r) (((fillW x0 ρ0 6).2) j) (walkN (m, sf, wa, ti, r) ((fillW x0 ρ0 6).2) s0 j)) ∧ (∀ j, j < 7 → (u.2.1 j).2.2.2.2.2.2.2 = 0 ∨ (u.2.1 j).2.2.2.2.2.2.2 = 1))) := by
  refine CT.ofV (by decide +kernel) (Nat.le_of_ble_eq_true rfl) ?_
  obtain ⟨Z, hZ⟩ : ∃ Z, Z = mZ E (qG L h (inF an tn 7) (fun (u : (Nat → va_E) × (Nat → NS) × (Nat → Int32)) => u.1) (fun (u : (Nat → va_E) × (Nat → NS) × (Nat → Int32)) => [(w, ob 8 [.ref wr, .ref ws, .ref wn, .int (nI (fillW x0 ρ0 6).1)]), (wr, aI E 6 (fun x => nI ((fillW x0 ρ0 6).2 x))), (ws, aI E 6 u.2.2), (wn, aN E 7 (fun j => some (an j))), (lo, ob 1 [.ref lt, .ref lr, .ref lw, .int (nI m), .int wa, .int lp]), (lt, aI E 4 ti), (lr, aI E 4 r), (lw, aS E 6 wf), (a, ob 3 [.ref ta, .int s0.2.1, .int s0.2.2.1, .int s0.2.2.2.1, .int s0.2.2.2.2.1, .int s0.2.2.2.2.2.1, .int s0.2.2.2.2.2.2.1, .int s0.2.2.2.2.2.2.2]), (ta, aI E 4 s0.1)]) (fun u => some (.int 1)) (fun u => FN E an tn 7 u.2.1 u.1 ∧ (∀ j, j ≤ (fillW x0 ρ0 6).1 → u.2.1 j = walkN (m, sf, wa, ti, r) ((fillW x0 ρ0 6).2) s0 j) ∧ (∀ j, j < (fillW x0 ρ0 6).1 → u.2.2 j = visitS (m, sf, wa, ti, r) (((fillW x0 ρ0 6).2) j) (walkN (m, sf, wa, ti, r) ((fillW x0 ρ0 6).2) s0 j)) ∧ (∀ j, j < 7 → (u.2.1 j).2.2.2.2.2.2.2 = 0 ∨ (u.2.1 j).2.2.2.2.2.2.2 = 1))) 0 0 := ⟨_, rfl⟩
  rw [← hZ]
  refine V.locals2 (lv2 := [(0, .ref w), (1, .ref lo), (2, .ref a), (3, .int x0)]) rfl ?_
  refine V.aload_n dX9_begin_0 0 rfl ?_
  refine V.iconst (v := 0) dX9_begin_1 (by decide) ?_
  refine V.putf 0 3 (vw2 := [(w, ob 8 [.ref wr, .ref ws, .ref wn, .int 0]), (wr, aI E 6 (fun j => nI (ρ0 j))), (ws, aI E 6 sm0), (wn, aN E 7 (fun j => some (an j))), (lo, ob 1 [.ref lt, .ref lr, .ref lw, .int (nI m), .int wa, .int lp]), (lt, aI E 4 ti), (lr, aI E 4 r), (lw, aS E 6 wf), (a, ob 3 [.ref ta, .int s0.2.1, .int s0.2.2.1, .int s0.2.2.2.1, .int s0.2.2.2.2.1, .int s0.2.2.2.2.2.1, .int s0.2.2.2.2.2.2.1, .int s0.2.2.2.2.2.2.2]), (ta, aI E 4 s0.1)]) rfl fp_X9_25_8 rfl rfl (Nat.le_of_ble_eq_true rfl) rfl dX9_begin_2 ?_
  refine V.iconst (v := 0) dX9_begin_5 (by decide) ?_
  refine V.istore (lv2 := [(4, .int 0), (0, .ref w), (1, .ref lo), (2, .ref a), (3, .int x0)]) dX9_begin_6 (by decide) rfl ?_
  refine V.locals [1, 2, 3, 4, 0] (by rfl) ?_
  refine V.mixIn (inF an tn 7) ?_
  have lp_8 : ∀ (fuel : Nat) (j : Nat) (hj6 : j ≤ 6) (hf : 6 < j + fuel), V E l yX9_begin cX9_begin 5 (some (.boolean)) (rmk 6 0 0) Z L (mix (inF an tn 7) h h) 0 0 [(w, ob 8 [.ref wr, .ref ws, .ref wn, .int (nI (fillW x0 ρ0 j).1)]), (wr, aI E 6 (fun x => nI ((fillW x0 ρ0 j).2 x))), (ws, aI E 6 sm0), (wn, aN E 7 (fun j => some (an j))), (lo, ob 1 [.ref lt, .ref lr, .ref lw, .int (nI m), .int wa, .int lp]), (lt, aI E 4 ti), (lr, aI E 4 r), (lw, aS E 6 wf), (a, ob 3 [.ref ta, .int s0.2.1, .int s0.2.2.1, .int s0.2.2.2.1, .int s0.2.2.2.2.1, .int s0.2.2.2.2.2.1, .int s0.2.2.2.2.2.2.1, .int s0.2.2.2.2.2.2.2]), (ta, aI E 4 s0.1)] 8 [(0, .ref w), (1, .ref lo), (2, .ref a), (3, .int x0), (4, .int (nI j))] [] := by
    intro fuel
    induction fuel with
    | zero =>
      intro j hj6 hf
      exfalso; omega
    | succ fuel ih_8 =>
      intro j hj6 hf
      refine V.iload dX9_begin_8 4 rfl ?_
      refine V.bipush (v := 6) dX9_begin_10 (by decide) ?_
      refine V.icmp_ge (tgt := 52) dX9_begin_12 (by decide) (fun c1_12 => ?_) (fun c1_12 => ?_)
      · skip
        have hj : j = 6 := by have := (nI_leI (a := 6) (b := j) (by omega) (by omega)).mp c1_12; omega
        subst hj
        refine V.aload_n dX9_begin_52 0 rfl ?_
        refine V.getf 0 2 rfl fa_X9_20_8 rfl dX9_begin_53 ?_
        refine V.iconst (v := 0) dX9_begin_56 (by decide) ?_
        refine V.aldN 3 rfl (vin rfl) dX9_begin_57 ?_
        refine V.stack (st2 := [.ref (an 0)]) (rfl) ?_
        refine V.aload_n dX9_begin_58 2 rfl ?_
        refine V.seeF ((tn 0)) (e := aI E 4 (f0 0).1) ((hD.2.2.2 0 (by omega)).2.1) (fun hm => hD.off (hK _ hm) (inF_t (by omega))) (inF_t (by omega)) ((hF0 0 (by omega)).2) ?_
        refine V.seeF ((an 0)) (e := ob 3 [.ref (tn 0), .int (f0 0).2.1, .int (f0 0).2.2.1, .int (f0 0).2.2.2.1, .int (f0 0).2.2.2.2.1, .int (f0 0).2.2.2.2.2.1, .int (f0 0).2.2.2.2.2.2.1, .int (f0 0).2.2.2.2.2.2.2]) ((hD.2.2.2 0 (by omega)).1) (nin_app (fun hm => hD.off (hK _ hm) (inF_a (by omega))) (hD.2.2.1 0 0 (by omega) (by omega))) (inF_a (by omega)) ((hF0 0 (by omega)).1) ?_
        refine V.view (vw2 := [(w, ob 8 [.ref wr, .ref ws, .ref wn, .int (nI (fillW x0 ρ0 6).1)]), (wr, aI E 6 (fun x => nI ((fillW x0 ρ0 6).2 x))), (ws, aI E 6 sm0), (wn, aN E 7 (fun j => some (an j))), (lo, ob 1 [.ref lt, .ref lr, .ref lw, .int (nI m), .int wa, .int lp]), (lt, aI E 4 ti), (lr, aI E 4 r), (lw, aS E 6 wf), (a, ob 3 [.ref ta, .int s0.2.1, .int s0.2.2.1, .int s0.2.2.2.1, .int s0.2.2.2.2.1, .int s0.2.2.2.2.2.1, .int s0.2.2.2.2.2.2.1, .int s0.2.2.2.2.2.2.2]), (ta, aI E 4 s0.1), ((tn 0), aI E 4 (f0 0).1), ((an 0), ob 3 [.ref (tn 0), .int (f0 0).2.1, .int (f0 0).2.2.1, .int (f0 0).2.2.2.1, .int (f0 0).2.2.2.2.1, .int (f0 0).2.2.2.2.2.1, .int (f0 0).2.2.2.2.2.2.1, .int (f0 0).2.2.2.2.2.2.2])]) (L2 := L) rfl rfl ?_
        refine V.callVp (As := [.ref a]) (rest := []) [11, 10, 8, 9] (c_Nose_copy E l L _ ((an 0)) ((tn 0)) ((f0 0)) a ta s0 (hbs)) rfl (by decide) mi_X3_copy 11 rfl rfl w_599 w_527 w_528 rfl rfl (Nat.le_of_ble_eq_true rfl) ⟨by decide, by decide⟩ ⟨by decide, by decide⟩ dX9_begin_59 (vw2 := fun _ => [(w, ob 8 [.ref wr, .ref ws, .ref wn, .int (nI (fillW x0 ρ0 6).1)]), (wr, aI E 6 (fun x => nI ((fillW x0 ρ0 6).2 x))), (ws, aI E 6 sm0), (wn, aN E 7 (fun j => some (an j))), (lo, ob 1 [.ref lt, .ref lr, .ref lw, .int (nI m), .int wa, .int lp]), (lt, aI E 4 ti), (lr, aI E 4 r), (lw, aS E 6 wf), (a, ob 3 [.ref ta, .int s0.2.1, .int s0.2.2.1, .int s0.2.2.2.1, .int s0.2.2.2.2.1, .int s0.2.2.2.2.2.1, .int s0.2.2.2.2.2.2.1, .int s0.2.2.2.2.2.2.2]), (ta, aI E 4 s0.1), ((tn 0), aI E 4 s0.1), ((an 0), ob 3 [.ref (tn 0), .int s0.2.1, .int s0.2.2.1, .int s0.2.2.2.1, .int s0.2.2.2.2.1, .int s0.2.2.2.2.2.1, .int s0.2.2.2.2.2.2.1, .int s0.2.2.2.2.2.2.2])]) (st2 := fun _ => []) (fun _ => rfl) (fun _ => rfl) (fun _ => rfl) (fun _ _ => ?_)
        refine V.sinkF (vw := [(w, ob 8 [.ref wr, .ref ws, .ref wn, .int (nI (fillW x0 ρ0 6).1)]), (wr, aI E 6 (fun x => nI ((fillW x0 ρ0 6).2 x))), (ws, aI E 6 sm0), (wn, aN E 7 (fun j => some (an j))), (lo, ob 1 [.ref lt, .ref lr, .ref lw, .int (nI m), .int wa, .int lp]), (lt, aI E 4 ti), (lr, aI E 4 r), (lw, aS E 6 wf), (a, ob 3 [.ref ta, .int s0.2.1, .int s0.2.2.1, .int s0.2.2.2.1, .int s0.2.2.2.2.1, .int s0.2.2.2.2.2.1, .int s0.2.2.2.2.2.2.1, .int s0.2.2.2.2.2.2.2]), (ta, aI E 4 s0.1), ((tn 0), aI E 4 s0.1)]) (a := (an 0)) (e := ob 3 [.ref (tn 0), .int s0.2.1, .int s0.2.2.1, .int s0.2.2.2.1, .int s0.2.2.2.2.1, .int s0.2.2.2.2.2.1, .int s0.2.2.2.2.2.2.1, .int s0.2.2.2.2.2.2.2]) (inF_a (by omega)) ?_
        refine V.sinkF (vw := [(w, ob 8 [.ref wr, .ref ws, .ref wn, .int (nI (fillW x0 ρ0 6).1)]), (wr, aI E 6 (fun x => nI ((fillW x0 ρ0 6).2 x))), (ws, aI E 6 sm0), (wn, aN E 7 (fun j => some (an j))), (lo, ob 1 [.ref lt, .ref lr, .ref lw, .int (nI m), .int wa, .int lp]), (lt, aI E 4 ti), (lr, aI E 4 r), (lw, aS E 6 wf), (a, ob 3 [.ref ta, .int s0.2.1, .int s0.2.2.1, .int s0.2.2.2.1, .int s0.2.2.2.2.1, .int s0.2.2.2.2.2.1, .int s0.2.2.2.2.2.2.1, .int s0.2.2.2.2.2.2.2]), (ta, aI E 4 s0.1)]) (a := (tn 0)) (e := aI E 4 s0.1) (inF_t (by omega)) ?_
        have hF1 := hF0.set hD (j := 0) (by omega) s0
        have hrow : (fun x => nI ((fillW x0 ρ0 6).2 x)) = (fun j => nI ((fillW x0 ρ0 6).2 j)) := rfl
        generalize hg : (va_up (va_up h ((an 0)) (ob 3 [.ref (tn 0), .int s0.2.1, .int s0.2.2.1, .int s0.2.2.2.1, .int s0.2.2.2.2.1, .int s0.2.2.2.2.2.1, .int s0.2.2.2.2.2.2.1, .int s0.2.2.2.2.2.2.2])) ((tn 0)) (aI E 4 s0.1)) = g1 at hF1 ⊢
        refine V.aload_n dX9_begin_62 0 rfl ?_
        refine V.aload_n dX9_begin_63 1 rfl ?_
        refine V.iconst (v := 0) dX9_begin_64 (by decide) ?_
        refine V.callVg (As := [.ref lo, .int 0]) (rest := []) [0, 1, 2, 3, 4, 5, 6, 7] (c_Walks_goFrom E l L _ w wr ws wn ((fillW x0 ρ0 6).1) (((fillW x0 ρ0 6).2)) sm0 an tn lo lt lr lw m wa lp ti r wf KV sf ((va_up f0 0 s0)) s0 0 (by have := fillW_le x0 ρ0 6; omega) (hm) (hset) (hD) (fun b hb => hK b (List.mem_append_left [a, ta] hb)) (((hSh.mixed (fun b hb => Or.inr hb)).over (vw := [(w, ob 8 [.ref wr, .ref ws, .ref wn, .int (nI (fillW x0 ρ0 6).1)]), (wr, aI E 6 (fun j => nI ((fillW x0 ρ0 6).2 j))), (ws, aI E 6 sm0), (wn, aN E 7 (fun j => some (an j))), (lo, ob 1 [.ref lt, .ref lr, .ref lw, .int (nI m), .int wa, .int lp]), (lt, aI E 4 ti), (lr, aI E 4 r), (lw, aS E 6 wf), (a, ob 3 [.ref ta, .int s0.2.1, .int s0.2.2.1, .int s0.2.2.2.1, .int s0.2.2.2.2.1, .int s0.2.2.2.2.2.1, .int s0.2.2.2.2.2.2.1, .int s0.2.2.2.2.2.2.2]), (ta, aI E 4 s0.1)]) (fun b hb => Or.inl (hK b hb)))) (FN.over (vw := [(w, ob 8 [.ref wr, .ref ws, .ref wn, .int (nI (fillW x0 ρ0 6).1)]), (wr, aI E 6 (fun j => nI ((fillW x0 ρ0 6).2 j))), (ws, aI E 6 sm0), (wn, aN E 7 (fun j => some (an j))), (lo, ob 1 [.ref lt, .ref lr, .ref lw, .int (nI m), .int wa, .int lp]), (lt, aI E 4 ti), (lr, aI E 4 r), (lw, aS E 6 wf), (a, ob 3 [.ref ta, .int s0.2.1, .int s0.2.2.1, .int s0.2.2.2.1, .int s0.2.2.2.2.1, .int s0.2.2.2.2.2.1, .int s0.2.2.2.2.2.2.1, .int s0.2.2.2.2.2.2.2]), (ta, aI E 4 s0.1)]) (hF1.mixed) (fun b hb => hD.off (hK b hb))) (fun j hj => by by_cases h9 : j = 0; rw [h9, va_up_self]; exact hbs; rw [va_up_ne _ _ h9]; exact hb0 j hj) (Nat.zero_le _) (fun j hj => by rw [Nat.le_zero.mp hj, va_up_self]; rfl) (fun j hj => absurd hj (Nat.not_lt_zero _))) rfl (by decide) mi_X9_goFrom 0 rfl rfl w_600 w_601 w_602 rfl rfl (Nat.le_of_ble_eq_true rfl) ⟨by decide, by decide⟩ ⟨by decide, by decide⟩ dX9_begin_65 (vw2 := fun u => [(w, ob 8 [.ref wr, .ref ws, .ref wn, .int (nI (fillW x0 ρ0 6).1)]), (wr, aI E 6 (fun j => nI ((fillW x0 ρ0 6).2 j))), (ws, aI E 6 u.2.2), (wn, aN E 7 (fun j => some (an j))), (lo, ob 1 [.ref lt, .ref lr, .ref lw, .int (nI m), .int wa, .int lp]), (lt, aI E 4 ti), (lr, aI E 4 r), (lw, aS E 6 wf), (a, ob 3 [.ref ta, .int s0.2.1, .int s0.2.2.1, .int s0.2.2.2.1, .int s0.2.2.2.2.1, .int s0.2.2.2.2.2.1, .int s0.2.2.2.2.2.2.1, .int s0.2.2.2.2.2.2.2]), (ta, aI E 4 s0.1)]) (st2 := fun u => []) (fun b hb => hD.off (hK b hb)) (fun _ => rfl) (fun _ => rfl) (fun _ => rfl) (fun u hq_65 => ?_)
        refine V.iconst (v := 1) dX9_begin_68 (by decide) ?_
        subst hZ
        exact V.zret rfl (rfl) dX9_begin_69 (⟨u, rfl, rfl, by rw [mix_same], hq_65.1, hq_65.2.1, hq_65.2.2.1, hq_65.2.2.2⟩)
      · skip
        have hj : j < 6 := Nat.lt_of_not_le (fun hh => c1_12 (nI_le (a := 6) hh (by omega)))
        refine V.iload_n dX9_begin_15 3 rfl ?_
        refine V.iload dX9_begin_16 4 rfl ?_
        refine V.ishr dX9_begin_18 ?_
        refine V.iconst (v := 1) dX9_begin_19 (by decide) ?_
        refine V.iand dX9_begin_20 ?_
        refine V.iconst (v := 1) dX9_begin_21 (by decide) ?_
        refine V.icmp_ne (tgt := 46) dX9_begin_22 (by decide) (fun c2_22 => ?_) (fun c2_22 => ?_)
        · skip
          have hfe : fillW x0 ρ0 (j + 1) = fillW x0 ρ0 j := by rw [fillW, if_neg c2_22]
          rw [← hfe]
          refine V.iinc (v := (nI (j + 1))) (lv2 := [(4, .int (nI (j + 1))), (0, .ref w), (1, .ref lo), (2, .ref a), (3, .int x0)]) dX9_begin_46 4 rfl (nI_1 _) (by decide) rfl ?_
          refine V.goto (tgt := 8) dX9_begin_49 (by decide) ?_
          refine V.locals [1, 2, 3, 4, 0] (by rfl) ?_
          exact ih_8 (j + 1) (by omega) (by omega)
        · skip
          have hfl : (fillW x0 ρ0 j).1 ≤ j := fillW_le _ _ _
          refine V.aload_n dX9_begin_25 0 rfl ?_
          refine V.getf 0 0 rfl fa_X9_9_8 rfl dX9_begin_26 ?_
          refine V.aload_n dX9_begin_29 0 rfl ?_
          refine V.getf 0 3 rfl fa_X9_25_8 rfl dX9_begin_30 ?_
          refine V.iload dX9_begin_33 4 rfl ?_
          refine V.iast (vw2 := [(w, ob 8 [.ref wr, .ref ws, .ref wn, .int (nI (fillW x0 ρ0 j).1)]), (wr, aI E 6 (upd (fun x => nI ((fillW x0 ρ0 j).2 x)) (fillW x0 ρ0 j).1 (nI j))), (ws, aI E 6 sm0), (wn, aN E 7 (fun j => some (an j))), (lo, ob 1 [.ref lt, .ref lr, .ref lw, .int (nI m), .int wa, .int lp]), (lt, aI E 4 ti), (lr, aI E 4 r), (lw, aS E 6 wf), (a, ob 3 [.ref ta, .int s0.2.1, .int s0.2.2.1, .int s0.2.2.2.1, .int s0.2.2.2.2.1, .int s0.2.2.2.2.2.1, .int s0.2.2.2.2.2.2.1, .int s0.2.2.2.2.2.2.2]), (ta, aI E 4 s0.1)]) 1 rfl (vinI (by have := fillW_le x0 ρ0 j; omega)) (by rw [nI_clamp (by omega)] <;> rfl) dX9_begin_35 ?_
          refine V.arrEq (vw2 := [(w, ob 8 [.ref wr, .ref ws, .ref wn, .int (nI (fillW x0 ρ0 j).1)]), (wr, aI E 6 (fun x => nI ((fillW x0 ρ0 (j + 1)).2 x))), (ws, aI E 6 sm0), (wn, aN E 7 (fun j => some (an j))), (lo, ob 1 [.ref lt, .ref lr, .ref lw, .int (nI m), .int wa, .int lp]), (lt, aI E 4 ti), (lr, aI E 4 r), (lw, aS E 6 wf), (a, ob 3 [.ref ta, .int s0.2.1, .int s0.2.2.1, .int s0.2.2.2.1, .int s0.2.2.2.2.1, .int s0.2.2.2.2.2.1, .int s0.2.2.2.2.2.2.1, .int s0.2.2.2.2.2.2.2]), (ta, aI E 4 s0.1)]) 1 0 rfl (fun x _ => by rw [fillW, if_pos c2_22]; show upd _ _ _ _ = nI (va_up _ _ _ _); simp only [upd, va_up]; split <;> rfl) rfl ?_
          refine V.aload_n dX9_begin_36 0 rfl ?_
          refine V.dup dX9_begin_37 rfl ?_
          refine V.getf 0 3 rfl fa_X9_25_8 rfl dX9_begin_38 ?_
          refine V.iconst (v := 1) dX9_begin_41 (by decide) ?_
          refine V.iadd dX9_begin_42 ?_
          refine V.topc (v := (nI (fillW x0 ρ0 (j + 1)).1)) (by rw [fillW, if_pos c2_22]; exact nI_1 _) ?_
          refine V.putf 0 3 (vw2 := [(w, ob 8 [.ref wr, .ref ws, .ref wn, .int (nI (fillW x0 ρ0 (j + 1)).1)]), (wr, aI E 6 (fun x => nI ((fillW x0 ρ0 (j + 1)).2 x))), (ws, aI E 6 sm0), (wn, aN E 7 (fun j => some (an j))), (lo, ob 1 [.ref lt, .ref lr, .ref lw, .int (nI m), .int wa, .int lp]), (lt, aI E 4 ti), (lr, aI E 4 r), (lw, aS E 6 wf), (a, ob 3 [.ref ta, .int s0.2.1, .int s0.2.2.1, .int s0.2.2.2.1, .int s0.2.2.2.2.1, .int s0.2.2.2.2.2.1, .int s0.2.2.2.2.2.2.1, .int s0.2.2.2.2.2.2.2]), (ta, aI E 4 s0.1)]) rfl fp_X9_25_8 rfl rfl (Nat.le_of_ble_eq_true rfl) rfl dX9_begin_43 ?_
          refine V.iinc (v := (nI (j + 1))) (lv2 := [(4, .int (nI (j + 1))), (0, .ref w), (1, .ref lo), (2, .ref a), (3, .int x0)]) dX9_begin_46 4 rfl (nI_1 _) (by decide) rfl ?_
          refine V.goto (tgt := 8) dX9_begin_49 (by decide) ?_
          refine V.locals [1, 2, 3, 4, 0] (by rfl) ?_
          exact ih_8 (j + 1) (by omega) (by omega)
  exact lp_8 (7) 0 (by omega) (by omega)
