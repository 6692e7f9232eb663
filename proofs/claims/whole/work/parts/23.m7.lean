set_option maxHeartbeats 4000000 in
set_option maxRecDepth 100000 in
theorem c_Walks_next0 (E : vEnv) (l : Launch) (L : List Nat) (h : Nat → va_E) (w : Nat) (wr : Nat) (ws : Nat) (wn : Nat) (lo : Nat) : CT E l yX9_next cX9_next 6 (some (.boolean)) 1 0 0 L h [(w, ob 8 [.ref wr, .ref ws, .ref wn, .int 0])] [.ref w, .ref lo] (qP L h (fun (_ : Unit) => [(w, ob 8 [.ref wr, .ref ws, .ref wn, .int 0])]) (fun _ => some (.int 0)) (fun _ => True)) := by
  refine CT.ofV (by decide +kernel) (Nat.le_of_ble_eq_true rfl) ?_
  refine V.locals2 (lv2 := [(0, .ref w), (1, .ref lo)]) rfl ?_
  refine V.aload_n dX9_next_0 0 rfl ?_
  refine V.getf 0 3 rfl fa_X9_25_8 rfl dX9_next_1 ?_
  refine V.iconst (v := 2) dX9_next_4 (by decide) ?_
  refine V.isub dX9_next_5 ?_
  refine V.topc (v := (-2)) (by decide) ?_
  refine V.istore_n (lv2 := [(2, .int (-2)), (0, .ref w), (1, .ref lo)]) dX9_next_6 rfl (by decide) rfl ?_
  refine V.iload_n dX9_next_7 0 rfl ?_
  refine V.if_lt (tgt := 34) dX9_next_8 (by decide) (fun _ => ?_) (fun hc => absurd (by decide) hc)
  refine V.iload_n dX9_next_34 0 rfl ?_
  refine V.if_ge (tgt := 40) dX9_next_35 (by decide) (fun hc => absurd hc (by decide)) (fun _ => ?_)
  refine V.iconst (v := 0) dX9_next_38 (by decide) ?_
  exact V.zret rfl (rfl) dX9_next_39 (⟨(), rfl, rfl, rfl, trivial⟩)

set_option maxHeartbeats 4000000 in
set_option maxRecDepth 100000 in
theorem c_Walks_next1 (E : vEnv) (l : Launch) (L : List Nat) (h : Nat → va_E) (w : Nat) (wr : Nat) (ws : Nat) (wn : Nat) (nn : Nat) (ρ : Nat → Nat) (lo : Nat) (hn : nn < 6) (hρ : ∀ i, i < nn + 1 → ρ i < 6) (hp : pivotC ρ nn = 0) : CT E l yX9_next cX9_next 6 (some (.boolean)) 1 0 0 L h [(w, ob 8 [.ref wr, .ref ws, .ref wn, .int (nI (nn + 1))]), (wr, aI E 6 (fun j => nI (ρ j)))] [.ref w, .ref lo] (qP L h (fun (_ : Unit) => [(w, ob 8 [.ref wr, .ref ws, .ref wn, .int (nI (nn + 1))]), (wr, aI E 6 (fun j => nI (ρ j)))]) (fun _ => some (.int 0)) (fun _ => True)) := by
  refine CT.ofV (by decide +kernel) (Nat.le_of_ble_eq_true rfl) ?_
  obtain ⟨Z, hZ⟩ : ∃ Z, Z = mZ E (qP L h (fun (_ : Unit) => [(w, ob 8 [.ref wr, .ref ws, .ref wn, .int (nI (nn + 1))]), (wr, aI E 6 (fun j => nI (ρ j)))]) (fun _ => some (.int 0)) (fun _ => True)) 0 0 := ⟨_, rfl⟩
  rw [← hZ]
  refine V.locals2 (lv2 := [(0, .ref w), (1, .ref lo)]) rfl ?_
  refine V.aload_n dX9_next_0 0 rfl ?_
  refine V.getf 0 3 rfl fa_X9_25_8 rfl dX9_next_1 ?_
  refine V.iconst (v := 2) dX9_next_4 (by decide) ?_
  refine V.isub dX9_next_5 ?_
  refine V.topc (v := (pI nn)) (pI_m2 nn) ?_
  refine V.istore_n (lv2 := [(2, .int (pI nn)), (0, .ref w), (1, .ref lo)]) dX9_next_6 rfl (by decide) rfl ?_
  refine V.locals [1, 2, 0] (by rfl) ?_
  have lp_7 : ∀ (fuel : Nat) (c : Nat) (hc : c ≤ nn) (hpv : pivotC ρ c = pivotC ρ nn) (hf : c < fuel), V E l yX9_next cX9_next 6 (some (.boolean)) (rmk 1 0 0) Z L h 0 0 [(w, ob 8 [.ref wr, .ref ws, .ref wn, .int (nI (nn + 1))]), (wr, aI E 6 (fun j => nI (ρ j)))] 7 [(0, .ref w), (1, .ref lo), (2, .int (pI c))] [] := by
    intro fuel
    induction fuel with
    | zero =>
      intro c hc hpv hf
      exfalso; omega
    | succ fuel ih_7 =>
      intro c hc hpv hf
      refine V.iload_n dX9_next_7 2 rfl ?_
      refine V.if_lt (tgt := 34) dX9_next_8 (by decide) (fun c1_8 => ?_) (fun c1_8 => ?_)
      · skip
        have hc0 : c = 0 := (pI_neg (by omega)).mp c1_8
        subst hc0
        refine V.iload_n dX9_next_34 2 rfl ?_
        refine V.if_ge (tgt := 40) dX9_next_35 (by decide) (fun hc => absurd hc (by decide)) (fun _ => ?_)
        refine V.iconst (v := 0) dX9_next_38 (by decide) ?_
        subst hZ
        exact V.zret rfl (rfl) dX9_next_39 (⟨(), rfl, rfl, rfl, trivial⟩)
      · skip
        obtain ⟨c', rfl⟩ : ∃ c', c = c' + 1 := ⟨c - 1, by have h9 : c ≠ 0 := fun h9 => c1_8 ((pI_neg (by omega)).mpr h9); omega⟩
        rw [pI_s]
        refine V.aload_n dX9_next_11 0 rfl ?_
        refine V.getf 0 0 rfl fa_X9_9_8 rfl dX9_next_12 ?_
        refine V.iload_n dX9_next_15 2 rfl ?_
        refine V.iald 1 rfl (vinI (by omega)) dX9_next_16 ?_
        refine V.topc (v := (nI (ρ c'))) (by rw [nI_clamp (by omega)]) ?_
        refine V.aload_n dX9_next_17 0 rfl ?_
        refine V.getf 0 0 rfl fa_X9_9_8 rfl dX9_next_18 ?_
        refine V.iload_n dX9_next_21 2 rfl ?_
        refine V.iconst (v := 1) dX9_next_22 (by decide) ?_
        refine V.iadd dX9_next_23 ?_
        refine V.topc (v := (nI (c' + 1))) (nI_1 _) ?_
        refine V.iald 1 rfl (vinI (by omega)) dX9_next_24 ?_
        refine V.topc (v := (nI (ρ (c' + 1)))) (by rw [nI_clamp (by omega)]) ?_
        refine V.icmp_le (tgt := 34) dX9_next_25 (by decide) (fun c2_25 => ?_) (fun c2_25 => ?_)
        · skip
          have hpc : pivotC ρ (c' + 1) = c' + 1 := by rw [pivotC, if_neg (fun h9 => absurd c2_25 (by rw [nI_leI (by have := hρ c' (by omega); omega) (by have := hρ (c' + 1) (by omega); omega)]; omega))]
          exfalso; omega
        · skip
          have hpc : pivotC ρ (c' + 1) = pivotC ρ c' := by rw [pivotC, if_pos (Nat.lt_of_not_le (fun h9 => c2_25 (nI_le h9 (by have := hρ (c' + 1) (by omega); omega))))]
          refine V.iinc (v := (pI c')) (lv2 := [(2, .int (pI c')), (0, .ref w), (1, .ref lo)]) dX9_next_28 2 rfl (inc_m1 _) (by decide) rfl ?_
          refine V.goto (tgt := 7) dX9_next_31 (by decide) ?_
          refine V.locals [1, 2, 0] (by rfl) ?_
          exact ih_7 c' (by omega) (hpc.symm.trans hpv) (by omega)
  exact lp_7 (nn + 1) nn (Nat.le_refl _) rfl (by omega)

set_option maxHeartbeats 4000000 in
set_option maxRecDepth 100000 in
theorem c_Walks_next (E : vEnv) (l : Launch) (L : List Nat) (h : Nat → va_E) (w : Nat) (wr : Nat) (ws : Nat) (wn : Nat) (ρ : Nat → Nat) (sm0 : Nat → Int32) (an : Nat → Nat) (tn : Nat → Nat) (lo : Nat) (lt : Nat) (lr : Nat) (lw : Nat) (m : Nat) (wa : Int32) (lp : Int32) (ti : Nat → Int32) (r : Nat → Int32) (wf : Nat → Option Nat) (KV : Nat → Prop) (sf : Nat → SHP) (f0 : Nat → NS) (s0 : NS) (nn : Nat) (p : Nat) (hn : nn < 6) (hm : m ≤ 6) (hρ : ∀ i, i < nn + 1 → ρ i < m) (hD : FD L KV an tn 7) (hK : ∀ a ∈ [w, wr, ws, wn, lo, lt, lr, lw], KV a) (hSh : ShopsAt L (fun a => KV a ∨ inF an tn 7 a) m wf sf h) (hF0 : FN E an tn 7 f0 h) (hb0 : ∀ j, j < 7 → (f0 j).2.2.2.2.2.2.2 = 0 ∨ (f0 j).2.2.2.2.2.2.2 = 1) (hp : pivotC ρ nn = p + 1) (hw0 : ∀ j, j ≤ nn + 1 → f0 j = walkN (m, sf, wa, ti, r) ρ s0 j) (hs0 : ∀ j, j < nn + 1 → sm0 j = visitS (m, sf, wa, ti, r) (ρ j) (walkN (m, sf, wa, ti, r) ρ s0 j)) : CT E l yX9_next cX9_next 6 (some (.boolean)) 6 0 0 L h [(w, ob 8 [.ref wr, .ref ws, .ref wn, .int (nI (nn + 1))]), (wr, aI E 6 (fun j => nI (ρ j))), (ws, aI E 6 sm0), (wn, aN E 7 (fun j => some (an j))), (lo, ob 1 [.ref lt, .ref lr, .ref lw, .int (nI m), .int wa, .int lp]), (lt, aI E 4 ti), (lr, aI E 4 r), (lw, aS E 6 wf)] [.ref w, .ref lo] (qG L h (inF an tn 7) (fun (u : (Nat → va_E) × (Nat → NS) × (Nat → Int32)) => u.1) (fun (u : (Nat → va_E) × (Nat → NS) × (Nat → Int32)) => [(w, ob 8 [.ref wr, .ref ws, .ref wn, .int (nI (nn + 1))]), (wr, aI E 6 (fun j => nI ((nextR ρ (nn + 1) p) j))), (ws, aI E 6 u.2.2), (wn, aN E 7 (fun j => some (an j))), (lo, ob 1 [.ref lt, .ref lr, .ref lw, .int (nI m), .int wa, .int lp]), (lt, aI E 4 ti), (lr, aI E 4 r), (lw, aS E 6 wf)]) (fun u => some (.int 1)) (fun u => FN E an tn 7 u.2.1 u.1 ∧ (∀ j, j ≤ (nn + 1) → u.2.1 j = walkN (m, sf, wa, ti, r) (nextR ρ (nn + 1) p) s0 j) ∧ (∀ j, j < (nn + 1) → u.2.2 j = visitS (m, sf, wa, ti, r) ((nextR ρ (nn + 1) p) j) (walkN (m, sf, wa, ti, r) (nextR ρ (nn + 1) p) s0 j)) ∧ (∀ j, j < 7 → (u.2.1 j).2.2.2.2.2.2.2 = 0 ∨ (u.2.1 j).2.2.2.2.2.2.2 = 1))) := by
  refine CT.ofV (by decide +kernel) (Nat.le_of_ble_eq_true rfl) ?_
  obtain ⟨Z, hZ⟩ : ∃ Z, Z = mZ E (qG L h (inF an tn 7) (fun (u : (Nat → va_E) × (Nat → NS) × (Nat → Int32)) => u.1) (fun (u : (Nat → va_E) × (Nat → NS) × (Nat → Int32)) => [(w, ob 8 [.ref wr, .ref ws, .ref wn, .int (nI (nn + 1))]), (wr, aI E 6 (fun j => nI ((nextR ρ (nn + 1) p) j))), (ws, aI E 6 u.2.2), (wn, aN E 7 (fun j => some (an j))), (lo, ob 1 [.ref lt, .ref lr, .ref lw, .int (nI m), .int wa, .int lp]), (lt, aI E 4 ti), (lr, aI E 4 r), (lw, aS E 6 wf)]) (fun u => some (.int 1)) (fun u => FN E an tn 7 u.2.1 u.1 ∧ (∀ j, j ≤ (nn + 1) → u.2.1 j = walkN (m, sf, wa, ti, r) (nextR ρ (nn + 1) p) s0 j) ∧ (∀ j, j < (nn + 1) → u.2.2 j = visitS (m, sf, wa, ti, r) ((nextR ρ (nn + 1) p) j) (walkN (m, sf, wa, ti, r) (nextR ρ (nn + 1) p) s0 j)) ∧ (∀ j, j < 7 → (u.2.1 j).2.2.2.2.2.2.2 = 0 ∨ (u.2.1 j).2.2.2.2.2.2.2 = 1))) 0 0 := ⟨_, rfl⟩
  rw [← hZ]
  refine V.locals2 (lv2 := [(0, .ref w), (1, .ref lo)]) rfl ?_
  refine V.aload_n dX9_next_0 0 rfl ?_
  refine V.getf 0 3 rfl fa_X9_25_8 rfl dX9_next_1 ?_
  refine V.iconst (v := 2) dX9_next_4 (by decide) ?_
  refine V.isub dX9_next_5 ?_
  refine V.topc (v := (pI nn)) (pI_m2 nn) ?_
  refine V.istore_n (lv2 := [(2, .int (pI nn)), (0, .ref w), (1, .ref lo)]) dX9_next_6 rfl (by decide) rfl ?_
  refine V.locals [1, 2, 0] (by rfl) ?_
  have lp_7 : ∀ (fuel : Nat) (c : Nat) (hc : c ≤ nn) (hpv : pivotC ρ c = pivotC ρ nn) (hf : c < fuel), V E l yX9_next cX9_next 6 (some (.boolean)) (rmk 6 0 0) Z L h 0 0 [(w, ob 8 [.ref wr, .ref ws, .ref wn, .int (nI (nn + 1))]), (wr, aI E 6 (fun j => nI (ρ j))), (ws, aI E 6 sm0), (wn, aN E 7 (fun j => some (an j))), (lo, ob 1 [.ref lt, .ref lr, .ref lw, .int (nI m), .int wa, .int lp]), (lt, aI E 4 ti), (lr, aI E 4 r), (lw, aS E 6 wf)] 7 [(0, .ref w), (1, .ref lo), (2, .int (pI c))] [] := by
    intro fuel
    induction fuel with
    | zero =>
      intro c hc hpv hf
      exfalso; omega
    | succ fuel ih_7 =>
      intro c hc hpv hf
      refine V.iload_n dX9_next_7 2 rfl ?_
      refine V.if_lt (tgt := 34) dX9_next_8 (by decide) (fun c1_8 => ?_) (fun c1_8 => ?_)
      · skip
        have hc0 : c = 0 := (pI_neg (by omega)).mp c1_8
        subst hc0
        exfalso; have h9 : pivotC ρ 0 = 0 := rfl; omega
      · skip
        obtain ⟨c', rfl⟩ : ∃ c', c = c' + 1 := ⟨c - 1, by have h9 : c ≠ 0 := fun h9 => c1_8 ((pI_neg (by omega)).mpr h9); omega⟩
        rw [pI_s]
        refine V.aload_n dX9_next_11 0 rfl ?_
        refine V.getf 0 0 rfl fa_X9_9_8 rfl dX9_next_12 ?_
        refine V.iload_n dX9_next_15 2 rfl ?_
        refine V.iald 1 rfl (vinI (by omega)) dX9_next_16 ?_
        refine V.topc (v := (nI (ρ c'))) (by rw [nI_clamp (by omega)]) ?_
        refine V.aload_n dX9_next_17 0 rfl ?_
        refine V.getf 0 0 rfl fa_X9_9_8 rfl dX9_next_18 ?_
        refine V.iload_n dX9_next_21 2 rfl ?_
        refine V.iconst (v := 1) dX9_next_22 (by decide) ?_
        refine V.iadd dX9_next_23 ?_
        refine V.topc (v := (nI (c' + 1))) (nI_1 _) ?_
        refine V.iald 1 rfl (vinI (by omega)) dX9_next_24 ?_
        refine V.topc (v := (nI (ρ (c' + 1)))) (by rw [nI_clamp (by omega)]) ?_
        refine V.icmp_le (tgt := 34) dX9_next_25 (by decide) (fun c2_25 => ?_) (fun c2_25 => ?_)
        · skip
          have hpc : pivotC ρ (c' + 1) = c' + 1 := by rw [pivotC, if_neg (fun h9 => absurd c2_25 (by rw [nI_leI (by have := hρ c' (by omega); omega) (by have := hρ (c' + 1) (by omega); omega)]; omega))]
          have hcp : c' = p := by omega
          subst hcp
          have hple : c' + 1 ≤ nn := hc
          refine V.iload_n dX9_next_34 2 rfl ?_
          refine V.if_ge (tgt := 40) dX9_next_35 (by decide) (fun _ => ?_) (fun hc => absurd (nI_pos' (by omega)) hc)
          refine V.aload_n dX9_next_40 0 rfl ?_
          refine V.getf 0 3 rfl fa_X9_25_8 rfl dX9_next_41 ?_
          refine V.iconst (v := 1) dX9_next_44 (by decide) ?_
          refine V.isub dX9_next_45 ?_
          refine V.topc (v := (nI nn)) (nI_pred nn) ?_
          refine V.istore_n (lv2 := [(3, .int (nI nn)), (0, .ref w), (1, .ref lo), (2, .int (nI c'))]) dX9_next_46 rfl (by decide) rfl ?_
          refine V.locals [1, 2, 3, 0] (by rfl) ?_
          have lp_47 : ∀ (fuel : Nat) (o : Nat) (ho : o ≤ nn) (hpo : c' < o) (hot : otherC ρ c' o = otherC ρ c' nn) (hf2 : o < fuel), V E l yX9_next cX9_next 6 (some (.boolean)) (rmk 6 0 0) Z L h 0 0 [(w, ob 8 [.ref wr, .ref ws, .ref wn, .int (nI (nn + 1))]), (wr, aI E 6 (fun j => nI (ρ j))), (ws, aI E 6 sm0), (wn, aN E 7 (fun j => some (an j))), (lo, ob 1 [.ref lt, .ref lr, .ref lw, .int (nI m), .int wa, .int lp]), (lt, aI E 4 ti), (lr, aI E 4 r), (lw, aS E 6 wf)] 47 [(0, .ref w), (1, .ref lo), (2, .int (nI c')), (3, .int (nI o))] [] := by
            intro fuel
            induction fuel with
            | zero =>
              intro o ho hpo hot hf2
              exfalso; omega
            | succ fuel ih_47 =>
              intro o ho hpo hot hf2
              refine V.iload_n dX9_next_47 3 rfl ?_
              refine V.iload_n dX9_next_48 2 rfl ?_
              refine V.iconst (v := 1) dX9_next_49 (by decide) ?_
              refine V.iadd dX9_next_50 ?_
              refine V.topc (v := (nI (c' + 1))) (nI_1 _) ?_
              refine V.icmp_le (tgt := 75) dX9_next_51 (by decide) (fun c3_51 => ?_) (fun c3_51 => ?_)
              · skip
                have hoo : otherC ρ c' o = o := by
                  cases o with
                  | zero => rfl
                  | succ o => rw [otherC, if_neg (fun h9 => absurd h9.1 (by have := (nI_leI (by omega) (by omega)).mp c3_51; omega))]
                have hot2 : otherC ρ c' nn = o := hot.symm.trans hoo
                refine V.aload_n dX9_next_75 0 rfl ?_
                refine V.iload_n dX9_next_76 2 rfl ?_
                refine V.iload_n dX9_next_77 3 rfl ?_
                refine V.callVp (As := [.int (nI c'), .int (nI o)]) (rest := []) [0, 1] (c_Walks_exchange E l L _ w wr ws wn ((nn + 1)) ρ c' o (by omega) (by omega)) rfl (by decide) mi_X9_exchange 0 rfl rfl w_618 w_619 w_620 rfl rfl (Nat.le_of_ble_eq_true rfl) ⟨by decide, by decide⟩ ⟨by decide, by decide⟩ dX9_next_78 (vw2 := fun _ => [(w, ob 8 [.ref wr, .ref ws, .ref wn, .int (nI (nn + 1))]), (wr, aI E 6 (fun x => nI (va_up (va_up ρ c' (ρ o)) o (ρ c') x))), (ws, aI E 6 sm0), (wn, aN E 7 (fun j => some (an j))), (lo, ob 1 [.ref lt, .ref lr, .ref lw, .int (nI m), .int wa, .int lp]), (lt, aI E 4 ti), (lr, aI E 4 r), (lw, aS E 6 wf)]) (st2 := fun _ => []) (fun _ => rfl) (fun _ => rfl) (fun _ => rfl) (fun _ _ => ?_)
                refine V.arrEq (vw2 := [(w, ob 8 [.ref wr, .ref ws, .ref wn, .int (nI (nn + 1))]), (wr, aI E 6 (fun j => nI (swapR ρ c' o j))), (ws, aI E 6 sm0), (wn, aN E 7 (fun j => some (an j))), (lo, ob 1 [.ref lt, .ref lr, .ref lw, .int (nI m), .int wa, .int lp]), (lt, aI E 4 ti), (lr, aI E 4 r), (lw, aS E 6 wf)]) 1 0 rfl (fun x _ => rfl) rfl ?_
                refine V.iload_n dX9_next_81 2 rfl ?_
                refine V.iconst (v := 1) dX9_next_82 (by decide) ?_
                refine V.iadd dX9_next_83 ?_
                refine V.topc (v := (nI (c' + 1))) (nI_1 _) ?_
                refine V.istore (lv2 := [(4, .int (nI (c' + 1))), (0, .ref w), (1, .ref lo), (2, .int (nI c')), (3, .int (nI o))]) dX9_next_84 (by decide) rfl ?_
                refine V.aload_n dX9_next_86 1 rfl ?_
                refine V.getf 0 3 rfl fa_X9_25_8 rfl dX9_next_87 ?_
                refine V.iconst (v := 1) dX9_next_90 (by decide) ?_
                refine V.isub dX9_next_91 ?_
                refine V.topc (v := (nI nn)) (nI_pred nn) ?_
                refine V.istore (lv2 := [(5, .int (nI nn)), (4, .int (nI (c' + 1))), (0, .ref w), (1, .ref lo), (2, .int (nI c')), (3, .int (nI o))]) dX9_next_92 (by decide) rfl ?_
                refine V.locals [2, 3, 4, 1, 0] (by rfl) ?_
                have lp_94 : ∀ (fuel : Nat) (σ : Nat → Nat) (xl : Nat) (zl : Nat) (f : Nat) (hz : zl ≤ nn) (hx : c' < xl) (hx2 : xl ≤ nn + 1) (hrev : revR f σ xl zl = nextR ρ (nn + 1) c') (hzf : zl - xl < f) (hf3 : f < fuel), V E l yX9_next cX9_next 6 (some (.boolean)) (rmk 6 0 0) Z L h 0 0 [(w, ob 8 [.ref wr, .ref ws, .ref wn, .int (nI (nn + 1))]), (wr, aI E 6 (fun j => nI (σ j))), (ws, aI E 6 sm0), (wn, aN E 7 (fun j => some (an j))), (lo, ob 1 [.ref lt, .ref lr, .ref lw, .int (nI m), .int wa, .int lp]), (lt, aI E 4 ti), (lr, aI E 4 r), (lw, aS E 6 wf)] 94 [(0, .ref w), (1, .ref lo), (2, .int (nI c')), (4, .int (nI xl)), (5, .int (nI zl))] [] := by
                  intro fuel
                  induction fuel with
                  | zero =>
                    intro σ xl zl f hz hx hx2 hrev hzf hf3
                    exfalso; omega
                  | succ fuel ih_94 =>
                    intro σ xl zl f hz hx hx2 hrev hzf hf3
                    refine V.iload dX9_next_94 3 rfl ?_
                    refine V.iload dX9_next_96 4 rfl ?_
                    refine V.icmp_ge (tgt := 118) dX9_next_98 (by decide) (fun c4_98 => ?_) (fun c4_98 => ?_)
                    · skip
                      have hσ : σ = nextR ρ (nn + 1) c' := by
                        have hba := (nI_leI (by omega) (by omega)).mp c4_98
                        cases f with
                        | zero => exact hrev
                        | succ f => rw [revR, if_neg (by omega)] at hrev; exact hrev
                      subst hσ
                      refine V.aload_n dX9_next_118 0 rfl ?_
                      refine V.aload_n dX9_next_119 1 rfl ?_
                      refine V.iload_n dX9_next_120 2 rfl ?_
                      refine V.callVg (As := [.ref lo, .int (nI c')]) (rest := []) [0, 1, 2, 3, 4, 5, 6, 7] (c_Walks_goFrom E l L _ w wr ws wn ((nn + 1)) ((nextR ρ (nn + 1) c')) sm0 an tn lo lt lr lw m wa lp ti r wf KV sf f0 s0 c' (by omega) (hm) (nextR_in (by omega) hρ) (hD) (hK) (hSh.over (vw := [(w, ob 8 [.ref wr, .ref ws, .ref wn, .int (nI (nn + 1))]), (wr, aI E 6 (fun j => nI (nextR ρ (nn + 1) c' j))), (ws, aI E 6 sm0), (wn, aN E 7 (fun j => some (an j))), (lo, ob 1 [.ref lt, .ref lr, .ref lw, .int (nI m), .int wa, .int lp]), (lt, aI E 4 ti), (lr, aI E 4 r), (lw, aS E 6 wf)]) (fun b hb => Or.inl (hK b hb))) (FN.over (vw := [(w, ob 8 [.ref wr, .ref ws, .ref wn, .int (nI (nn + 1))]), (wr, aI E 6 (fun j => nI (nextR ρ (nn + 1) c' j))), (ws, aI E 6 sm0), (wn, aN E 7 (fun j => some (an j))), (lo, ob 1 [.ref lt, .ref lr, .ref lw, .int (nI m), .int wa, .int lp]), (lt, aI E 4 ti), (lr, aI E 4 r), (lw, aS E 6 wf)]) hF0 (fun b hb => hD.off (hK b hb))) (hb0) (by omega) (fun j hj => (hw0 j (by omega)).trans (walkN_congr (fun i hi => (nextR_low (by omega) (by omega)).symm))) (fun j hj => by rw [hs0 j (by omega), nextR_low (by omega) hj, walkN_congr (ρ2 := ρ) (fun i hi => nextR_low (by omega) (by omega))])) rfl (by decide) mi_X9_goFrom 0 rfl rfl w_600 w_601 w_602 rfl rfl (Nat.le_of_ble_eq_true rfl) ⟨by decide, by decide⟩ ⟨by decide, by decide⟩ dX9_next_121 (vw2 := fun u => [(w, ob 8 [.ref wr, .ref ws, .ref wn, .int (nI (nn + 1))]), (wr, aI E 6 (fun j => nI (nextR ρ (nn + 1) c' j))), (ws, aI E 6 u.2.2), (wn, aN E 7 (fun j => some (an j))), (lo, ob 1 [.ref lt, .ref lr, .ref lw, .int (nI m), .int wa, .int lp]), (lt, aI E 4 ti), (lr, aI E 4 r), (lw, aS E 6 wf)]) (st2 := fun u => []) (fun b hb => hD.off (hK b hb)) (fun _ => rfl) (fun _ => rfl) (fun _ => rfl) (fun u hq_121 => ?_)
                      refine V.iconst (v := 1) dX9_next_124 (by decide) ?_
                      subst hZ
                      exact V.zret rfl (rfl) dX9_next_125 (⟨u, rfl, rfl, rfl, hq_121.1, hq_121.2.1, hq_121.2.2.1, hq_121.2.2.2⟩)
                    · skip
                      have hab : xl < zl := Nat.lt_of_not_le (fun h9 => c4_98 (nI_le h9 (by omega)))
                      obtain ⟨f', rfl⟩ : ∃ f', f = f' + 1 := ⟨f - 1, by omega⟩
                      rw [revR, if_pos hab] at hrev
                      refine V.aload_n dX9_next_101 0 rfl ?_
                      refine V.iload dX9_next_102 3 rfl ?_
                      refine V.iload dX9_next_104 4 rfl ?_
                      refine V.callVp (As := [.int (nI xl), .int (nI zl)]) (rest := []) [0, 1] (c_Walks_exchange E l L _ w wr ws wn ((nn + 1)) σ xl zl (by omega) (by omega)) rfl (by decide) mi_X9_exchange 0 rfl rfl w_618 w_619 w_620 rfl rfl (Nat.le_of_ble_eq_true rfl) ⟨by decide, by decide⟩ ⟨by decide, by decide⟩ dX9_next_106 (vw2 := fun _ => [(w, ob 8 [.ref wr, .ref ws, .ref wn, .int (nI (nn + 1))]), (wr, aI E 6 (fun x => nI (va_up (va_up σ xl (σ zl)) zl (σ xl) x))), (ws, aI E 6 sm0), (wn, aN E 7 (fun j => some (an j))), (lo, ob 1 [.ref lt, .ref lr, .ref lw, .int (nI m), .int wa, .int lp]), (lt, aI E 4 ti), (lr, aI E 4 r), (lw, aS E 6 wf)]) (st2 := fun _ => []) (fun _ => rfl) (fun _ => rfl) (fun _ => rfl) (fun _ _ => ?_)
                      refine V.arrEq (vw2 := [(w, ob 8 [.ref wr, .ref ws, .ref wn, .int (nI (nn + 1))]), (wr, aI E 6 (fun j => nI (swapR σ xl zl j))), (ws, aI E 6 sm0), (wn, aN E 7 (fun j => some (an j))), (lo, ob 1 [.ref lt, .ref lr, .ref lw, .int (nI m), .int wa, .int lp]), (lt, aI E 4 ti), (lr, aI E 4 r), (lw, aS E 6 wf)]) 1 0 rfl (fun x _ => rfl) rfl ?_
                      refine V.iinc (v := (nI (xl + 1))) (lv2 := [(4, .int (nI (xl + 1))), (0, .ref w), (1, .ref lo), (2, .int (nI c')), (5, .int (nI zl))]) dX9_next_109 3 rfl (nI_1 _) (by decide) rfl ?_
                      refine V.iinc (v := (nI (zl - 1))) (lv2 := [(5, .int (nI (zl - 1))), (4, .int (nI (xl + 1))), (0, .ref w), (1, .ref lo), (2, .int (nI c'))]) dX9_next_112 4 rfl (by rw [show zl = (zl - 1) + 1 by omega]; exact pk_m1 _) (by decide) rfl ?_
                      refine V.goto (tgt := 94) dX9_next_115 (by decide) ?_
                      refine V.locals [2, 3, 4, 1, 0] (by rfl) ?_
                      exact ih_94 _ _ _ f' (by omega) (by omega) (by omega) hrev (by omega) (by omega)
                exact lp_94 (nn + 2) (swapR ρ c' o) (c' + 1) nn (nn + 1) (Nat.le_refl _) (by omega) (by omega) (by rw [nextR, Nat.add_sub_cancel, hot2]) (by omega) (by omega)
              · skip
                have hgt : c' + 1 < o := Nat.lt_of_not_le (fun h9 => c3_51 (nI_le h9 (by omega)))
                obtain ⟨o', rfl⟩ : ∃ o', o = o' + 1 := ⟨o - 1, by omega⟩
                refine V.aload_n dX9_next_54 0 rfl ?_
                refine V.getf 0 0 rfl fa_X9_9_8 rfl dX9_next_55 ?_
                refine V.iload_n dX9_next_58 3 rfl ?_
                refine V.iald 1 rfl (vinI (by omega)) dX9_next_59 ?_
                refine V.topc (v := (nI (ρ (o' + 1)))) (by rw [nI_clamp (by omega)]) ?_
                refine V.aload_n dX9_next_60 0 rfl ?_
                refine V.getf 0 0 rfl fa_X9_9_8 rfl dX9_next_61 ?_
                refine V.iload_n dX9_next_64 2 rfl ?_
                refine V.iald 1 rfl (vinI (by omega)) dX9_next_65 ?_
                refine V.topc (v := (nI (ρ c'))) (by rw [nI_clamp (by omega)]) ?_
                refine V.icmp_ge (tgt := 75) dX9_next_66 (by decide) (fun c5_66 => ?_) (fun c5_66 => ?_)
                · skip
                  have hoo : otherC ρ c' (o' + 1) = o' + 1 := by rw [otherC, if_neg (fun h9 => absurd h9.2 (by have := (nI_leI (by have := hρ c' (by omega); omega) (by have := hρ (o' + 1) (by omega); omega)).mp c5_66; omega))]
                  have hot2 : otherC ρ c' nn = (o' + 1) := hot.symm.trans hoo
                  refine V.aload_n dX9_next_75 0 rfl ?_
                  refine V.iload_n dX9_next_76 2 rfl ?_
                  refine V.iload_n dX9_next_77 3 rfl ?_
                  refine V.callVp (As := [.int (nI c'), .int (nI (o' + 1))]) (rest := []) [0, 1] (c_Walks_exchange E l L _ w wr ws wn ((nn + 1)) ρ c' (((o' + 1))) (by omega) (by omega)) rfl (by decide) mi_X9_exchange 0 rfl rfl w_618 w_619 w_620 rfl rfl (Nat.le_of_ble_eq_true rfl) ⟨by decide, by decide⟩ ⟨by decide, by decide⟩ dX9_next_78 (vw2 := fun _ => [(w, ob 8 [.ref wr, .ref ws, .ref wn, .int (nI (nn + 1))]), (wr, aI E 6 (fun x => nI (va_up (va_up ρ c' (ρ ((o' + 1)))) ((o' + 1)) (ρ c') x))), (ws, aI E 6 sm0), (wn, aN E 7 (fun j => some (an j))), (lo, ob 1 [.ref lt, .ref lr, .ref lw, .int (nI m), .int wa, .int lp]), (lt, aI E 4 ti), (lr, aI E 4 r), (lw, aS E 6 wf)]) (st2 := fun _ => []) (fun _ => rfl) (fun _ => rfl) (fun _ => rfl) (fun _ _ => ?_)
                  refine V.arrEq (vw2 := [(w, ob 8 [.ref wr, .ref ws, .ref wn, .int (nI (nn + 1))]), (wr, aI E 6 (fun j => nI (swapR ρ c' ((o' + 1)) j))), (ws, aI E 6 sm0), (wn, aN E 7 (fun j => some (an j))), (lo, ob 1 [.ref lt, .ref lr, .ref lw, .int (nI m), .int wa, .int lp]), (lt, aI E 4 ti), (lr, aI E 4 r), (lw, aS E 6 wf)]) 1 0 rfl (fun x _ => rfl) rfl ?_
                  refine V.iload_n dX9_next_81 2 rfl ?_
                  refine V.iconst (v := 1) dX9_next_82 (by decide) ?_
                  refine V.iadd dX9_next_83 ?_
                  refine V.topc (v := (nI (c' + 1))) (nI_1 _) ?_
                  refine V.istore (lv2 := [(4, .int (nI (c' + 1))), (0, .ref w), (1, .ref lo), (2, .int (nI c')), (3, .int (nI (o' + 1)))]) dX9_next_84 (by decide) rfl ?_
                  refine V.aload_n dX9_next_86 1 rfl ?_
                  refine V.getf 0 3 rfl fa_X9_25_8 rfl dX9_next_87 ?_
                  refine V.iconst (v := 1) dX9_next_90 (by decide) ?_
                  refine V.isub dX9_next_91 ?_
                  refine V.topc (v := (nI nn)) (nI_pred nn) ?_
                  refine V.istore (lv2 := [(5, .int (nI nn)), (4, .int (nI (c' + 1))), (0, .ref w), (1, .ref lo), (2, .int (nI c')), (3, .int (nI (o' + 1)))]) dX9_next_92 (by decide) rfl ?_
                  refine V.locals [2, 3, 4, 1, 0] (by rfl) ?_
                  have lp_94 : ∀ (fuel : Nat) (σ : Nat → Nat) (xl : Nat) (zl : Nat) (f : Nat) (hz : zl ≤ nn) (hx : c' < xl) (hx2 : xl ≤ nn + 1) (hrev : revR f σ xl zl = nextR ρ (nn + 1) c') (hzf : zl - xl < f) (hf3 : f < fuel), V E l yX9_next cX9_next 6 (some (.boolean)) (rmk 6 0 0) Z L h 0 0 [(w, ob 8 [.ref wr, .ref ws, .ref wn, .int (nI (nn + 1))]), (wr, aI E 6 (fun j => nI (σ j))), (ws, aI E 6 sm0), (wn, aN E 7 (fun j => some (an j))), (lo, ob 1 [.ref lt, .ref lr, .ref lw, .int (nI m), .int wa, .int lp]), (lt, aI E 4 ti), (lr, aI E 4 r), (lw, aS E 6 wf)] 94 [(0, .ref w), (1, .ref lo), (2, .int (nI c')), (4, .int (nI xl)), (5, .int (nI zl))] [] := by
                    intro fuel
                    induction fuel with
                    | zero =>
                      intro σ xl zl f hz hx hx2 hrev hzf hf3
                      exfalso; omega
                    | succ fuel ih_94 =>
                      intro σ xl zl f hz hx hx2 hrev hzf hf3
                      refine V.iload dX9_next_94 3 rfl ?_
                      refine V.iload dX9_next_96 4 rfl ?_
                      refine V.icmp_ge (tgt := 118) dX9_next_98 (by decide) (fun c6_98 => ?_) (fun c6_98 => ?_)
                      · skip
                        have hσ : σ = nextR ρ (nn + 1) c' := by
                          have hba := (nI_leI (by omega) (by omega)).mp c6_98
                          cases f with
                          | zero => exact hrev
                          | succ f => rw [revR, if_neg (by omega)] at hrev; exact hrev
                        subst hσ
                        refine V.aload_n dX9_next_118 0 rfl ?_
                        refine V.aload_n dX9_next_119 1 rfl ?_
                        refine V.iload_n dX9_next_120 2 rfl ?_
                        refine V.callVg (As := [.ref lo, .int (nI c')]) (rest := []) [0, 1, 2, 3, 4, 5, 6, 7] (c_Walks_goFrom E l L _ w wr ws wn ((nn + 1)) ((nextR ρ (nn + 1) c')) sm0 an tn lo lt lr lw m wa lp ti r wf KV sf f0 s0 c' (by omega) (hm) (nextR_in (by omega) hρ) (hD) (hK) (hSh.over (vw := [(w, ob 8 [.ref wr, .ref ws, .ref wn, .int (nI (nn + 1))]), (wr, aI E 6 (fun j => nI (nextR ρ (nn + 1) c' j))), (ws, aI E 6 sm0), (wn, aN E 7 (fun j => some (an j))), (lo, ob 1 [.ref lt, .ref lr, .ref lw, .int (nI m), .int wa, .int lp]), (lt, aI E 4 ti), (lr, aI E 4 r), (lw, aS E 6 wf)]) (fun b hb => Or.inl (hK b hb))) (FN.over (vw := [(w, ob 8 [.ref wr, .ref ws, .ref wn, .int (nI (nn + 1))]), (wr, aI E 6 (fun j => nI (nextR ρ (nn + 1) c' j))), (ws, aI E 6 sm0), (wn, aN E 7 (fun j => some (an j))), (lo, ob 1 [.ref lt, .ref lr, .ref lw, .int (nI m), .int wa, .int lp]), (lt, aI E 4 ti), (lr, aI E 4 r), (lw, aS E 6 wf)]) hF0 (fun b hb => hD.off (hK b hb))) (hb0) (by omega) (fun j hj => (hw0 j (by omega)).trans (walkN_congr (fun i hi => (nextR_low (by omega) (by omega)).symm))) (fun j hj => by rw [hs0 j (by omega), nextR_low (by omega) hj, walkN_congr (ρ2 := ρ) (fun i hi => nextR_low (by omega) (by omega))])) rfl (by decide) mi_X9_goFrom 0 rfl rfl w_600 w_601 w_602 rfl rfl (Nat.le_of_ble_eq_true rfl) ⟨by decide, by decide⟩ ⟨by decide, by decide⟩ dX9_next_121 (vw2 := fun u => [(w, ob 8 [.ref wr, .ref ws, .ref wn, .int (nI (nn + 1))]), (wr, aI E 6 (fun j => nI (nextR ρ (nn + 1) c' j))), (ws, aI E 6 u.2.2), (wn, aN E 7 (fun j => some (an j))), (lo, ob 1 [.ref lt, .ref lr, .ref lw, .int (nI m), .int wa, .int lp]), (lt, aI E 4 ti), (lr, aI E 4 r), (lw, aS E 6 wf)]) (st2 := fun u => []) (fun b hb => hD.off (hK b hb)) (fun _ => rfl) (fun _ => rfl) (fun _ => rfl) (fun u hq_121 => ?_)
                        refine V.iconst (v := 1) dX9_next_124 (by decide) ?_
                        subst hZ
                        exact V.zret rfl (rfl) dX9_next_125 (⟨u, rfl, rfl, rfl, hq_121.1, hq_121.2.1, hq_121.2.2.1, hq_121.2.2.2⟩)
                      · skip
                        have hab : xl < zl := Nat.lt_of_not_le (fun h9 => c6_98 (nI_le h9 (by omega)))
                        obtain ⟨f', rfl⟩ : ∃ f', f = f' + 1 := ⟨f - 1, by omega⟩
                        rw [revR, if_pos hab] at hrev
                        refine V.aload_n dX9_next_101 0 rfl ?_
                        refine V.iload dX9_next_102 3 rfl ?_
                        refine V.iload dX9_next_104 4 rfl ?_
                        refine V.callVp (As := [.int (nI xl), .int (nI zl)]) (rest := []) [0, 1] (c_Walks_exchange E l L _ w wr ws wn ((nn + 1)) σ xl zl (by omega) (by omega)) rfl (by decide) mi_X9_exchange 0 rfl rfl w_618 w_619 w_620 rfl rfl (Nat.le_of_ble_eq_true rfl) ⟨by decide, by decide⟩ ⟨by decide, by decide⟩ dX9_next_106 (vw2 := fun _ => [(w, ob 8 [.ref wr, .ref ws, .ref wn, .int (nI (nn + 1))]), (wr, aI E 6 (fun x => nI (va_up (va_up σ xl (σ zl)) zl (σ xl) x))), (ws, aI E 6 sm0), (wn, aN E 7 (fun j => some (an j))), (lo, ob 1 [.ref lt, .ref lr, .ref lw, .int (nI m), .int wa, .int lp]), (lt, aI E 4 ti), (lr, aI E 4 r), (lw, aS E 6 wf)]) (st2 := fun _ => []) (fun _ => rfl) (fun _ => rfl) (fun _ => rfl) (fun _ _ => ?_)
                        refine V.arrEq (vw2 := [(w, ob 8 [.ref wr, .ref ws, .ref wn, .int (nI (nn + 1))]), (wr, aI E 6 (fun j => nI (swapR σ xl zl j))), (ws, aI E 6 sm0), (wn, aN E 7 (fun j => some (an j))), (lo, ob 1 [.ref lt, .ref lr, .ref lw, .int (nI m), .int wa, .int lp]), (lt, aI E 4 ti), (lr, aI E 4 r), (lw, aS E 6 wf)]) 1 0 rfl (fun x _ => rfl) rfl ?_
                        refine V.iinc (v := (nI (xl + 1))) (lv2 := [(4, .int (nI (xl + 1))), (0, .ref w), (1, .ref lo), (2, .int (nI c')), (5, .int (nI zl))]) dX9_next_109 3 rfl (nI_1 _) (by decide) rfl ?_
                        refine V.iinc (v := (nI (zl - 1))) (lv2 := [(5, .int (nI (zl - 1))), (4, .int (nI (xl + 1))), (0, .ref w), (1, .ref lo), (2, .int (nI c'))]) dX9_next_112 4 rfl (by rw [show zl = (zl - 1) + 1 by omega]; exact pk_m1 _) (by decide) rfl ?_
                        refine V.goto (tgt := 94) dX9_next_115 (by decide) ?_
                        refine V.locals [2, 3, 4, 1, 0] (by rfl) ?_
                        exact ih_94 _ _ _ f' (by omega) (by omega) (by omega) hrev (by omega) (by omega)
                  exact lp_94 (nn + 2) (swapR ρ c' ((o' + 1))) (c' + 1) nn (nn + 1) (Nat.le_refl _) (by omega) (by omega) (by rw [nextR, Nat.add_sub_cancel, hot2]) (by omega) (by omega)
                · skip
                  have hoo : otherC ρ c' (o' + 1) = otherC ρ c' o' := by rw [otherC, if_pos ⟨hgt, Nat.lt_of_not_le (fun h9 => c5_66 (nI_le h9 (by have := hρ (o' + 1) (by omega); omega)))⟩]
                  refine V.iinc (v := (nI o')) (lv2 := [(3, .int (nI o')), (0, .ref w), (1, .ref lo), (2, .int (nI c'))]) dX9_next_69 3 rfl (pk_m1 _) (by decide) rfl ?_
                  refine V.goto (tgt := 47) dX9_next_72 (by decide) ?_
                  refine V.locals [1, 2, 3, 0] (by rfl) ?_
                  exact ih_47 o' (by omega) (by omega) (hoo.symm.trans hot) (by omega)
          exact lp_47 (nn + 1) nn (Nat.le_refl _) (by omega) rfl (by omega)
        · skip
          have hpc : pivotC ρ (c' + 1) = pivotC ρ c' := by rw [pivotC, if_pos (Nat.lt_of_not_le (fun h9 => c2_25 (nI_le h9 (by have := hρ (c' + 1) (by omega); omega))))]
          refine V.iinc (v := (pI c')) (lv2 := [(2, .int (pI c')), (0, .ref w), (1, .ref lo)]) dX9_next_28 2 rfl (inc_m1 _) (by decide) rfl ?_
          refine V.goto (tgt := 7) dX9_next_31 (by decide) ?_
          refine V.locals [1, 2, 0] (by rfl) ?_
          exact ih_7 c' (by omega) (hpc.symm.trans hpv) (by omega)
  exact lp_7 (nn + 1) nn (Nat.le_refl _) rfl (by omega)
