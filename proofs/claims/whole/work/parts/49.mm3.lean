set_option maxHeartbeats 4000000 in
set_option maxRecDepth 100000 in
theorem c_M_tireBy (E : vEnv) (l : Launch) (L : List Nat) (h : Nat → va_E) (o : Nat) (mw : Nat) (mk : Nat) (mt : Nat) (mr : Nat) (mki : Nat) (mso : Nat) (mst : Nat) (mpr : Nat) (msh : Nat) (mwa : Nat) (mpu : Nat) (mtx : Nat) (mor : Nat) (mbo : Nat) (tO : Nat) (tVi : Nat) (tSm : Nat) (ts : Int32) (ma : Int32) (bg : Int32) (wr : Int32) (cl : Int32) (um : Int32) (mn : Int32) (tm : Int32) (ρ : Nat → MR) (i : Nat) (pw : Nat → Int32) (s : NS) (k : Nat) (x : Int32) (hi : i < 12) (hR : ρ i = (pw, s)) (hk : k < 4) : CT E l yX11_tireBy cX11_tireBy 5 none 0 0 0 L h [(o, ob 10 [.ref mw, .ref mk, .ref mt, .ref mr, .ref mki, .ref mso, .ref mst, .ref mpr, .ref msh, .ref mwa, .ref mpu, .ref mtx, .int ts, .int ma, .int bg, .int wr, .int cl, .int um, .ref mor, .ref mbo, .int mn, .ref tO, .ref tVi, .ref tSm, .int tm]), (mw, aI E 192 (mW ρ))] [.ref o, .int (nI (16 * i)), .int (nI k), .int x] (qP L h (fun (_ : Unit) => [(o, ob 10 [.ref mw, .ref mk, .ref mt, .ref mr, .ref mki, .ref mso, .ref mst, .ref mpr, .ref msh, .ref mwa, .ref mpu, .ref mtx, .int ts, .int ma, .int bg, .int wr, .int cl, .int um, .ref mor, .ref mbo, .int mn, .ref tO, .ref tVi, .ref tSm, .int tm]), (mw, aI E 192 (mW (va_up ρ i (pw, (upd s.1 k (max0 (s.1 k + x)), s.2)))))]) (fun _ => none) (fun _ => True)) := by
  refine CT.ofV (by decide +kernel) (Nat.le_of_ble_eq_true rfl) ?_
  refine V.locals2 (lv2 := [(0, .ref o), (1, .int (nI (16 * i))), (2, .int (nI k)), (3, .int x)]) rfl ?_
  refine V.aload_n dX11_tireBy_0 0 rfl ?_
  refine V.getf 0 0 rfl fa_X11_7_10 rfl dX11_tireBy_1 ?_
  refine V.iload_n dX11_tireBy_4 1 rfl ?_
  refine V.bipush (v := 6) dX11_tireBy_5 (by decide) ?_
  refine V.iadd dX11_tireBy_7 ?_
  refine V.topc (v := (nI ((16 * i) + 6))) (nI_add ((16 * i)) 6) ?_
  refine V.iload_n dX11_tireBy_8 2 rfl ?_
  refine V.iadd dX11_tireBy_9 ?_
  refine V.topc (v := (nI (((16 * i) + 6) + k))) (nI_add (((16 * i) + 6)) k) ?_
  refine V.iald 1 rfl (vinI (by omega)) dX11_tireBy_10 ?_
  refine V.topc (v := ((mW ρ) ((((16 * i) + 6) + k)))) (by rw [nI_clamp (by omega)] <;> rfl) ?_
  refine V.topc (v := (s.1 k)) (mW_ti hR hk) ?_
  refine V.iload_n dX11_tireBy_11 3 rfl ?_
  refine V.iadd dX11_tireBy_12 ?_
  refine V.istore (lv2 := [(4, .int ((s.1 k) + x)), (0, .ref o), (1, .int (nI (16 * i))), (2, .int (nI k)), (3, .int x)]) dX11_tireBy_13 (by decide) rfl ?_
  refine V.aload_n dX11_tireBy_15 1 rfl ?_
  refine V.getf 0 0 rfl fa_X11_7_10 rfl dX11_tireBy_16 ?_
  refine V.iload_n dX11_tireBy_19 2 rfl ?_
  refine V.bipush (v := 6) dX11_tireBy_20 (by decide) ?_
  refine V.iadd dX11_tireBy_22 ?_
  refine V.topc (v := (nI ((16 * i) + 6))) (nI_add ((16 * i)) 6) ?_
  refine V.iload_n dX11_tireBy_23 3 rfl ?_
  refine V.iadd dX11_tireBy_24 ?_
  refine V.topc (v := (nI (((16 * i) + 6) + k))) (nI_add (((16 * i) + 6)) k) ?_
  refine V.iload dX11_tireBy_25 0 rfl ?_
  refine V.if_ge (tgt := 34) dX11_tireBy_27 (by decide) (fun c1_27 => ?_) (fun c1_27 => ?_)
  · skip
    refine V.iload dX11_tireBy_34 0 rfl ?_
    refine V.iast (vw2 := [(o, ob 10 [.ref mw, .ref mk, .ref mt, .ref mr, .ref mki, .ref mso, .ref mst, .ref mpr, .ref msh, .ref mwa, .ref mpu, .ref mtx, .int ts, .int ma, .int bg, .int wr, .int cl, .int um, .ref mor, .ref mbo, .int mn, .ref tO, .ref tVi, .ref tSm, .int tm]), (mw, aI E 192 (upd (mW ρ) (((16 * i) + 6) + k) ((s.1 k) + x)))]) 1 rfl (vinI (by omega)) (by rw [nI_clamp (by omega)] <;> rfl) dX11_tireBy_36 ?_
    refine V.arrEq (vw2 := [(o, ob 10 [.ref mw, .ref mk, .ref mt, .ref mr, .ref mki, .ref mso, .ref mst, .ref mpr, .ref msh, .ref mwa, .ref mpu, .ref mtx, .int ts, .int ma, .int bg, .int wr, .int cl, .int um, .ref mor, .ref mbo, .int mn, .ref tO, .ref tVi, .ref tSm, .int tm]), (mw, aI E 192 (mW (va_up ρ i (pw, (upd s.1 k (max0 (s.1 k + x)), s.2)))))]) 1 0 rfl (fun j _ => by rw [show (max0 (s.1 k + x)) = _ from if_neg (Int32.not_lt.mpr c1_27)]; exact mW_tiu hk rfl hR j) rfl ?_
    exact V.vret rfl dX11_tireBy_37 (⟨(), rfl, rfl, rfl, trivial⟩)
  · skip
    refine V.iconst (v := 0) dX11_tireBy_30 (by decide) ?_
    refine V.goto (tgt := 36) dX11_tireBy_31 (by decide) ?_
    refine V.iast (vw2 := [(o, ob 10 [.ref mw, .ref mk, .ref mt, .ref mr, .ref mki, .ref mso, .ref mst, .ref mpr, .ref msh, .ref mwa, .ref mpu, .ref mtx, .int ts, .int ma, .int bg, .int wr, .int cl, .int um, .ref mor, .ref mbo, .int mn, .ref tO, .ref tVi, .ref tSm, .int tm]), (mw, aI E 192 (upd (mW ρ) (((16 * i) + 6) + k) 0))]) 1 rfl (vinI (by omega)) (by rw [nI_clamp (by omega)] <;> rfl) dX11_tireBy_36 ?_
    refine V.arrEq (vw2 := [(o, ob 10 [.ref mw, .ref mk, .ref mt, .ref mr, .ref mki, .ref mso, .ref mst, .ref mpr, .ref msh, .ref mwa, .ref mpu, .ref mtx, .int ts, .int ma, .int bg, .int wr, .int cl, .int um, .ref mor, .ref mbo, .int mn, .ref tO, .ref tVi, .ref tSm, .int tm]), (mw, aI E 192 (mW (va_up ρ i (pw, (upd s.1 k (max0 (s.1 k + x)), s.2)))))]) 1 0 rfl (fun j _ => by rw [show (max0 (s.1 k + x)) = _ from if_pos (Int32.not_le.mp c1_27)]; exact mW_tiu hk rfl hR j) rfl ?_
    exact V.vret rfl dX11_tireBy_37 (⟨(), rfl, rfl, rfl, trivial⟩)

set_option maxHeartbeats 4000000 in
set_option maxRecDepth 100000 in
theorem c_M_copy (E : vEnv) (l : Launch) (L : List Nat) (h : Nat → va_E) (o : Nat) (mw : Nat) (mk : Nat) (mt : Nat) (mr : Nat) (mki : Nat) (mso : Nat) (mst : Nat) (mpr : Nat) (msh : Nat) (mwa : Nat) (mpu : Nat) (mtx : Nat) (mor : Nat) (mbo : Nat) (tO : Nat) (tVi : Nat) (tSm : Nat) (ts : Int32) (ma : Int32) (bg : Int32) (wr : Int32) (cl : Int32) (um : Int32) (mn : Int32) (tm : Int32) (ρ : Nat → MR) (x : Nat) (y : Nat) (hx : x < 12) (hy : y < 12) (hxy : x ≠ y) : CT E l yX11_copy cX11_copy 4 none 0 0 0 L h [(o, ob 10 [.ref mw, .ref mk, .ref mt, .ref mr, .ref mki, .ref mso, .ref mst, .ref mpr, .ref msh, .ref mwa, .ref mpu, .ref mtx, .int ts, .int ma, .int bg, .int wr, .int cl, .int um, .ref mor, .ref mbo, .int mn, .ref tO, .ref tVi, .ref tSm, .int tm]), (mw, aI E 192 (mW ρ))] [.ref o, .int (nI (16 * x)), .int (nI (16 * y))] (qP L h (fun (_ : Unit) => [(o, ob 10 [.ref mw, .ref mk, .ref mt, .ref mr, .ref mki, .ref mso, .ref mst, .ref mpr, .ref msh, .ref mwa, .ref mpu, .ref mtx, .int ts, .int ma, .int bg, .int wr, .int cl, .int um, .ref mor, .ref mbo, .int mn, .ref tO, .ref tVi, .ref tSm, .int tm]), (mw, aI E 192 (mW (va_up ρ y (ρ x))))]) (fun _ => none) (fun _ => True)) := by
  refine CT.ofV (by decide +kernel) (Nat.le_of_ble_eq_true rfl) ?_
  obtain ⟨Z, hZ⟩ : ∃ Z, Z = mZ E (qP L h (fun (_ : Unit) => [(o, ob 10 [.ref mw, .ref mk, .ref mt, .ref mr, .ref mki, .ref mso, .ref mst, .ref mpr, .ref msh, .ref mwa, .ref mpu, .ref mtx, .int ts, .int ma, .int bg, .int wr, .int cl, .int um, .ref mor, .ref mbo, .int mn, .ref tO, .ref tVi, .ref tSm, .int tm]), (mw, aI E 192 (mW (va_up ρ y (ρ x))))]) (fun _ => none) (fun _ => True)) 0 0 := ⟨_, rfl⟩
  rw [← hZ]
  refine V.locals2 (lv2 := [(0, .ref o), (1, .int (nI (16 * x))), (2, .int (nI (16 * y)))]) rfl ?_
  refine V.iconst (v := 0) dX11_copy_0 (by decide) ?_
  refine V.istore_n (lv2 := [(3, .int 0), (0, .ref o), (1, .int (nI (16 * x))), (2, .int (nI (16 * y)))]) dX11_copy_1 rfl (by decide) rfl ?_
  refine V.locals [1, 2, 3, 0] (by rfl) ?_
  have lp_2 : ∀ (fuel : Nat) (k : Nat) (Wf : Nat → Int32) (hk : k ≤ 16) (hA : ∀ q, q < k → Wf (16 * y + q) = cellR (ρ x) q) (hB : ∀ j, (j < 16 * y ∨ 16 * y + k ≤ j) → Wf j = mW ρ j) (hf : 16 < k + fuel), V E l yX11_copy cX11_copy 4 none (rmk 0 0 0) Z L h 0 0 [(o, ob 10 [.ref mw, .ref mk, .ref mt, .ref mr, .ref mki, .ref mso, .ref mst, .ref mpr, .ref msh, .ref mwa, .ref mpu, .ref mtx, .int ts, .int ma, .int bg, .int wr, .int cl, .int um, .ref mor, .ref mbo, .int mn, .ref tO, .ref tVi, .ref tSm, .int tm]), (mw, aI E 192 Wf)] 2 [(0, .ref o), (1, .int (nI (16 * x))), (2, .int (nI (16 * y))), (3, .int (nI k))] [] := by
    intro fuel
    induction fuel with
    | zero =>
      intro k Wf hk hA hB hf
      exfalso; omega
    | succ fuel ih_2 =>
      intro k Wf hk hA hB hf
      refine V.iload_n dX11_copy_2 3 rfl ?_
      refine V.bipush (v := 16) dX11_copy_3 (by decide) ?_
      refine V.icmp_ge (tgt := 30) dX11_copy_5 (by decide) (fun c1_5 => ?_) (fun c1_5 => ?_)
      · skip
        have h16 : k = 16 := by have h9 := (nI_leI (a := 16) (by omega) (by omega)).mp c1_5; omega
        refine V.arrEq (vw2 := [(o, ob 10 [.ref mw, .ref mk, .ref mt, .ref mr, .ref mki, .ref mso, .ref mst, .ref mpr, .ref msh, .ref mwa, .ref mpu, .ref mtx, .int ts, .int ma, .int bg, .int wr, .int cl, .int um, .ref mor, .ref mbo, .int mn, .ref tO, .ref tVi, .ref tSm, .int tm]), (mw, aI E 192 (mW (va_up ρ y (ρ x))))]) 1 0 rfl (fun j hj => by
          by_cases h9 : j / 16 = y
          · have h8 := hA (j % 16) (by omega)
            rw [show 16 * y + j % 16 = j by omega] at h8
            rw [h8, mW, h9, va_up_self]
          · rw [hB j (by omega), mW, mW, va_up_ne _ _ h9]) rfl ?_
        subst hZ
        exact V.vret rfl dX11_copy_30 (⟨(), rfl, rfl, rfl, trivial⟩)
      · skip
        have hlt : k < 16 := Nat.lt_of_not_le (fun hh => c1_5 (nI_le (a := 16) hh (by omega)))
        refine V.aload_n dX11_copy_8 0 rfl ?_
        refine V.getf 0 0 rfl fa_X11_7_10 rfl dX11_copy_9 ?_
        refine V.iload_n dX11_copy_12 2 rfl ?_
        refine V.iload_n dX11_copy_13 3 rfl ?_
        refine V.iadd dX11_copy_14 ?_
        refine V.topc (v := (nI ((16 * y) + k))) (nI_add ((16 * y)) k) ?_
        refine V.aload_n dX11_copy_15 0 rfl ?_
        refine V.getf 0 0 rfl fa_X11_7_10 rfl dX11_copy_16 ?_
        refine V.iload_n dX11_copy_19 1 rfl ?_
        refine V.iload_n dX11_copy_20 3 rfl ?_
        refine V.iadd dX11_copy_21 ?_
        refine V.topc (v := (nI ((16 * x) + k))) (nI_add ((16 * x)) k) ?_
        refine V.iald 1 rfl (vinI (by omega)) dX11_copy_22 ?_
        refine V.topc (v := (Wf (((16 * x) + k)))) (by rw [nI_clamp (by omega)] <;> rfl) ?_
        refine V.topc (v := (cellR (ρ x) k)) (by rw [hB _ (by omega)]; exact mW_at ρ hlt) ?_
        refine V.iast (vw2 := [(o, ob 10 [.ref mw, .ref mk, .ref mt, .ref mr, .ref mki, .ref mso, .ref mst, .ref mpr, .ref msh, .ref mwa, .ref mpu, .ref mtx, .int ts, .int ma, .int bg, .int wr, .int cl, .int um, .ref mor, .ref mbo, .int mn, .ref tO, .ref tVi, .ref tSm, .int tm]), (mw, aI E 192 (upd Wf ((16 * y) + k) (cellR (ρ x) k)))]) 1 rfl (vinI (by omega)) (by rw [nI_clamp (by omega)] <;> rfl) dX11_copy_23 ?_
        refine V.iinc (v := (nI (k + 1))) (lv2 := [(3, .int (nI (k + 1))), (0, .ref o), (1, .int (nI (16 * x))), (2, .int (nI (16 * y)))]) dX11_copy_24 3 rfl (nI_1 _) (by decide) rfl ?_
        refine V.goto (tgt := 2) dX11_copy_27 (by decide) ?_
        refine V.locals [1, 2, 3, 0] (by rfl) ?_
        exact ih_2 (k + 1) _ (by omega) (fun q hq => by
                rcases Nat.lt_succ_iff_lt_or_eq.mp hq with hq2 | rfl
                · rw [pk_un (by omega)]; exact hA q hq2
                · rw [pk_us]) (fun j hj => by rw [pk_un (by omega)]; exact hB j (by omega)) (by omega)
  exact lp_2 (17) 0 (mW ρ) (Nat.zero_le _) (fun q hq => absurd hq (Nat.not_lt_zero _)) (fun _ _ => rfl) (by omega)

set_option maxHeartbeats 4000000 in
set_option maxRecDepth 100000 in
theorem c_M_farTo (E : vEnv) (l : Launch) (L : List Nat) (h : Nat → va_E) (o : Nat) (mw : Nat) (mk : Nat) (mt : Nat) (mr : Nat) (mki : Nat) (mso : Nat) (mst : Nat) (mpr : Nat) (msh : Nat) (mwa : Nat) (mpu : Nat) (mtx : Nat) (mor : Nat) (mbo : Nat) (tO : Nat) (tVi : Nat) (tSm : Nat) (ts : Int32) (ma : Int32) (bg : Int32) (wr : Int32) (cl : Int32) (um : Int32) (mn : Int32) (tm : Int32) (ρ : Nat → MR) (i : Nat) (pw : Nat → Int32) (s : NS) (k : Nat) (p : Nat) (p0 : Nat) (hi : i < 12) (hR : ρ i = (pw, s)) (hk : k < 6) (hp : p < 6) (hp0 : p0 < 6) (ep : pw k = nI p) (ep0 : s.2.1 = nI p0) : CT E l yX11_farTo cX11_farTo 3 (some (.int)) 0 0 0 L h [(o, ob 10 [.ref mw, .ref mk, .ref mt, .ref mr, .ref mki, .ref mso, .ref mst, .ref mpr, .ref msh, .ref mwa, .ref mpu, .ref mtx, .int ts, .int ma, .int bg, .int wr, .int cl, .int um, .ref mor, .ref mbo, .int mn, .ref tO, .ref tVi, .ref tSm, .int tm]), (mw, aI E 192 (mW ρ))] [.ref o, .int (nI (16 * i)), .int (nI k)] (qP L h (fun (_ : Unit) => [(o, ob 10 [.ref mw, .ref mk, .ref mt, .ref mr, .ref mki, .ref mso, .ref mst, .ref mpr, .ref msh, .ref mwa, .ref mpu, .ref mtx, .int ts, .int ma, .int bg, .int wr, .int cl, .int um, .ref mor, .ref mbo, .int mn, .ref tO, .ref tVi, .ref tSm, .int tm]), (mw, aI E 192 (mW ρ))]) (fun _ => some (.int (nI (dN p p0)))) (fun _ => True)) := by
  refine CT.ofV (by decide +kernel) (Nat.le_of_ble_eq_true rfl) ?_
  refine V.locals2 (lv2 := [(0, .ref o), (1, .int (nI (16 * i))), (2, .int (nI k))]) rfl ?_
  refine V.aload_n dX11_farTo_0 0 rfl ?_
  refine V.getf 0 0 rfl fa_X11_7_10 rfl dX11_farTo_1 ?_
  refine V.iload_n dX11_farTo_4 1 rfl ?_
  refine V.iload_n dX11_farTo_5 2 rfl ?_
  refine V.iadd dX11_farTo_6 ?_
  refine V.topc (v := (nI ((16 * i) + k))) (nI_add ((16 * i)) k) ?_
  refine V.iald 1 rfl (vinI (by omega)) dX11_farTo_7 ?_
  refine V.topc (v := ((mW ρ) (((16 * i) + k)))) (by rw [nI_clamp (by omega)] <;> rfl) ?_
  refine V.topc (v := (nI p)) ((mW_pl hR hk).trans ep) ?_
  refine V.aload_n dX11_farTo_8 0 rfl ?_
  refine V.getf 0 0 rfl fa_X11_7_10 rfl dX11_farTo_9 ?_
  refine V.iload_n dX11_farTo_12 1 rfl ?_
  refine V.bipush (v := 10) dX11_farTo_13 (by decide) ?_
  refine V.iadd dX11_farTo_15 ?_
  refine V.topc (v := (nI ((16 * i) + 10))) (nI_add ((16 * i)) 10) ?_
  refine V.iald 1 rfl (vinI (by omega)) dX11_farTo_16 ?_
  refine V.topc (v := ((mW ρ) (((16 * i) + 10)))) (by rw [nI_clamp (by omega)] <;> rfl) ?_
  refine V.topc (v := (nI p0)) ((mW_no hR).trans ep0) ?_
  refine V.icmp_ge (tgt := 41) dX11_farTo_17 (by decide) (fun c1_17 => ?_) (fun c1_17 => ?_)
  · skip
    refine V.aload_n dX11_farTo_41 0 rfl ?_
    refine V.getf 0 0 rfl fa_X11_7_10 rfl dX11_farTo_42 ?_
    refine V.iload_n dX11_farTo_45 1 rfl ?_
    refine V.iload_n dX11_farTo_46 2 rfl ?_
    refine V.iadd dX11_farTo_47 ?_
    refine V.topc (v := (nI ((16 * i) + k))) (nI_add ((16 * i)) k) ?_
    refine V.iald 1 rfl (vinI (by omega)) dX11_farTo_48 ?_
    refine V.topc (v := ((mW ρ) (((16 * i) + k)))) (by rw [nI_clamp (by omega)] <;> rfl) ?_
    refine V.topc (v := (nI p)) ((mW_pl hR hk).trans ep) ?_
    refine V.aload_n dX11_farTo_49 0 rfl ?_
    refine V.getf 0 0 rfl fa_X11_7_10 rfl dX11_farTo_50 ?_
    refine V.iload_n dX11_farTo_53 1 rfl ?_
    refine V.bipush (v := 10) dX11_farTo_54 (by decide) ?_
    refine V.iadd dX11_farTo_56 ?_
    refine V.topc (v := (nI ((16 * i) + 10))) (nI_add ((16 * i)) 10) ?_
    refine V.iald 1 rfl (vinI (by omega)) dX11_farTo_57 ?_
    refine V.topc (v := ((mW ρ) (((16 * i) + 10)))) (by rw [nI_clamp (by omega)] <;> rfl) ?_
    refine V.topc (v := (nI p0)) ((mW_no hR).trans ep0) ?_
    refine V.isub dX11_farTo_58 ?_
    refine V.topc (v := (nI (p - p0))) (nI_subN ((nI_leI (by omega) (by omega)).mp c1_17)) ?_
    exact V.iret rfl dX11_farTo_59 (⟨(), by unfold dN; rw [if_neg (fun h9 => absurd h9 (Nat.not_lt.mpr ((nI_leI (by omega) (by omega)).mp c1_17)))], rfl, rfl, trivial⟩)
  · skip
    refine V.aload_n dX11_farTo_20 0 rfl ?_
    refine V.getf 0 0 rfl fa_X11_7_10 rfl dX11_farTo_21 ?_
    refine V.iload_n dX11_farTo_24 1 rfl ?_
    refine V.bipush (v := 10) dX11_farTo_25 (by decide) ?_
    refine V.iadd dX11_farTo_27 ?_
    refine V.topc (v := (nI ((16 * i) + 10))) (nI_add ((16 * i)) 10) ?_
    refine V.iald 1 rfl (vinI (by omega)) dX11_farTo_28 ?_
    refine V.topc (v := ((mW ρ) (((16 * i) + 10)))) (by rw [nI_clamp (by omega)] <;> rfl) ?_
    refine V.topc (v := (nI p0)) ((mW_no hR).trans ep0) ?_
    refine V.aload_n dX11_farTo_29 0 rfl ?_
    refine V.getf 0 0 rfl fa_X11_7_10 rfl dX11_farTo_30 ?_
    refine V.iload_n dX11_farTo_33 1 rfl ?_
    refine V.iload_n dX11_farTo_34 2 rfl ?_
    refine V.iadd dX11_farTo_35 ?_
    refine V.topc (v := (nI ((16 * i) + k))) (nI_add ((16 * i)) k) ?_
    refine V.iald 1 rfl (vinI (by omega)) dX11_farTo_36 ?_
    refine V.topc (v := ((mW ρ) (((16 * i) + k)))) (by rw [nI_clamp (by omega)] <;> rfl) ?_
    refine V.topc (v := (nI p)) ((mW_pl hR hk).trans ep) ?_
    refine V.isub dX11_farTo_37 ?_
    refine V.topc (v := (nI (p0 - p))) (nI_subN (Nat.le_of_lt (Nat.lt_of_not_le (fun h9 => c1_17 (nI_le h9 (by omega)))))) ?_
    refine V.goto (tgt := 59) dX11_farTo_38 (by decide) ?_
    exact V.iret rfl dX11_farTo_59 (⟨(), by unfold dN; rw [if_pos (Nat.lt_of_not_le (fun h9 => c1_17 (nI_le h9 (by omega))))], rfl, rfl, trivial⟩)

set_option maxHeartbeats 4000000 in
set_option maxRecDepth 100000 in
theorem c_M_smells (E : vEnv) (l : Launch) (L : List Nat) (h : Nat → va_E) (o : Nat) (mw : Nat) (mk : Nat) (mt : Nat) (mr : Nat) (mki : Nat) (mso : Nat) (mst : Nat) (mpr : Nat) (msh : Nat) (mwa : Nat) (mpu : Nat) (mtx : Nat) (mor : Nat) (mbo : Nat) (tO : Nat) (tVi : Nat) (tSm : Nat) (ts : Int32) (ma : Int32) (bg : Int32) (wr : Int32) (cl : Int32) (um : Int32) (mn : Int32) (tm : Int32) (ρ : Nat → MR) (i : Nat) (pw : Nat → Int32) (s : NS) (Ki : Nat → Int32) (So : Nat → Int32) (St : Nat → Int32) (k : Nat) (κ : Nat) (so : Nat) (sg : Int32) (hi : i < 12) (hR : ρ i = (pw, s)) (hk : k < 6) (hκ : κ < 4) (hso : so < 4) (eK : Ki k = kindI κ) (eS : So k = nI so) (eT : St k = sg) : CT E l yX11_smells cX11_smells 4 (some (.int)) 0 0 0 L h [(o, ob 10 [.ref mw, .ref mk, .ref mt, .ref mr, .ref mki, .ref mso, .ref mst, .ref mpr, .ref msh, .ref mwa, .ref mpu, .ref mtx, .int ts, .int ma, .int bg, .int wr, .int cl, .int um, .ref mor, .ref mbo, .int mn, .ref tO, .ref tVi, .ref tSm, .int tm]), (mw, aI E 192 (mW ρ)), (mki, aI E 12 Ki), (mso, aI E 12 So), (mst, aI E 12 St)] [.ref o, .int (nI (16 * i)), .int (nI k)] (qP L h (fun (_ : Unit) => [(o, ob 10 [.ref mw, .ref mk, .ref mt, .ref mr, .ref mki, .ref mso, .ref mst, .ref mpr, .ref msh, .ref mwa, .ref mpu, .ref mtx, .int ts, .int ma, .int bg, .int wr, .int cl, .int um, .ref mor, .ref mbo, .int mn, .ref tO, .ref tVi, .ref tSm, .int tm]), (mw, aI E 192 (mW ρ)), (mki, aI E 12 Ki), (mso, aI E 12 So), (mst, aI E 12 St)]) (fun _ => some (.int (muchN κ so sg s))) (fun _ => True)) := by
  refine CT.ofV (by decide +kernel) (Nat.le_of_ble_eq_true rfl) ?_
  refine V.locals2 (lv2 := [(0, .ref o), (1, .int (nI (16 * i))), (2, .int (nI k))]) rfl ?_
  refine V.aload_n dX11_smells_0 0 rfl ?_
  refine V.getf 0 4 rfl fa_X11_23_10 rfl dX11_smells_1 ?_
  refine V.iload_n dX11_smells_4 2 rfl ?_
  refine V.iald 2 rfl (vinI (by omega)) dX11_smells_5 ?_
  refine V.topc (v := (Ki k)) (by rw [nI_clamp (by omega)] <;> rfl) ?_
  refine V.topc (v := (kindI κ)) (eK) ?_
  refine V.iconst (v := 3) dX11_smells_6 (by decide) ?_
  refine V.icmp_ne (tgt := 12) dX11_smells_7 (by decide) (fun c1_7 => ?_) (fun c1_7 => ?_)
  · skip
    have hk3 : κ ≠ 3 := fun hh => c1_7 (by rw [hh]; rfl)
    refine V.aload_n dX11_smells_12 0 rfl ?_
    refine V.getf 0 6 rfl fa_X11_29_10 rfl dX11_smells_13 ?_
    refine V.iload_n dX11_smells_16 2 rfl ?_
    refine V.iald 4 rfl (vinI (by omega)) dX11_smells_17 ?_
    refine V.topc (v := (St k)) (by rw [nI_clamp (by omega)] <;> rfl) ?_
    refine V.topc (v := sg) (eT) ?_
    refine V.aload_n dX11_smells_18 0 rfl ?_
    refine V.getf 0 0 rfl fa_X11_7_10 rfl dX11_smells_19 ?_
    refine V.iload_n dX11_smells_22 1 rfl ?_
    refine V.bipush (v := 6) dX11_smells_23 (by decide) ?_
    refine V.iadd dX11_smells_25 ?_
    refine V.topc (v := (nI ((16 * i) + 6))) (nI_add ((16 * i)) 6) ?_
    refine V.aload_n dX11_smells_26 0 rfl ?_
    refine V.getf 0 5 rfl fa_X11_26_10 rfl dX11_smells_27 ?_
    refine V.iload_n dX11_smells_30 2 rfl ?_
    refine V.iald 3 rfl (vinI (by omega)) dX11_smells_31 ?_
    refine V.topc (v := (So k)) (by rw [nI_clamp (by omega)] <;> rfl) ?_
    refine V.topc (v := (nI so)) (eS) ?_
    refine V.iadd dX11_smells_32 ?_
    refine V.topc (v := (nI (((16 * i) + 6) + so))) (nI_add (((16 * i) + 6)) so) ?_
    refine V.iald 1 rfl (vinI (by omega)) dX11_smells_33 ?_
    refine V.topc (v := ((mW ρ) ((((16 * i) + 6) + so)))) (by rw [nI_clamp (by omega)] <;> rfl) ?_
    refine V.topc (v := (s.1 so)) (mW_ti hR hso) ?_
    refine V.isub dX11_smells_34 ?_
    refine V.istore_n (lv2 := [(3, .int (sg - (s.1 so))), (0, .ref o), (1, .int (nI (16 * i))), (2, .int (nI k))]) dX11_smells_35 rfl (by decide) rfl ?_
    refine V.iload_n dX11_smells_36 0 rfl ?_
    refine V.if_ge (tgt := 44) dX11_smells_37 (by decide) (fun c2_37 => ?_) (fun c2_37 => ?_)
    · skip
      have hneg : ¬ sg - s.1 so < 0 := Int32.not_lt.mpr c2_37
      refine V.iload_n dX11_smells_44 0 rfl ?_
      refine V.istore_n (lv2 := [(3, .int (sg - (s.1 so))), (0, .ref o), (1, .int (nI (16 * i))), (2, .int (nI k))]) dX11_smells_45 rfl (by decide) rfl ?_
      refine V.aload_n dX11_smells_46 1 rfl ?_
      refine V.getf 0 0 rfl fa_X11_7_10 rfl dX11_smells_47 ?_
      refine V.iload_n dX11_smells_50 2 rfl ?_
      refine V.bipush (v := 14) dX11_smells_51 (by decide) ?_
      refine V.iadd dX11_smells_53 ?_
      refine V.topc (v := (nI ((16 * i) + 14))) (nI_add ((16 * i)) 14) ?_
      refine V.iald 1 rfl (vinI (by omega)) dX11_smells_54 ?_
      refine V.topc (v := ((mW ρ) (((16 * i) + 14)))) (by rw [nI_clamp (by omega)] <;> rfl) ?_
      refine V.topc (v := s.2.2.2.1) (mW_co hR) ?_
      refine V.if_le (tgt := 64) dX11_smells_55 (by decide) (fun c3_55 => ?_) (fun c3_55 => ?_)
      · skip
        have hcold : coldB s.2.2.2.1 = 0 := if_neg (Int32.not_lt.mpr c3_55)
        refine V.iload_n dX11_smells_64 0 rfl ?_
        have hmx : (if 0 < sg - s.1 so then sg - s.1 so else 0) = sg - s.1 so := max0_eq hneg
        exact V.iret rfl dX11_smells_65 (⟨(), by unfold muchN smeltI smeltPl; rw [if_neg hk3, hcold, hmx]; rfl, rfl, rfl, trivial⟩)
      · skip
        have hcold : coldB s.2.2.2.1 = 1 := if_pos (Int32.not_le.mp c3_55)
        refine V.iload_n dX11_smells_58 0 rfl ?_
        refine V.iconst (v := 2) dX11_smells_59 (by decide) ?_
        refine V.idiv dX11_smells_60 (by decide) ?_
        refine V.goto (tgt := 65) dX11_smells_61 (by decide) ?_
        have hmx : (if 0 < sg - s.1 so then sg - s.1 so else 0) = sg - s.1 so := max0_eq hneg
        exact V.iret rfl dX11_smells_65 (⟨(), by unfold muchN smeltI smeltPl; rw [if_neg hk3, hcold, hmx]; rfl, rfl, rfl, trivial⟩)
    · skip
      have hneg : sg - s.1 so < 0 := Int32.not_le.mp c2_37
      refine V.iconst (v := 0) dX11_smells_40 (by decide) ?_
      refine V.goto (tgt := 45) dX11_smells_41 (by decide) ?_
      refine V.istore_n (lv2 := [(3, .int 0), (0, .ref o), (1, .int (nI (16 * i))), (2, .int (nI k))]) dX11_smells_45 rfl (by decide) rfl ?_
      refine V.aload_n dX11_smells_46 1 rfl ?_
      refine V.getf 0 0 rfl fa_X11_7_10 rfl dX11_smells_47 ?_
      refine V.iload_n dX11_smells_50 2 rfl ?_
      refine V.bipush (v := 14) dX11_smells_51 (by decide) ?_
      refine V.iadd dX11_smells_53 ?_
      refine V.topc (v := (nI ((16 * i) + 14))) (nI_add ((16 * i)) 14) ?_
      refine V.iald 1 rfl (vinI (by omega)) dX11_smells_54 ?_
      refine V.topc (v := ((mW ρ) (((16 * i) + 14)))) (by rw [nI_clamp (by omega)] <;> rfl) ?_
      refine V.topc (v := s.2.2.2.1) (mW_co hR) ?_
      refine V.if_le (tgt := 64) dX11_smells_55 (by decide) (fun c4_55 => ?_) (fun c4_55 => ?_)
      · skip
        have hcold : coldB s.2.2.2.1 = 0 := if_neg (Int32.not_lt.mpr c4_55)
        refine V.iload_n dX11_smells_64 0 rfl ?_
        have hmx : (if 0 < sg - s.1 so then sg - s.1 so else 0) = 0 := if_neg (fun h9 => absurd (Int32.lt_trans hneg h9) Int32.lt_irrefl)
        exact V.iret rfl dX11_smells_65 (⟨(), by unfold muchN smeltI smeltPl; rw [if_neg hk3, hcold, hmx]; rfl, rfl, rfl, trivial⟩)
      · skip
        have hcold : coldB s.2.2.2.1 = 1 := if_pos (Int32.not_le.mp c4_55)
        refine V.iload_n dX11_smells_58 0 rfl ?_
        refine V.iconst (v := 2) dX11_smells_59 (by decide) ?_
        refine V.idiv dX11_smells_60 (by decide) ?_
        refine V.goto (tgt := 65) dX11_smells_61 (by decide) ?_
        have hmx : (if 0 < sg - s.1 so then sg - s.1 so else 0) = 0 := if_neg (fun h9 => absurd (Int32.lt_trans hneg h9) Int32.lt_irrefl)
        exact V.iret rfl dX11_smells_65 (⟨(), by unfold muchN smeltI smeltPl; rw [if_neg hk3, hcold, hmx]; rfl, rfl, rfl, trivial⟩)
  · skip
    have hk3 : κ = 3 := Classical.byContradiction (fun hh => absurd c1_7 (by rcases (show κ = 0 ∨ κ = 1 ∨ κ = 2 by omega) with e | e | e <;> rw [e] <;> decide))
    refine V.iconst (v := 3) dX11_smells_10 (by decide) ?_
    exact V.iret rfl dX11_smells_11 (⟨(), by unfold muchN smeltI; rw [if_pos hk3], rfl, rfl, trivial⟩)

set_option maxHeartbeats 4000000 in
set_option maxRecDepth 100000 in
theorem c_M_fresh (E : vEnv) (l : Launch) (L : List Nat) (h : Nat → va_E) (o : Nat) (mw : Nat) (mk : Nat) (mt : Nat) (mr : Nat) (mki : Nat) (mso : Nat) (mst : Nat) (mpr : Nat) (msh : Nat) (mwa : Nat) (mpu : Nat) (mtx : Nat) (mor : Nat) (mbo : Nat) (tO : Nat) (tVi : Nat) (tSm : Nat) (ts : Int32) (ma : Int32) (bg : Int32) (wr : Int32) (cl : Int32) (um : Int32) (mn : Int32) (tm : Int32) (ρ : Nat → MR) (i : Nat) (pw : Nat → Int32) (s : NS) (Pu : Nat → Int32) (pu : Int32) (hi : i < 12) (hR : ρ i = (pw, s)) (ePu : Pu 0 = pu) : CT E l yX11_fresh cX11_fresh 3 none 0 0 0 L h [(o, ob 10 [.ref mw, .ref mk, .ref mt, .ref mr, .ref mki, .ref mso, .ref mst, .ref mpr, .ref msh, .ref mwa, .ref mpu, .ref mtx, .int ts, .int ma, .int bg, .int wr, .int cl, .int um, .ref mor, .ref mbo, .int mn, .ref tO, .ref tVi, .ref tSm, .int tm]), (mw, aI E 192 (mW ρ)), (mpu, aI E 2 Pu)] [.ref o, .int (nI (16 * i))] (qP L h (fun (_ : Unit) => [(o, ob 10 [.ref mw, .ref mk, .ref mt, .ref mr, .ref mki, .ref mso, .ref mst, .ref mpr, .ref msh, .ref mwa, .ref mpu, .ref mtx, .int ts, .int ma, .int bg, .int wr, .int cl, .int um, .ref mor, .ref mbo, .int mn, .ref tO, .ref tVi, .ref tSm, .int tm]), (mw, aI E 192 (mW (va_up ρ i (pw, (freshN pu s))))), (mpu, aI E 2 Pu)]) (fun _ => none) (fun _ => True)) := by
  refine CT.ofV (by decide +kernel) (Nat.le_of_ble_eq_true rfl) ?_
  obtain ⟨Z, hZ⟩ : ∃ Z, Z = mZ E (qP L h (fun (_ : Unit) => [(o, ob 10 [.ref mw, .ref mk, .ref mt, .ref mr, .ref mki, .ref mso, .ref mst, .ref mpr, .ref msh, .ref mwa, .ref mpu, .ref mtx, .int ts, .int ma, .int bg, .int wr, .int cl, .int um, .ref mor, .ref mbo, .int mn, .ref tO, .ref tVi, .ref tSm, .int tm]), (mw, aI E 192 (mW (va_up ρ i (pw, (freshN pu s))))), (mpu, aI E 2 Pu)]) (fun _ => none) (fun _ => True)) 0 0 := ⟨_, rfl⟩
  rw [← hZ]
  refine V.locals2 (lv2 := [(0, .ref o), (1, .int (nI (16 * i)))]) rfl ?_
  refine V.bipush (v := 6) dX11_fresh_0 (by decide) ?_
  refine V.istore_n (lv2 := [(2, .int 6), (0, .ref o), (1, .int (nI (16 * i)))]) dX11_fresh_2 rfl (by decide) rfl ?_
  refine V.locals [1, 2, 0] (by rfl) ?_
  have lp_3 : ∀ (fuel : Nat) (k : Nat) (Wf : Nat → Int32) (hk : k ≤ 16) (hk6 : 6 ≤ k) (hA : ∀ q, 6 ≤ q → q < k → Wf (16 * i + q) = 0) (hB : ∀ j, (j < 16 * i + 6 ∨ 16 * i + k ≤ j) → Wf j = mW ρ j) (hf : 16 < k + fuel), V E l yX11_fresh cX11_fresh 3 none (rmk 0 0 0) Z L h 0 0 [(o, ob 10 [.ref mw, .ref mk, .ref mt, .ref mr, .ref mki, .ref mso, .ref mst, .ref mpr, .ref msh, .ref mwa, .ref mpu, .ref mtx, .int ts, .int ma, .int bg, .int wr, .int cl, .int um, .ref mor, .ref mbo, .int mn, .ref tO, .ref tVi, .ref tSm, .int tm]), (mw, aI E 192 Wf), (mpu, aI E 2 Pu)] 3 [(0, .ref o), (1, .int (nI (16 * i))), (2, .int (nI k))] [] := by
    intro fuel
    induction fuel with
    | zero =>
      intro k Wf hk hk6 hA hB hf
      exfalso; omega
    | succ fuel ih_3 =>
      intro k Wf hk hk6 hA hB hf
      refine V.iload_n dX11_fresh_3 2 rfl ?_
      refine V.bipush (v := 16) dX11_fresh_4 (by decide) ?_
      refine V.icmp_ge (tgt := 24) dX11_fresh_6 (by decide) (fun c1_6 => ?_) (fun c1_6 => ?_)
      · skip
        have h16 : 16 ≤ k := (nI_leI (a := 16) (by omega) (by omega)).mp c1_6
        have hk16 : k = 16 := by omega
        refine V.aload_n dX11_fresh_24 0 rfl ?_
        refine V.getf 0 0 rfl fa_X11_7_10 rfl dX11_fresh_25 ?_
        refine V.iload_n dX11_fresh_28 1 rfl ?_
        refine V.bipush (v := 12) dX11_fresh_29 (by decide) ?_
        refine V.iadd dX11_fresh_31 ?_
        refine V.topc (v := (nI ((16 * i) + 12))) (nI_add ((16 * i)) 12) ?_
        refine V.aload_n dX11_fresh_32 0 rfl ?_
        refine V.getf 0 10 rfl fa_X11_41_10 rfl dX11_fresh_33 ?_
        refine V.iconst (v := 0) dX11_fresh_36 (by decide) ?_
        refine V.iald 2 rfl (vin rfl) dX11_fresh_37 ?_
        refine V.topc (v := (Pu 0)) (rfl) ?_
        refine V.topc (v := pu) (ePu) ?_
        refine V.iast (vw2 := [(o, ob 10 [.ref mw, .ref mk, .ref mt, .ref mr, .ref mki, .ref mso, .ref mst, .ref mpr, .ref msh, .ref mwa, .ref mpu, .ref mtx, .int ts, .int ma, .int bg, .int wr, .int cl, .int um, .ref mor, .ref mbo, .int mn, .ref tO, .ref tVi, .ref tSm, .int tm]), (mw, aI E 192 (upd Wf ((16 * i) + 12) pu)), (mpu, aI E 2 Pu)]) 1 rfl (vinI (by omega)) (by rw [nI_clamp (by omega)] <;> rfl) dX11_fresh_38 ?_
        refine V.arrEq (vw2 := [(o, ob 10 [.ref mw, .ref mk, .ref mt, .ref mr, .ref mki, .ref mso, .ref mst, .ref mpr, .ref msh, .ref mwa, .ref mpu, .ref mtx, .int ts, .int ma, .int bg, .int wr, .int cl, .int um, .ref mor, .ref mbo, .int mn, .ref tO, .ref tVi, .ref tSm, .int tm]), (mw, aI E 192 (mW (va_up ρ i (pw, (freshN pu s))))), (mpu, aI E 2 Pu)]) 1 0 rfl (fun j hj => by
          refine mW_fill ?_ ?_ j
          · intro j9 hj9; rw [pk_un (by omega)]; exact hB j9 (by omega)
          · intro q hq
            by_cases h12 : q = 12
            · rw [h12, pk_us]; rfl
            · rw [pk_un (by omega)]
              by_cases h6 : q < 6
              · rw [hB _ (by omega), mW_pl hR h6, cell_pl h6]
              · rw [hA q (by omega) (by omega)]; rcases q16 hq with rfl | rfl | rfl | rfl | rfl | rfl | rfl | rfl | rfl | rfl | rfl | rfl | rfl | rfl | rfl | rfl <;> first | rfl | exact absurd rfl h12 | exact absurd (by decide) h6) rfl ?_
        subst hZ
        exact V.vret rfl dX11_fresh_39 (⟨(), rfl, rfl, rfl, trivial⟩)
      · skip
        have hlt : k < 16 := Nat.lt_of_not_le (fun hh => c1_6 (nI_le (a := 16) hh (by omega)))
        refine V.aload_n dX11_fresh_9 0 rfl ?_
        refine V.getf 0 0 rfl fa_X11_7_10 rfl dX11_fresh_10 ?_
        refine V.iload_n dX11_fresh_13 1 rfl ?_
        refine V.iload_n dX11_fresh_14 2 rfl ?_
        refine V.iadd dX11_fresh_15 ?_
        refine V.topc (v := (nI ((16 * i) + k))) (nI_add ((16 * i)) k) ?_
        refine V.iconst (v := 0) dX11_fresh_16 (by decide) ?_
        refine V.iast (vw2 := [(o, ob 10 [.ref mw, .ref mk, .ref mt, .ref mr, .ref mki, .ref mso, .ref mst, .ref mpr, .ref msh, .ref mwa, .ref mpu, .ref mtx, .int ts, .int ma, .int bg, .int wr, .int cl, .int um, .ref mor, .ref mbo, .int mn, .ref tO, .ref tVi, .ref tSm, .int tm]), (mw, aI E 192 (upd Wf ((16 * i) + k) 0)), (mpu, aI E 2 Pu)]) 1 rfl (vinI (by omega)) (by rw [nI_clamp (by omega)] <;> rfl) dX11_fresh_17 ?_
        refine V.iinc (v := (nI (k + 1))) (lv2 := [(2, .int (nI (k + 1))), (0, .ref o), (1, .int (nI (16 * i)))]) dX11_fresh_18 2 rfl (nI_1 _) (by decide) rfl ?_
        refine V.goto (tgt := 3) dX11_fresh_21 (by decide) ?_
        refine V.locals [1, 2, 0] (by rfl) ?_
        exact ih_3 (k + 1) _ (by omega) (by omega) (fun q h8 hq => by
                rcases Nat.lt_succ_iff_lt_or_eq.mp hq with hq2 | h9
                · rw [pk_un (by omega)]; exact hA q h8 hq2
                · rw [h9, pk_us]) (fun j hj => by rw [pk_un (by omega)]; exact hB j (by omega)) (by omega)
  exact lp_3 (17) 6 (mW ρ) (by omega) (by omega) (fun q h8 h9 => absurd h9 (by omega)) (fun _ _ => rfl) (by omega)

set_option maxHeartbeats 4000000 in
set_option maxRecDepth 100000 in
theorem c_M_goOn (E : vEnv) (l : Launch) (L : List Nat) (h : Nat → va_E) (o : Nat) (mw : Nat) (mk : Nat) (mt : Nat) (mr : Nat) (mki : Nat) (mso : Nat) (mst : Nat) (mpr : Nat) (msh : Nat) (mwa : Nat) (mpu : Nat) (mtx : Nat) (mor : Nat) (mbo : Nat) (tO : Nat) (tVi : Nat) (tSm : Nat) (ts : Int32) (ma : Int32) (bg : Int32) (wr : Int32) (cl : Int32) (um : Int32) (mn : Int32) (tm : Int32) (ρ : Nat → MR) (i : Nat) (pw : Nat → Int32) (s : NS) (Re : Nat → Int32) (r : Nat → Int32) (n : Nat) (hi : i < 12) (hR : ρ i = (pw, s)) (hgT : gT s) (hgC : gC s.2.2.2.1) (hgR : gR r) (eR : ∀ j, j < 4 → Re j = r j) (hn : n ≤ 50) : CT E l yX11_goOn cX11_goOn 5 none 1 0 0 L h [(o, ob 10 [.ref mw, .ref mk, .ref mt, .ref mr, .ref mki, .ref mso, .ref mst, .ref mpr, .ref msh, .ref mwa, .ref mpu, .ref mtx, .int ts, .int ma, .int bg, .int wr, .int cl, .int um, .ref mor, .ref mbo, .int mn, .ref tO, .ref tVi, .ref tSm, .int tm]), (mw, aI E 192 (mW ρ)), (mr, aI E 8 Re)] [.ref o, .int (nI (16 * i)), .int (nI n)] (qP L h (fun (_ : Unit) => [(o, ob 10 [.ref mw, .ref mk, .ref mt, .ref mr, .ref mki, .ref mso, .ref mst, .ref mpr, .ref msh, .ref mwa, .ref mpu, .ref mtx, .int ts, .int ma, .int bg, .int wr, .int cl, .int um, .ref mor, .ref mbo, .int mn, .ref tO, .ref tVi, .ref tSm, .int tm]), (mw, aI E 192 (mW (va_up ρ i (pw, (stepN r (nI n) s))))), (mr, aI E 8 Re)]) (fun _ => none) (fun _ => True)) := by
  refine CT.ofV (by decide +kernel) (Nat.le_of_ble_eq_true rfl) ?_
  obtain ⟨Z, hZ⟩ : ∃ Z, Z = mZ E (qP L h (fun (_ : Unit) => [(o, ob 10 [.ref mw, .ref mk, .ref mt, .ref mr, .ref mki, .ref mso, .ref mst, .ref mpr, .ref msh, .ref mwa, .ref mpu, .ref mtx, .int ts, .int ma, .int bg, .int wr, .int cl, .int um, .ref mor, .ref mbo, .int mn, .ref tO, .ref tVi, .ref tSm, .int tm]), (mw, aI E 192 (mW (va_up ρ i (pw, (stepN r (nI n) s))))), (mr, aI E 8 Re)]) (fun _ => none) (fun _ => True)) 0 0 := ⟨_, rfl⟩
  rw [← hZ]
  refine V.locals2 (lv2 := [(0, .ref o), (1, .int (nI (16 * i))), (2, .int (nI n))]) rfl ?_
  refine V.iconst (v := 0) dX11_goOn_0 (by decide) ?_
  refine V.istore_n (lv2 := [(3, .int 0), (0, .ref o), (1, .int (nI (16 * i))), (2, .int (nI n))]) dX11_goOn_1 rfl (by decide) rfl ?_
  refine V.arrEq (vw2 := [(o, ob 10 [.ref mw, .ref mk, .ref mt, .ref mr, .ref mki, .ref mso, .ref mst, .ref mpr, .ref msh, .ref mwa, .ref mpu, .ref mtx, .int ts, .int ma, .int bg, .int wr, .int cl, .int um, .ref mor, .ref mbo, .int mn, .ref tO, .ref tVi, .ref tSm, .int tm]), (mw, aI E 192 (mW (va_up ρ i (pw, goK r 0 s)))), (mr, aI E 8 Re)]) 1 0 rfl (fun j _ => mW_row0 hR (goK_row0 hgT hgC hgR) j) rfl ?_
  refine V.locals [1, 2, 3, 0] (by rfl) ?_
  have lp_2 : ∀ (fuel : Nat) (k : Nat) (hkn : k ≤ n) (hf : n < k + fuel), V E l yX11_goOn cX11_goOn 5 none (rmk 1 0 0) Z L h 0 0 [(o, ob 10 [.ref mw, .ref mk, .ref mt, .ref mr, .ref mki, .ref mso, .ref mst, .ref mpr, .ref msh, .ref mwa, .ref mpu, .ref mtx, .int ts, .int ma, .int bg, .int wr, .int cl, .int um, .ref mor, .ref mbo, .int mn, .ref tO, .ref tVi, .ref tSm, .int tm]), (mw, aI E 192 (mW (va_up ρ i (pw, goK r k s)))), (mr, aI E 8 Re)] 2 [(0, .ref o), (1, .int (nI (16 * i))), (2, .int (nI n)), (3, .int (nI k))] [] := by
    intro fuel
    induction fuel with
    | zero =>
      intro k hkn hf
      exfalso; omega
    | succ fuel ih_2 =>
      intro k hkn hf
      refine V.iload_n dX11_goOn_2 3 rfl ?_
      refine V.iload_n dX11_goOn_3 2 rfl ?_
      refine V.icmp_ge (tgt := 75) dX11_goOn_4 (by decide) (fun c1_4 => ?_) (fun c1_4 => ?_)
      · skip
        have hxc1_4 : n ≤ k := (nI_leI (a := n) (by omega) (by omega)).mp c1_4
        have hqc1_4 : k = n := by omega
        refine V.aload_n dX11_goOn_75 0 rfl ?_
        refine V.getf 0 0 rfl fa_X11_7_10 rfl dX11_goOn_76 ?_
        refine V.iload_n dX11_goOn_79 1 rfl ?_
        refine V.bipush (v := 11) dX11_goOn_80 (by decide) ?_
        refine V.iadd dX11_goOn_82 ?_
        refine V.topc (v := (nI ((16 * i) + 11))) (nI_add ((16 * i)) 11) ?_
        refine V.dup2 dX11_goOn_83 rfl rfl ?_
        refine V.iald 1 rfl (vinI (by omega)) dX11_goOn_84 ?_
        refine V.topc (v := ((mW (va_up ρ i (pw, goK r k s))) (((16 * i) + 11)))) (by rw [nI_clamp (by omega)] <;> rfl) ?_
        refine V.topc (v := s.2.2.1) ((mW_upat (k := 11) (by decide)).trans rfl) ?_
        refine V.iload_n dX11_goOn_85 2 rfl ?_
        refine V.iadd dX11_goOn_86 ?_
        refine V.iast (vw2 := [(o, ob 10 [.ref mw, .ref mk, .ref mt, .ref mr, .ref mki, .ref mso, .ref mst, .ref mpr, .ref msh, .ref mwa, .ref mpu, .ref mtx, .int ts, .int ma, .int bg, .int wr, .int cl, .int um, .ref mor, .ref mbo, .int mn, .ref tO, .ref tVi, .ref tSm, .int tm]), (mw, aI E 192 (upd (mW (va_up ρ i (pw, goK r k s))) ((16 * i) + 11) (s.2.2.1 + (nI n)))), (mr, aI E 8 Re)]) 1 rfl (vinI (by omega)) (by rw [nI_clamp (by omega)] <;> rfl) dX11_goOn_87 ?_
        refine V.arrEq (vw2 := [(o, ob 10 [.ref mw, .ref mk, .ref mt, .ref mr, .ref mki, .ref mso, .ref mst, .ref mpr, .ref msh, .ref mwa, .ref mpu, .ref mtx, .int ts, .int ma, .int bg, .int wr, .int cl, .int um, .ref mor, .ref mbo, .int mn, .ref tO, .ref tVi, .ref tSm, .int tm]), (mw, aI E 192 (mW (va_up ρ i (pw, (stepN r (nI n) s))))), (mr, aI E 8 Re)]) 1 0 rfl (fun j _ => by rw [hqc1_4]; exact mW_upr (k := 11) (by decide) (by rfl) goK_row2 j) rfl ?_
        subst hZ
        exact V.vret rfl dX11_goOn_88 (⟨(), rfl, rfl, rfl, trivial⟩)
      · skip
        have hxc1_4 : k < n := Nat.lt_of_not_le (fun hh => c1_4 (nI_le (a := n) hh (by omega)))
        refine V.iconst (v := 0) dX11_goOn_7 (by decide) ?_
        refine V.istore (lv2 := [(4, .int 0), (0, .ref o), (1, .int (nI (16 * i))), (2, .int (nI n)), (3, .int (nI k))]) dX11_goOn_8 (by decide) rfl ?_
        refine V.locals [1, 2, 3, 4, 0] (by rfl) ?_
        have lp_10 : ∀ (fuel : Nat) (q : Nat) (T : Nat → Int32) (hq : q ≤ 4) (hA : ∀ j, j < q → T j = goT r (k + 1) s j) (hB : ∀ j, q ≤ j → j < 4 → T j = goT r k s j) (hf2 : 4 < q + fuel), V E l yX11_goOn cX11_goOn 5 none (rmk 1 0 0) Z L h 0 0 [(o, ob 10 [.ref mw, .ref mk, .ref mt, .ref mr, .ref mki, .ref mso, .ref mst, .ref mpr, .ref msh, .ref mwa, .ref mpu, .ref mtx, .int ts, .int ma, .int bg, .int wr, .int cl, .int um, .ref mor, .ref mbo, .int mn, .ref tO, .ref tVi, .ref tSm, .int tm]), (mw, aI E 192 (mW (va_up ρ i (pw, (T, (goK r k s).2))))), (mr, aI E 8 Re)] 10 [(0, .ref o), (1, .int (nI (16 * i))), (2, .int (nI n)), (3, .int (nI k)), (4, .int (nI q))] [] := by
          intro fuel
          induction fuel with
          | zero =>
            intro q T hq hA hB hf2
            exfalso; omega
          | succ fuel ih_10 =>
            intro q T hq hA hB hf2
            refine V.iload dX11_goOn_10 4 rfl ?_
            refine V.iconst (v := 4) dX11_goOn_12 (by decide) ?_
            refine V.icmp_ge (tgt := 37) dX11_goOn_13 (by decide) (fun c2_13 => ?_) (fun c2_13 => ?_)
            · skip
              have hxc2_13 : 4 ≤ q := (nI_leI (a := 4) (by omega) (by omega)).mp c2_13
              have hqc2_13 : q = 4 := by omega
              refine V.arrEq (vw2 := [(o, ob 10 [.ref mw, .ref mk, .ref mt, .ref mr, .ref mki, .ref mso, .ref mst, .ref mpr, .ref msh, .ref mwa, .ref mpu, .ref mtx, .int ts, .int ma, .int bg, .int wr, .int cl, .int um, .ref mor, .ref mbo, .int mn, .ref tO, .ref tVi, .ref tSm, .int tm]), (mw, aI E 192 (mW (va_up ρ i (pw, (goT r (k + 1) s, (goK r k s).2))))), (mr, aI E 8 Re)]) 1 0 rfl (fun j _ => mW_tir (fun j9 h9 => hA j9 (by omega)) j) rfl ?_
              refine V.aload_n dX11_goOn_37 0 rfl ?_
              refine V.getf 0 0 rfl fa_X11_7_10 rfl dX11_goOn_38 ?_
              refine V.iload_n dX11_goOn_41 1 rfl ?_
              refine V.bipush (v := 14) dX11_goOn_42 (by decide) ?_
              refine V.iadd dX11_goOn_44 ?_
              refine V.topc (v := (nI ((16 * i) + 14))) (nI_add ((16 * i)) 14) ?_
              refine V.dup2 dX11_goOn_45 rfl rfl ?_
              refine V.iald 1 rfl (vinI (by omega)) dX11_goOn_46 ?_
              refine V.topc (v := ((mW (va_up ρ i (pw, (goT r (k + 1) s, (goK r k s).2)))) (((16 * i) + 14)))) (by rw [nI_clamp (by omega)] <;> rfl) ?_
              refine V.topc (v := (goC k s.2.2.2.1)) ((mW_upat (k := 14) (by decide)).trans rfl) ?_
              refine V.aload_n dX11_goOn_47 0 rfl ?_
              refine V.getf 0 0 rfl fa_X11_7_10 rfl dX11_goOn_48 ?_
              refine V.iload_n dX11_goOn_51 1 rfl ?_
              refine V.bipush (v := 14) dX11_goOn_52 (by decide) ?_
              refine V.iadd dX11_goOn_54 ?_
              refine V.topc (v := (nI ((16 * i) + 14))) (nI_add ((16 * i)) 14) ?_
              refine V.iald 1 rfl (vinI (by omega)) dX11_goOn_55 ?_
              refine V.topc (v := ((mW (va_up ρ i (pw, (goT r (k + 1) s, (goK r k s).2)))) (((16 * i) + 14)))) (by rw [nI_clamp (by omega)] <;> rfl) ?_
              refine V.topc (v := (goC k s.2.2.2.1)) ((mW_upat (k := 14) (by decide)).trans rfl) ?_
              refine V.if_le (tgt := 63) dX11_goOn_56 (by decide) (fun c3_56 => ?_) (fun c3_56 => ?_)
              · skip
                refine V.iconst (v := 0) dX11_goOn_63 (by decide) ?_
                refine V.callSp (As := [.int 0]) (rest := [.int (goC k s.2.2.2.1), .int (nI ((16 * i) + 14)), .ref mw]) [] (c_M_one E l L _ 0) rfl (by decide) mi_X11_one w_867 w_868 rfl rfl (Nat.le_of_ble_eq_true rfl) ⟨by decide, by decide⟩ ⟨by decide, by decide⟩ dX11_goOn_64 (vw2 := fun _ => [(o, ob 10 [.ref mw, .ref mk, .ref mt, .ref mr, .ref mki, .ref mso, .ref mst, .ref mpr, .ref msh, .ref mwa, .ref mpu, .ref mtx, .int ts, .int ma, .int bg, .int wr, .int cl, .int um, .ref mor, .ref mbo, .int mn, .ref tO, .ref tVi, .ref tSm, .int tm]), (mw, aI E 192 (mW (va_up ρ i (pw, (goT r (k + 1) s, (goK r k s).2))))), (mr, aI E 8 Re)]) (st2 := fun _ => [.int (if 0 = 0 then 0 else 1), .int (goC k s.2.2.2.1), .int (nI ((16 * i) + 14)), .ref mw]) (fun _ => rfl) (fun _ => rfl) (fun _ => rfl) (fun _ _ => ?_)
                refine V.topc (v := 0) (by decide) ?_
                refine V.isub dX11_goOn_67 ?_
                refine V.topc (v := (goC (k + 1) s.2.2.2.1)) (goC_sz hgC (by omega) c3_56) ?_
                refine V.iast (vw2 := [(o, ob 10 [.ref mw, .ref mk, .ref mt, .ref mr, .ref mki, .ref mso, .ref mst, .ref mpr, .ref msh, .ref mwa, .ref mpu, .ref mtx, .int ts, .int ma, .int bg, .int wr, .int cl, .int um, .ref mor, .ref mbo, .int mn, .ref tO, .ref tVi, .ref tSm, .int tm]), (mw, aI E 192 (upd (mW (va_up ρ i (pw, (goT r (k + 1) s, (goK r k s).2)))) ((16 * i) + 14) (goC (k + 1) s.2.2.2.1))), (mr, aI E 8 Re)]) 1 rfl (vinI (by omega)) (by rw [nI_clamp (by omega)] <;> rfl) dX11_goOn_68 ?_
                refine V.arrEq (vw2 := [(o, ob 10 [.ref mw, .ref mk, .ref mt, .ref mr, .ref mki, .ref mso, .ref mst, .ref mpr, .ref msh, .ref mwa, .ref mpu, .ref mtx, .int ts, .int ma, .int bg, .int wr, .int cl, .int um, .ref mor, .ref mbo, .int mn, .ref tO, .ref tVi, .ref tSm, .int tm]), (mw, aI E 192 (mW (va_up ρ i (pw, goK r (k + 1) s)))), (mr, aI E 8 Re)]) 1 0 rfl (fun j _ => mW_upr (k := 14) (by decide) (by rfl) goK_row1 j) rfl ?_
                refine V.iinc (v := (nI (k + 1))) (lv2 := [(3, .int (nI (k + 1))), (0, .ref o), (1, .int (nI (16 * i))), (2, .int (nI n)), (4, .int (nI q))]) dX11_goOn_69 3 rfl (nI_1 _) (by decide) rfl ?_
                refine V.goto (tgt := 2) dX11_goOn_72 (by decide) ?_
                refine V.locals [1, 2, 3, 0] (by rfl) ?_
                exact ih_2 (k + 1) (by omega) (by omega)
              · skip
                refine V.iconst (v := 1) dX11_goOn_59 (by decide) ?_
                refine V.goto (tgt := 64) dX11_goOn_60 (by decide) ?_
                refine V.callSp (As := [.int 1]) (rest := [.int (goC k s.2.2.2.1), .int (nI ((16 * i) + 14)), .ref mw]) [] (c_M_one E l L _ 1) rfl (by decide) mi_X11_one w_867 w_868 rfl rfl (Nat.le_of_ble_eq_true rfl) ⟨by decide, by decide⟩ ⟨by decide, by decide⟩ dX11_goOn_64 (vw2 := fun _ => [(o, ob 10 [.ref mw, .ref mk, .ref mt, .ref mr, .ref mki, .ref mso, .ref mst, .ref mpr, .ref msh, .ref mwa, .ref mpu, .ref mtx, .int ts, .int ma, .int bg, .int wr, .int cl, .int um, .ref mor, .ref mbo, .int mn, .ref tO, .ref tVi, .ref tSm, .int tm]), (mw, aI E 192 (mW (va_up ρ i (pw, (goT r (k + 1) s, (goK r k s).2))))), (mr, aI E 8 Re)]) (st2 := fun _ => [.int (if 1 = 0 then 0 else 1), .int (goC k s.2.2.2.1), .int (nI ((16 * i) + 14)), .ref mw]) (fun _ => rfl) (fun _ => rfl) (fun _ => rfl) (fun _ _ => ?_)
                refine V.topc (v := 1) (by decide) ?_
                refine V.isub dX11_goOn_67 ?_
                refine V.topc (v := (goC (k + 1) s.2.2.2.1)) (goC_sp hgC (by omega) (Int32.not_le.mp c3_56)) ?_
                refine V.iast (vw2 := [(o, ob 10 [.ref mw, .ref mk, .ref mt, .ref mr, .ref mki, .ref mso, .ref mst, .ref mpr, .ref msh, .ref mwa, .ref mpu, .ref mtx, .int ts, .int ma, .int bg, .int wr, .int cl, .int um, .ref mor, .ref mbo, .int mn, .ref tO, .ref tVi, .ref tSm, .int tm]), (mw, aI E 192 (upd (mW (va_up ρ i (pw, (goT r (k + 1) s, (goK r k s).2)))) ((16 * i) + 14) (goC (k + 1) s.2.2.2.1))), (mr, aI E 8 Re)]) 1 rfl (vinI (by omega)) (by rw [nI_clamp (by omega)] <;> rfl) dX11_goOn_68 ?_
                refine V.arrEq (vw2 := [(o, ob 10 [.ref mw, .ref mk, .ref mt, .ref mr, .ref mki, .ref mso, .ref mst, .ref mpr, .ref msh, .ref mwa, .ref mpu, .ref mtx, .int ts, .int ma, .int bg, .int wr, .int cl, .int um, .ref mor, .ref mbo, .int mn, .ref tO, .ref tVi, .ref tSm, .int tm]), (mw, aI E 192 (mW (va_up ρ i (pw, goK r (k + 1) s)))), (mr, aI E 8 Re)]) 1 0 rfl (fun j _ => mW_upr (k := 14) (by decide) (by rfl) goK_row1 j) rfl ?_
                refine V.iinc (v := (nI (k + 1))) (lv2 := [(3, .int (nI (k + 1))), (0, .ref o), (1, .int (nI (16 * i))), (2, .int (nI n)), (4, .int (nI q))]) dX11_goOn_69 3 rfl (nI_1 _) (by decide) rfl ?_
                refine V.goto (tgt := 2) dX11_goOn_72 (by decide) ?_
                refine V.locals [1, 2, 3, 0] (by rfl) ?_
                exact ih_2 (k + 1) (by omega) (by omega)
            · skip
              have hxc2_13 : q < 4 := Nat.lt_of_not_le (fun hh => c2_13 (nI_le (a := 4) hh (by omega)))
              refine V.aload_n dX11_goOn_16 0 rfl ?_
              refine V.iload_n dX11_goOn_17 1 rfl ?_
              refine V.iload dX11_goOn_18 4 rfl ?_
              refine V.aload_n dX11_goOn_20 0 rfl ?_
              refine V.getf 0 3 rfl fa_X11_20_10 rfl dX11_goOn_21 ?_
              refine V.iload dX11_goOn_24 4 rfl ?_
              refine V.iald 2 rfl (vinI (by omega)) dX11_goOn_26 ?_
              refine V.topc (v := (Re q)) (by rw [nI_clamp (by omega)] <;> rfl) ?_
              refine V.topc (v := (r q)) (eR q (by omega)) ?_
              refine V.ineg dX11_goOn_27 ?_
              refine V.callVp (As := [.int (nI (16 * i)), .int (nI q), .int (-(r q))]) (rest := []) [0, 1] (c_M_tireBy E l L _ o mw mk mt mr mki mso mst mpr msh mwa mpu mtx mor mbo tO tVi tSm ts ma bg wr cl um mn tm ((va_up ρ i (pw, (T, (goK r k s).2)))) i pw ((T, (goK r k s).2)) q ((-(r q))) (hi) (va_up_self _ _ _) (by omega)) rfl (by decide) mi_X11_tireBy 0 rfl rfl w_887 w_889 wp_21 rfl rfl (Nat.le_of_ble_eq_true rfl) ⟨by decide, by decide⟩ ⟨by decide, by decide⟩ dX11_goOn_28 (vw2 := fun _ => [(o, ob 10 [.ref mw, .ref mk, .ref mt, .ref mr, .ref mki, .ref mso, .ref mst, .ref mpr, .ref msh, .ref mwa, .ref mpu, .ref mtx, .int ts, .int ma, .int bg, .int wr, .int cl, .int um, .ref mor, .ref mbo, .int mn, .ref tO, .ref tVi, .ref tSm, .int tm]), (mw, aI E 192 (mW (va_up (va_up ρ i (pw, (T, (goK r k s).2))) i (pw, (upd (T, (goK r k s).2).1 q (max0 ((T, (goK r k s).2).1 q + (-(r q)))), (T, (goK r k s).2).2))))), (mr, aI E 8 Re)]) (st2 := fun _ => []) (fun _ => rfl) (fun _ => rfl) (fun _ => rfl) (fun _ _ => ?_)
              refine V.arrEq (vw2 := [(o, ob 10 [.ref mw, .ref mk, .ref mt, .ref mr, .ref mki, .ref mso, .ref mst, .ref mpr, .ref msh, .ref mwa, .ref mpu, .ref mtx, .int ts, .int ma, .int bg, .int wr, .int cl, .int um, .ref mor, .ref mbo, .int mn, .ref tO, .ref tVi, .ref tSm, .int tm]), (mw, aI E 192 (mW (va_up ρ i (pw, (upd T q (max0 (T q + -(r q))), (goK r k s).2))))), (mr, aI E 8 Re)]) 1 0 rfl (fun j _ => mW_ups j) rfl ?_
              refine V.iinc (v := (nI (q + 1))) (lv2 := [(4, .int (nI (q + 1))), (0, .ref o), (1, .int (nI (16 * i))), (2, .int (nI n)), (3, .int (nI k))]) dX11_goOn_31 4 rfl (nI_1 _) (by decide) rfl ?_
              refine V.goto (tgt := 10) dX11_goOn_34 (by decide) ?_
              refine V.locals [1, 2, 3, 4, 0] (by rfl) ?_
              exact ih_10 (q + 1) (upd T q (max0 (T q + -(r q)))) (by omega) (fun j h9 => by
                  rcases Nat.lt_succ_iff_lt_or_eq.mp h9 with h8 | h8
                  · rw [pk_un (by omega)]; exact hA j h8
                  · rw [h8, pk_us, hB q (Nat.le_refl _) (by omega)]; exact goT_s hgT hgR (by omega) (by omega)) (fun j h8 h9 => by rw [pk_un (by omega)]; exact hB j (by omega) h9) (by omega)
        exact lp_10 (5) 0 (goT r k s) (Nat.zero_le _) (fun j hj => absurd hj (Nat.not_lt_zero _)) (fun _ _ _ => rfl) (by omega)
  exact lp_2 (n + 1) 0 (Nat.zero_le _) (by omega)

set_option maxHeartbeats 4000000 in
set_option maxRecDepth 100000 in
theorem c_M_tireAs_0 (E : vEnv) (l : Launch) (L : List Nat) (h : Nat → va_E) (o : Nat) (mw : Nat) (mk : Nat) (mt : Nat) (mr : Nat) (mki : Nat) (mso : Nat) (mst : Nat) (mpr : Nat) (msh : Nat) (mwa : Nat) (mpu : Nat) (mtx : Nat) (mor : Nat) (mbo : Nat) (tO : Nat) (tVi : Nat) (tSm : Nat) (ts : Int32) (ma : Int32) (bg : Int32) (wr : Int32) (cl : Int32) (um : Int32) (mn : Int32) (tm : Int32) (ρ : Nat → MR) (i : Nat) (pw : Nat → Int32) (s : NS) (Ti : Nat → Int32) (ti : Nat → Int32) (so : Nat) (hi : i < 12) (hR : ρ i = (pw, s)) (hso : so < 4) (hgT : gT s) (hgI : gI ti) (eI : ∀ j, j < 4 → Ti j = ti j) : CT E l yX11_tireAs cX11_tireAs 5 none 1 0 0 L h [(o, ob 10 [.ref mw, .ref mk, .ref mt, .ref mr, .ref mki, .ref mso, .ref mst, .ref mpr, .ref msh, .ref mwa, .ref mpu, .ref mtx, .int ts, .int ma, .int bg, .int wr, .int cl, .int um, .ref mor, .ref mbo, .int mn, .ref tO, .ref tVi, .ref tSm, .int tm]), (mw, aI E 192 (mW ρ)), (mt, aI E 8 Ti)] [.ref o, .int (nI (16 * i)), .int 0, .int (nI so)] (qP L h (fun (_ : Unit) => [(o, ob 10 [.ref mw, .ref mk, .ref mt, .ref mr, .ref mki, .ref mso, .ref mst, .ref mpr, .ref msh, .ref mwa, .ref mpu, .ref mtx, .int ts, .int ma, .int bg, .int wr, .int cl, .int um, .ref mor, .ref mbo, .int mn, .ref tO, .ref tVi, .ref tSm, .int tm]), (mw, aI E 192 (mW (va_up ρ i (pw, (tireN 0 so ti s))))), (mt, aI E 8 Ti)]) (fun _ => none) (fun _ => True)) := by
  refine CT.ofV (by decide +kernel) (Nat.le_of_ble_eq_true rfl) ?_
  obtain ⟨Z, hZ⟩ : ∃ Z, Z = mZ E (qP L h (fun (_ : Unit) => [(o, ob 10 [.ref mw, .ref mk, .ref mt, .ref mr, .ref mki, .ref mso, .ref mst, .ref mpr, .ref msh, .ref mwa, .ref mpu, .ref mtx, .int ts, .int ma, .int bg, .int wr, .int cl, .int um, .ref mor, .ref mbo, .int mn, .ref tO, .ref tVi, .ref tSm, .int tm]), (mw, aI E 192 (mW (va_up ρ i (pw, (tireN 0 so ti s))))), (mt, aI E 8 Ti)]) (fun _ => none) (fun _ => True)) 0 0 := ⟨_, rfl⟩
  rw [← hZ]
  refine V.locals2 (lv2 := [(0, .ref o), (1, .int (nI (16 * i))), (2, .int 0), (3, .int (nI so))]) rfl ?_
  refine V.iload_n dX11_tireAs_0 2 rfl ?_
  refine V.if_eq (tgt := 9) dX11_tireAs_1 (by decide) (fun _ => ?_) (fun hc => absurd (by decide) hc)
  refine V.aload_n dX11_tireAs_9 0 rfl ?_
  refine V.iload_n dX11_tireAs_10 1 rfl ?_
  refine V.iload_n dX11_tireAs_11 3 rfl ?_
  refine V.aload_n dX11_tireAs_12 0 rfl ?_
  refine V.getf 0 2 rfl fa_X11_17_10 rfl dX11_tireAs_13 ?_
  refine V.iload_n dX11_tireAs_16 3 rfl ?_
  refine V.iald 2 rfl (vinI (by omega)) dX11_tireAs_17 ?_
  refine V.topc (v := (Ti so)) (by rw [nI_clamp (by omega)] <;> rfl) ?_
  refine V.topc (v := (ti so)) (eI so hso) ?_
  refine V.callVp (As := [.int (nI (16 * i)), .int (nI so), .int (ti so)]) (rest := []) [0, 1] (c_M_tireBy E l L _ o mw mk mt mr mki mso mst mpr msh mwa mpu mtx mor mbo tO tVi tSm ts ma bg wr cl um mn tm ρ i pw s so ((ti so)) (hi) (hR) (hso)) rfl (by decide) mi_X11_tireBy 0 rfl rfl w_887 w_889 wp_21 rfl rfl (Nat.le_of_ble_eq_true rfl) ⟨by decide, by decide⟩ ⟨by decide, by decide⟩ dX11_tireAs_18 (vw2 := fun _ => [(o, ob 10 [.ref mw, .ref mk, .ref mt, .ref mr, .ref mki, .ref mso, .ref mst, .ref mpr, .ref msh, .ref mwa, .ref mpu, .ref mtx, .int ts, .int ma, .int bg, .int wr, .int cl, .int um, .ref mor, .ref mbo, .int mn, .ref tO, .ref tVi, .ref tSm, .int tm]), (mw, aI E 192 (mW (va_up ρ i (pw, (upd s.1 so (max0 (s.1 so + (ti so))), s.2))))), (mt, aI E 8 Ti)]) (st2 := fun _ => []) (fun _ => rfl) (fun _ => rfl) (fun _ => rfl) (fun _ _ => ?_)
  refine V.aload_n dX11_tireAs_21 0 rfl ?_
  refine V.iload_n dX11_tireAs_22 1 rfl ?_
  refine V.iload_n dX11_tireAs_23 3 rfl ?_
  refine V.iconst (v := 1) dX11_tireAs_24 (by decide) ?_
  refine V.iadd dX11_tireAs_25 ?_
  refine V.topc (v := (nI (so + 1))) (nI_1 so) ?_
  refine V.iconst (v := 4) dX11_tireAs_26 (by decide) ?_
  refine V.irem dX11_tireAs_27 (by decide) ?_
  refine V.topc (v := (nI ((so + 1) % 4))) (pk_rem (d := 4) (by omega) (by omega) (by omega)) ?_
  refine V.aload_n dX11_tireAs_28 0 rfl ?_
  refine V.getf 0 2 rfl fa_X11_17_10 rfl dX11_tireAs_29 ?_
  refine V.iload_n dX11_tireAs_32 3 rfl ?_
  refine V.iald 2 rfl (vinI (by omega)) dX11_tireAs_33 ?_
  refine V.topc (v := (Ti so)) (by rw [nI_clamp (by omega)] <;> rfl) ?_
  refine V.topc (v := (ti so)) (eI so hso) ?_
  refine V.iconst (v := 2) dX11_tireAs_34 (by decide) ?_
  refine V.idiv dX11_tireAs_35 (by decide) ?_
  refine V.callVp (As := [.int (nI (16 * i)), .int (nI ((so + 1) % 4)), .int ((ti so) / 2)]) (rest := []) [0, 1] (c_M_tireBy E l L _ o mw mk mt mr mki mso mst mpr msh mwa mpu mtx mor mbo tO tVi tSm ts ma bg wr cl um mn tm ((va_up ρ i (pw, (upd s.1 so (max0 (s.1 so + (ti so))), s.2)))) i pw ((upd s.1 so (max0 (s.1 so + (ti so))), s.2)) (((so + 1) % 4)) (((ti so) / 2)) (hi) (va_up_self _ _ _) (Nat.mod_lt _ (by decide))) rfl (by decide) mi_X11_tireBy 0 rfl rfl w_887 w_889 wp_21 rfl rfl (Nat.le_of_ble_eq_true rfl) ⟨by decide, by decide⟩ ⟨by decide, by decide⟩ dX11_tireAs_36 (vw2 := fun _ => [(o, ob 10 [.ref mw, .ref mk, .ref mt, .ref mr, .ref mki, .ref mso, .ref mst, .ref mpr, .ref msh, .ref mwa, .ref mpu, .ref mtx, .int ts, .int ma, .int bg, .int wr, .int cl, .int um, .ref mor, .ref mbo, .int mn, .ref tO, .ref tVi, .ref tSm, .int tm]), (mw, aI E 192 (mW (va_up (va_up ρ i (pw, (upd s.1 so (max0 (s.1 so + (ti so))), s.2))) i (pw, (upd (upd s.1 so (max0 (s.1 so + (ti so))), s.2).1 ((so + 1) % 4) (max0 ((upd s.1 so (max0 (s.1 so + (ti so))), s.2).1 ((so + 1) % 4) + ((ti so) / 2))), (upd s.1 so (max0 (s.1 so + (ti so))), s.2).2))))), (mt, aI E 8 Ti)]) (st2 := fun _ => []) (fun _ => rfl) (fun _ => rfl) (fun _ => rfl) (fun _ _ => ?_)
  refine V.arrEq (vw2 := [(o, ob 10 [.ref mw, .ref mk, .ref mt, .ref mr, .ref mki, .ref mso, .ref mst, .ref mpr, .ref msh, .ref mwa, .ref mpu, .ref mtx, .int ts, .int ma, .int bg, .int wr, .int cl, .int um, .ref mor, .ref mbo, .int mn, .ref tO, .ref tVi, .ref tSm, .int tm]), (mw, aI E 192 (mW (va_up ρ i (pw, ((midT so ti s.1), s.2))))), (mt, aI E 8 Ti)]) 1 0 rfl (fun j _ => mW_ups j) rfl ?_
  refine V.iconst (v := 0) dX11_tireAs_39 (by decide) ?_
  refine V.istore (lv2 := [(4, .int 0), (0, .ref o), (1, .int (nI (16 * i))), (2, .int 0), (3, .int (nI so))]) dX11_tireAs_40 (by decide) rfl ?_
  refine V.locals [1, 2, 3, 4, 0] (by rfl) ?_
  have lp_42 : ∀ (fuel : Nat) (q : Nat) (T : Nat → Int32) (hq : q ≤ 4) (hA : ∀ j, j < q → T j = heldI (s.1 j + tiringI 0 (nI so) (nI j) (ti so))) (hB : ∀ j, q ≤ j → j < 4 → T j = (midT so ti s.1) j) (hf2 : 4 < q + fuel), V E l yX11_tireAs cX11_tireAs 5 none (rmk 1 0 0) Z L h 0 0 [(o, ob 10 [.ref mw, .ref mk, .ref mt, .ref mr, .ref mki, .ref mso, .ref mst, .ref mpr, .ref msh, .ref mwa, .ref mpu, .ref mtx, .int ts, .int ma, .int bg, .int wr, .int cl, .int um, .ref mor, .ref mbo, .int mn, .ref tO, .ref tVi, .ref tSm, .int tm]), (mw, aI E 192 (mW (va_up ρ i (pw, (T, s.2))))), (mt, aI E 8 Ti)] 42 [(0, .ref o), (1, .int (nI (16 * i))), (2, .int 0), (3, .int (nI so)), (4, .int (nI q))] [] := by
    intro fuel
    induction fuel with
    | zero =>
      intro q T hq hA hB hf2
      exfalso; omega
    | succ fuel ih_42 =>
      intro q T hq hA hB hf2
      refine V.iload dX11_tireAs_42 4 rfl ?_
      refine V.iconst (v := 4) dX11_tireAs_44 (by decide) ?_
      refine V.icmp_ge (tgt := 127) dX11_tireAs_45 (by decide) (fun c1_45 => ?_) (fun c1_45 => ?_)
      · skip
        have hxc1_45 : 4 ≤ q := (nI_leI (a := 4) (by omega) (by omega)).mp c1_45
        have hqc1_45 : q = 4 := by omega
        refine V.arrEq (vw2 := [(o, ob 10 [.ref mw, .ref mk, .ref mt, .ref mr, .ref mki, .ref mso, .ref mst, .ref mpr, .ref msh, .ref mwa, .ref mpu, .ref mtx, .int ts, .int ma, .int bg, .int wr, .int cl, .int um, .ref mor, .ref mbo, .int mn, .ref tO, .ref tVi, .ref tSm, .int tm]), (mw, aI E 192 (mW (va_up ρ i (pw, (tireN 0 so ti s))))), (mt, aI E 8 Ti)]) 1 0 rfl (fun j _ => mW_tir (fun j9 h9 => hA j9 (by omega)) j) rfl ?_
        subst hZ
        exact V.vret rfl dX11_tireAs_127 (⟨(), rfl, rfl, rfl, trivial⟩)
      · skip
        have hxc1_45 : q < 4 := Nat.lt_of_not_le (fun hh => c1_45 (nI_le (a := 4) hh (by omega)))
        refine V.aload_n dX11_tireAs_48 0 rfl ?_
        refine V.iload_n dX11_tireAs_49 1 rfl ?_
        refine V.iload dX11_tireAs_50 4 rfl ?_
        refine V.iload_n dX11_tireAs_52 2 rfl ?_
        refine V.iconst (v := 1) dX11_tireAs_53 (by decide) ?_
        refine V.icmp_ne (tgt := 61) dX11_tireAs_54 (by decide) (fun _ => ?_) (fun hc => absurd hc (by decide))
        refine V.iload_n dX11_tireAs_61 2 rfl ?_
        refine V.iconst (v := 2) dX11_tireAs_62 (by decide) ?_
        refine V.icmp_ne (tgt := 71) dX11_tireAs_63 (by decide) (fun _ => ?_) (fun hc => absurd hc (by decide))
        refine V.iconst (v := 0) dX11_tireAs_71 (by decide) ?_
        refine V.callVp (As := [.int (nI (16 * i)), .int (nI q), .int 0]) (rest := []) [0, 1] (c_M_tireBy E l L _ o mw mk mt mr mki mso mst mpr msh mwa mpu mtx mor mbo tO tVi tSm ts ma bg wr cl um mn tm ((va_up ρ i (pw, (T, s.2)))) i pw ((T, s.2)) q 0 (hi) (va_up_self _ _ _) (by omega)) rfl (by decide) mi_X11_tireBy 0 rfl rfl w_887 w_889 wp_21 rfl rfl (Nat.le_of_ble_eq_true rfl) ⟨by decide, by decide⟩ ⟨by decide, by decide⟩ dX11_tireAs_72 (vw2 := fun _ => [(o, ob 10 [.ref mw, .ref mk, .ref mt, .ref mr, .ref mki, .ref mso, .ref mst, .ref mpr, .ref msh, .ref mwa, .ref mpu, .ref mtx, .int ts, .int ma, .int bg, .int wr, .int cl, .int um, .ref mor, .ref mbo, .int mn, .ref tO, .ref tVi, .ref tSm, .int tm]), (mw, aI E 192 (mW (va_up (va_up ρ i (pw, (T, s.2))) i (pw, (upd (T, s.2).1 q (max0 ((T, s.2).1 q + 0)), (T, s.2).2))))), (mt, aI E 8 Ti)]) (st2 := fun _ => []) (fun _ => rfl) (fun _ => rfl) (fun _ => rfl) (fun _ _ => ?_)
        refine V.arrEq (vw2 := [(o, ob 10 [.ref mw, .ref mk, .ref mt, .ref mr, .ref mki, .ref mso, .ref mst, .ref mpr, .ref msh, .ref mwa, .ref mpu, .ref mtx, .int ts, .int ma, .int bg, .int wr, .int cl, .int um, .ref mor, .ref mbo, .int mn, .ref tO, .ref tVi, .ref tSm, .int tm]), (mw, aI E 192 (mW (va_up ρ i (pw, (upd T q (max0 (T q + 0)), s.2))))), (mt, aI E 8 Ti)]) 1 0 rfl (fun j _ => mW_ups j) rfl ?_
        refine V.aload_n dX11_tireAs_75 0 rfl ?_
        refine V.getf 0 0 rfl fa_X11_7_10 rfl dX11_tireAs_76 ?_
        refine V.iload_n dX11_tireAs_79 1 rfl ?_
        refine V.bipush (v := 6) dX11_tireAs_80 (by decide) ?_
        refine V.iadd dX11_tireAs_82 ?_
        refine V.topc (v := (nI ((16 * i) + 6))) (nI_add ((16 * i)) 6) ?_
        refine V.iload dX11_tireAs_83 4 rfl ?_
        refine V.iadd dX11_tireAs_85 ?_
        refine V.topc (v := (nI (((16 * i) + 6) + q))) (nI_add (((16 * i) + 6)) q) ?_
        refine V.aload_n dX11_tireAs_86 0 rfl ?_
        refine V.getf 0 0 rfl fa_X11_7_10 rfl dX11_tireAs_87 ?_
        refine V.iload_n dX11_tireAs_90 1 rfl ?_
        refine V.bipush (v := 6) dX11_tireAs_91 (by decide) ?_
        refine V.iadd dX11_tireAs_93 ?_
        refine V.topc (v := (nI ((16 * i) + 6))) (nI_add ((16 * i)) 6) ?_
        refine V.iload dX11_tireAs_94 4 rfl ?_
        refine V.iadd dX11_tireAs_96 ?_
        refine V.topc (v := (nI (((16 * i) + 6) + q))) (nI_add (((16 * i) + 6)) q) ?_
        refine V.iald 1 rfl (vinI (by omega)) dX11_tireAs_97 ?_
        refine V.topc (v := ((mW (va_up ρ i (pw, (upd T q (max0 (T q + 0)), s.2)))) ((((16 * i) + 6) + q)))) (by rw [nI_clamp (by omega)] <;> rfl) ?_
        refine V.topc (v := (max0 (T q + 0))) ((mW_ti (va_up_self _ _ _) (by omega)).trans pk_us) ?_
        refine V.bipush (v := 99) dX11_tireAs_98 (by decide) ?_
        refine V.icmp_le (tgt := 108) dX11_tireAs_100 (by decide) (fun c2_100 => ?_) (fun c2_100 => ?_)
        · skip
          refine V.aload_n dX11_tireAs_108 0 rfl ?_
          refine V.getf 0 0 rfl fa_X11_7_10 rfl dX11_tireAs_109 ?_
          refine V.iload_n dX11_tireAs_112 1 rfl ?_
          refine V.bipush (v := 6) dX11_tireAs_113 (by decide) ?_
          refine V.iadd dX11_tireAs_115 ?_
          refine V.topc (v := (nI ((16 * i) + 6))) (nI_add ((16 * i)) 6) ?_
          refine V.iload dX11_tireAs_116 4 rfl ?_
          refine V.iadd dX11_tireAs_118 ?_
          refine V.topc (v := (nI (((16 * i) + 6) + q))) (nI_add (((16 * i) + 6)) q) ?_
          refine V.iald 1 rfl (vinI (by omega)) dX11_tireAs_119 ?_
          refine V.topc (v := ((mW (va_up ρ i (pw, (upd T q (max0 (T q + 0)), s.2)))) ((((16 * i) + 6) + q)))) (by rw [nI_clamp (by omega)] <;> rfl) ?_
          refine V.topc (v := (max0 (T q + 0))) ((mW_ti (va_up_self _ _ _) (by omega)).trans pk_us) ?_
          refine V.iast (vw2 := [(o, ob 10 [.ref mw, .ref mk, .ref mt, .ref mr, .ref mki, .ref mso, .ref mst, .ref mpr, .ref msh, .ref mwa, .ref mpu, .ref mtx, .int ts, .int ma, .int bg, .int wr, .int cl, .int um, .ref mor, .ref mbo, .int mn, .ref tO, .ref tVi, .ref tSm, .int tm]), (mw, aI E 192 (upd (mW (va_up ρ i (pw, (upd T q (max0 (T q + 0)), s.2)))) (((16 * i) + 6) + q) (max0 (T q + 0)))), (mt, aI E 8 Ti)]) 1 rfl (vinI (by omega)) (by rw [nI_clamp (by omega)] <;> rfl) dX11_tireAs_120 ?_
          refine V.arrEq (vw2 := [(o, ob 10 [.ref mw, .ref mk, .ref mt, .ref mr, .ref mki, .ref mso, .ref mst, .ref mpr, .ref msh, .ref mwa, .ref mpu, .ref mtx, .int ts, .int ma, .int bg, .int wr, .int cl, .int um, .ref mor, .ref mbo, .int mn, .ref tO, .ref tVi, .ref tSm, .int tm]), (mw, aI E 192 (mW (va_up ρ i (pw, (upd T q (max0 (T q + 0)), s.2))))), (mt, aI E 8 Ti)]) 1 0 rfl (fun j _ => mW_tiu2 (by omega) j) rfl ?_
          refine V.iinc (v := (nI (q + 1))) (lv2 := [(4, .int (nI (q + 1))), (0, .ref o), (1, .int (nI (16 * i))), (2, .int 0), (3, .int (nI so))]) dX11_tireAs_121 4 rfl (nI_1 _) (by decide) rfl ?_
          refine V.goto (tgt := 42) dX11_tireAs_124 (by decide) ?_
          refine V.locals [1, 2, 3, 4, 0] (by rfl) ?_
          exact ih_42 (q + 1) (upd T q (max0 (T q + 0))) (by omega) (fun j h9 => by
                  rcases Nat.lt_succ_iff_lt_or_eq.mp h9 with h8 | h8
                  · rw [pk_un (by omega)]; exact hA j h8
                  · have h7 : T q + 0 = s.1 q + tiringI 0 (nI so) (nI q) (ti so) := by
                      rw [hB q (Nat.le_refl _) (by omega)]
                      exact (by rw [midT_eq hgT hgI hso (by omega)]; exact Int32.add_zero _)
                    rw [h8, pk_us, ← h7, held_cap, if_neg (Int32.not_lt.mpr c2_100)]) (fun j h8 h9 => by rw [pk_un (by omega)]; exact hB j (by omega) h9) (by omega)
        · skip
          refine V.bipush (v := 99) dX11_tireAs_103 (by decide) ?_
          refine V.goto (tgt := 120) dX11_tireAs_105 (by decide) ?_
          refine V.iast (vw2 := [(o, ob 10 [.ref mw, .ref mk, .ref mt, .ref mr, .ref mki, .ref mso, .ref mst, .ref mpr, .ref msh, .ref mwa, .ref mpu, .ref mtx, .int ts, .int ma, .int bg, .int wr, .int cl, .int um, .ref mor, .ref mbo, .int mn, .ref tO, .ref tVi, .ref tSm, .int tm]), (mw, aI E 192 (upd (mW (va_up ρ i (pw, (upd T q (max0 (T q + 0)), s.2)))) (((16 * i) + 6) + q) 99)), (mt, aI E 8 Ti)]) 1 rfl (vinI (by omega)) (by rw [nI_clamp (by omega)] <;> rfl) dX11_tireAs_120 ?_
          refine V.arrEq (vw2 := [(o, ob 10 [.ref mw, .ref mk, .ref mt, .ref mr, .ref mki, .ref mso, .ref mst, .ref mpr, .ref msh, .ref mwa, .ref mpu, .ref mtx, .int ts, .int ma, .int bg, .int wr, .int cl, .int um, .ref mor, .ref mbo, .int mn, .ref tO, .ref tVi, .ref tSm, .int tm]), (mw, aI E 192 (mW (va_up ρ i (pw, (upd T q 99, s.2))))), (mt, aI E 8 Ti)]) 1 0 rfl (fun j _ => mW_tiu2 (by omega) j) rfl ?_
          refine V.iinc (v := (nI (q + 1))) (lv2 := [(4, .int (nI (q + 1))), (0, .ref o), (1, .int (nI (16 * i))), (2, .int 0), (3, .int (nI so))]) dX11_tireAs_121 4 rfl (nI_1 _) (by decide) rfl ?_
          refine V.goto (tgt := 42) dX11_tireAs_124 (by decide) ?_
          refine V.locals [1, 2, 3, 4, 0] (by rfl) ?_
          exact ih_42 (q + 1) (upd T q 99) (by omega) (fun j h9 => by
                  rcases Nat.lt_succ_iff_lt_or_eq.mp h9 with h8 | h8
                  · rw [pk_un (by omega)]; exact hA j h8
                  · have h7 : T q + 0 = s.1 q + tiringI 0 (nI so) (nI q) (ti so) := by
                      rw [hB q (Nat.le_refl _) (by omega)]
                      exact (by rw [midT_eq hgT hgI hso (by omega)]; exact Int32.add_zero _)
                    rw [h8, pk_us, ← h7, held_cap, if_pos (Int32.not_le.mp c2_100)]) (fun j h8 h9 => by rw [pk_un (by omega)]; exact hB j (by omega) h9) (by omega)
  exact lp_42 (5) 0 (midT so ti s.1) (Nat.zero_le _) (fun j hj => absurd hj (Nat.not_lt_zero _)) (fun _ _ _ => rfl) (by omega)

set_option maxHeartbeats 4000000 in
set_option maxRecDepth 100000 in
theorem c_M_tireAs_1 (E : vEnv) (l : Launch) (L : List Nat) (h : Nat → va_E) (o : Nat) (mw : Nat) (mk : Nat) (mt : Nat) (mr : Nat) (mki : Nat) (mso : Nat) (mst : Nat) (mpr : Nat) (msh : Nat) (mwa : Nat) (mpu : Nat) (mtx : Nat) (mor : Nat) (mbo : Nat) (tO : Nat) (tVi : Nat) (tSm : Nat) (ts : Int32) (ma : Int32) (bg : Int32) (wr : Int32) (cl : Int32) (um : Int32) (mn : Int32) (tm : Int32) (ρ : Nat → MR) (i : Nat) (pw : Nat → Int32) (s : NS) (Ti : Nat → Int32) (ti : Nat → Int32) (so : Nat) (hi : i < 12) (hR : ρ i = (pw, s)) (hso : so < 4) (hgT : gT s) (hgI : gI ti) (eI : ∀ j, j < 4 → Ti j = ti j) : CT E l yX11_tireAs cX11_tireAs 5 none 1 0 0 L h [(o, ob 10 [.ref mw, .ref mk, .ref mt, .ref mr, .ref mki, .ref mso, .ref mst, .ref mpr, .ref msh, .ref mwa, .ref mpu, .ref mtx, .int ts, .int ma, .int bg, .int wr, .int cl, .int um, .ref mor, .ref mbo, .int mn, .ref tO, .ref tVi, .ref tSm, .int tm]), (mw, aI E 192 (mW ρ)), (mt, aI E 8 Ti)] [.ref o, .int (nI (16 * i)), .int 1, .int (nI so)] (qP L h (fun (_ : Unit) => [(o, ob 10 [.ref mw, .ref mk, .ref mt, .ref mr, .ref mki, .ref mso, .ref mst, .ref mpr, .ref msh, .ref mwa, .ref mpu, .ref mtx, .int ts, .int ma, .int bg, .int wr, .int cl, .int um, .ref mor, .ref mbo, .int mn, .ref tO, .ref tVi, .ref tSm, .int tm]), (mw, aI E 192 (mW (va_up ρ i (pw, (tireN 1 so ti s))))), (mt, aI E 8 Ti)]) (fun _ => none) (fun _ => True)) := by
  refine CT.ofV (by decide +kernel) (Nat.le_of_ble_eq_true rfl) ?_
  obtain ⟨Z, hZ⟩ : ∃ Z, Z = mZ E (qP L h (fun (_ : Unit) => [(o, ob 10 [.ref mw, .ref mk, .ref mt, .ref mr, .ref mki, .ref mso, .ref mst, .ref mpr, .ref msh, .ref mwa, .ref mpu, .ref mtx, .int ts, .int ma, .int bg, .int wr, .int cl, .int um, .ref mor, .ref mbo, .int mn, .ref tO, .ref tVi, .ref tSm, .int tm]), (mw, aI E 192 (mW (va_up ρ i (pw, (tireN 1 so ti s))))), (mt, aI E 8 Ti)]) (fun _ => none) (fun _ => True)) 0 0 := ⟨_, rfl⟩
  rw [← hZ]
  refine V.locals2 (lv2 := [(0, .ref o), (1, .int (nI (16 * i))), (2, .int 1), (3, .int (nI so))]) rfl ?_
  refine V.iload_n dX11_tireAs_0 2 rfl ?_
  refine V.if_eq (tgt := 9) dX11_tireAs_1 (by decide) (fun hc => absurd hc (by decide)) (fun _ => ?_)
  refine V.iload_n dX11_tireAs_4 2 rfl ?_
  refine V.iconst (v := 1) dX11_tireAs_5 (by decide) ?_
  refine V.icmp_ne (tgt := 39) dX11_tireAs_6 (by decide) (fun hc => absurd (by decide) hc) (fun _ => ?_)
  refine V.aload_n dX11_tireAs_9 0 rfl ?_
  refine V.iload_n dX11_tireAs_10 1 rfl ?_
  refine V.iload_n dX11_tireAs_11 3 rfl ?_
  refine V.aload_n dX11_tireAs_12 0 rfl ?_
  refine V.getf 0 2 rfl fa_X11_17_10 rfl dX11_tireAs_13 ?_
  refine V.iload_n dX11_tireAs_16 3 rfl ?_
  refine V.iald 2 rfl (vinI (by omega)) dX11_tireAs_17 ?_
  refine V.topc (v := (Ti so)) (by rw [nI_clamp (by omega)] <;> rfl) ?_
  refine V.topc (v := (ti so)) (eI so hso) ?_
  refine V.callVp (As := [.int (nI (16 * i)), .int (nI so), .int (ti so)]) (rest := []) [0, 1] (c_M_tireBy E l L _ o mw mk mt mr mki mso mst mpr msh mwa mpu mtx mor mbo tO tVi tSm ts ma bg wr cl um mn tm ρ i pw s so ((ti so)) (hi) (hR) (hso)) rfl (by decide) mi_X11_tireBy 0 rfl rfl w_887 w_889 wp_21 rfl rfl (Nat.le_of_ble_eq_true rfl) ⟨by decide, by decide⟩ ⟨by decide, by decide⟩ dX11_tireAs_18 (vw2 := fun _ => [(o, ob 10 [.ref mw, .ref mk, .ref mt, .ref mr, .ref mki, .ref mso, .ref mst, .ref mpr, .ref msh, .ref mwa, .ref mpu, .ref mtx, .int ts, .int ma, .int bg, .int wr, .int cl, .int um, .ref mor, .ref mbo, .int mn, .ref tO, .ref tVi, .ref tSm, .int tm]), (mw, aI E 192 (mW (va_up ρ i (pw, (upd s.1 so (max0 (s.1 so + (ti so))), s.2))))), (mt, aI E 8 Ti)]) (st2 := fun _ => []) (fun _ => rfl) (fun _ => rfl) (fun _ => rfl) (fun _ _ => ?_)
  refine V.aload_n dX11_tireAs_21 0 rfl ?_
  refine V.iload_n dX11_tireAs_22 1 rfl ?_
  refine V.iload_n dX11_tireAs_23 3 rfl ?_
  refine V.iconst (v := 1) dX11_tireAs_24 (by decide) ?_
  refine V.iadd dX11_tireAs_25 ?_
  refine V.topc (v := (nI (so + 1))) (nI_1 so) ?_
  refine V.iconst (v := 4) dX11_tireAs_26 (by decide) ?_
  refine V.irem dX11_tireAs_27 (by decide) ?_
  refine V.topc (v := (nI ((so + 1) % 4))) (pk_rem (d := 4) (by omega) (by omega) (by omega)) ?_
  refine V.aload_n dX11_tireAs_28 0 rfl ?_
  refine V.getf 0 2 rfl fa_X11_17_10 rfl dX11_tireAs_29 ?_
  refine V.iload_n dX11_tireAs_32 3 rfl ?_
  refine V.iald 2 rfl (vinI (by omega)) dX11_tireAs_33 ?_
  refine V.topc (v := (Ti so)) (by rw [nI_clamp (by omega)] <;> rfl) ?_
  refine V.topc (v := (ti so)) (eI so hso) ?_
  refine V.iconst (v := 2) dX11_tireAs_34 (by decide) ?_
  refine V.idiv dX11_tireAs_35 (by decide) ?_
  refine V.callVp (As := [.int (nI (16 * i)), .int (nI ((so + 1) % 4)), .int ((ti so) / 2)]) (rest := []) [0, 1] (c_M_tireBy E l L _ o mw mk mt mr mki mso mst mpr msh mwa mpu mtx mor mbo tO tVi tSm ts ma bg wr cl um mn tm ((va_up ρ i (pw, (upd s.1 so (max0 (s.1 so + (ti so))), s.2)))) i pw ((upd s.1 so (max0 (s.1 so + (ti so))), s.2)) (((so + 1) % 4)) (((ti so) / 2)) (hi) (va_up_self _ _ _) (Nat.mod_lt _ (by decide))) rfl (by decide) mi_X11_tireBy 0 rfl rfl w_887 w_889 wp_21 rfl rfl (Nat.le_of_ble_eq_true rfl) ⟨by decide, by decide⟩ ⟨by decide, by decide⟩ dX11_tireAs_36 (vw2 := fun _ => [(o, ob 10 [.ref mw, .ref mk, .ref mt, .ref mr, .ref mki, .ref mso, .ref mst, .ref mpr, .ref msh, .ref mwa, .ref mpu, .ref mtx, .int ts, .int ma, .int bg, .int wr, .int cl, .int um, .ref mor, .ref mbo, .int mn, .ref tO, .ref tVi, .ref tSm, .int tm]), (mw, aI E 192 (mW (va_up (va_up ρ i (pw, (upd s.1 so (max0 (s.1 so + (ti so))), s.2))) i (pw, (upd (upd s.1 so (max0 (s.1 so + (ti so))), s.2).1 ((so + 1) % 4) (max0 ((upd s.1 so (max0 (s.1 so + (ti so))), s.2).1 ((so + 1) % 4) + ((ti so) / 2))), (upd s.1 so (max0 (s.1 so + (ti so))), s.2).2))))), (mt, aI E 8 Ti)]) (st2 := fun _ => []) (fun _ => rfl) (fun _ => rfl) (fun _ => rfl) (fun _ _ => ?_)
  refine V.arrEq (vw2 := [(o, ob 10 [.ref mw, .ref mk, .ref mt, .ref mr, .ref mki, .ref mso, .ref mst, .ref mpr, .ref msh, .ref mwa, .ref mpu, .ref mtx, .int ts, .int ma, .int bg, .int wr, .int cl, .int um, .ref mor, .ref mbo, .int mn, .ref tO, .ref tVi, .ref tSm, .int tm]), (mw, aI E 192 (mW (va_up ρ i (pw, ((midT so ti s.1), s.2))))), (mt, aI E 8 Ti)]) 1 0 rfl (fun j _ => mW_ups j) rfl ?_
  refine V.iconst (v := 0) dX11_tireAs_39 (by decide) ?_
  refine V.istore (lv2 := [(4, .int 0), (0, .ref o), (1, .int (nI (16 * i))), (2, .int 1), (3, .int (nI so))]) dX11_tireAs_40 (by decide) rfl ?_
  refine V.locals [1, 2, 3, 4, 0] (by rfl) ?_
  have lp_42 : ∀ (fuel : Nat) (q : Nat) (T : Nat → Int32) (hq : q ≤ 4) (hA : ∀ j, j < q → T j = heldI (s.1 j + tiringI 1 (nI so) (nI j) (ti so))) (hB : ∀ j, q ≤ j → j < 4 → T j = (midT so ti s.1) j) (hf2 : 4 < q + fuel), V E l yX11_tireAs cX11_tireAs 5 none (rmk 1 0 0) Z L h 0 0 [(o, ob 10 [.ref mw, .ref mk, .ref mt, .ref mr, .ref mki, .ref mso, .ref mst, .ref mpr, .ref msh, .ref mwa, .ref mpu, .ref mtx, .int ts, .int ma, .int bg, .int wr, .int cl, .int um, .ref mor, .ref mbo, .int mn, .ref tO, .ref tVi, .ref tSm, .int tm]), (mw, aI E 192 (mW (va_up ρ i (pw, (T, s.2))))), (mt, aI E 8 Ti)] 42 [(0, .ref o), (1, .int (nI (16 * i))), (2, .int 1), (3, .int (nI so)), (4, .int (nI q))] [] := by
    intro fuel
    induction fuel with
    | zero =>
      intro q T hq hA hB hf2
      exfalso; omega
    | succ fuel ih_42 =>
      intro q T hq hA hB hf2
      refine V.iload dX11_tireAs_42 4 rfl ?_
      refine V.iconst (v := 4) dX11_tireAs_44 (by decide) ?_
      refine V.icmp_ge (tgt := 127) dX11_tireAs_45 (by decide) (fun c1_45 => ?_) (fun c1_45 => ?_)
      · skip
        have hxc1_45 : 4 ≤ q := (nI_leI (a := 4) (by omega) (by omega)).mp c1_45
        have hqc1_45 : q = 4 := by omega
        refine V.arrEq (vw2 := [(o, ob 10 [.ref mw, .ref mk, .ref mt, .ref mr, .ref mki, .ref mso, .ref mst, .ref mpr, .ref msh, .ref mwa, .ref mpu, .ref mtx, .int ts, .int ma, .int bg, .int wr, .int cl, .int um, .ref mor, .ref mbo, .int mn, .ref tO, .ref tVi, .ref tSm, .int tm]), (mw, aI E 192 (mW (va_up ρ i (pw, (tireN 1 so ti s))))), (mt, aI E 8 Ti)]) 1 0 rfl (fun j _ => mW_tir (fun j9 h9 => hA j9 (by omega)) j) rfl ?_
        subst hZ
        exact V.vret rfl dX11_tireAs_127 (⟨(), rfl, rfl, rfl, trivial⟩)
      · skip
        have hxc1_45 : q < 4 := Nat.lt_of_not_le (fun hh => c1_45 (nI_le (a := 4) hh (by omega)))
        refine V.aload_n dX11_tireAs_48 0 rfl ?_
        refine V.iload_n dX11_tireAs_49 1 rfl ?_
        refine V.iload dX11_tireAs_50 4 rfl ?_
        refine V.iload_n dX11_tireAs_52 2 rfl ?_
        refine V.iconst (v := 1) dX11_tireAs_53 (by decide) ?_
        refine V.icmp_ne (tgt := 61) dX11_tireAs_54 (by decide) (fun hc => absurd (by decide) hc) (fun _ => ?_)
        refine V.iconst (v := 2) dX11_tireAs_57 (by decide) ?_
        refine V.goto (tgt := 72) dX11_tireAs_58 (by decide) ?_
        refine V.callVp (As := [.int (nI (16 * i)), .int (nI q), .int 2]) (rest := []) [0, 1] (c_M_tireBy E l L _ o mw mk mt mr mki mso mst mpr msh mwa mpu mtx mor mbo tO tVi tSm ts ma bg wr cl um mn tm ((va_up ρ i (pw, (T, s.2)))) i pw ((T, s.2)) q 2 (hi) (va_up_self _ _ _) (by omega)) rfl (by decide) mi_X11_tireBy 0 rfl rfl w_887 w_889 wp_21 rfl rfl (Nat.le_of_ble_eq_true rfl) ⟨by decide, by decide⟩ ⟨by decide, by decide⟩ dX11_tireAs_72 (vw2 := fun _ => [(o, ob 10 [.ref mw, .ref mk, .ref mt, .ref mr, .ref mki, .ref mso, .ref mst, .ref mpr, .ref msh, .ref mwa, .ref mpu, .ref mtx, .int ts, .int ma, .int bg, .int wr, .int cl, .int um, .ref mor, .ref mbo, .int mn, .ref tO, .ref tVi, .ref tSm, .int tm]), (mw, aI E 192 (mW (va_up (va_up ρ i (pw, (T, s.2))) i (pw, (upd (T, s.2).1 q (max0 ((T, s.2).1 q + 2)), (T, s.2).2))))), (mt, aI E 8 Ti)]) (st2 := fun _ => []) (fun _ => rfl) (fun _ => rfl) (fun _ => rfl) (fun _ _ => ?_)
        refine V.arrEq (vw2 := [(o, ob 10 [.ref mw, .ref mk, .ref mt, .ref mr, .ref mki, .ref mso, .ref mst, .ref mpr, .ref msh, .ref mwa, .ref mpu, .ref mtx, .int ts, .int ma, .int bg, .int wr, .int cl, .int um, .ref mor, .ref mbo, .int mn, .ref tO, .ref tVi, .ref tSm, .int tm]), (mw, aI E 192 (mW (va_up ρ i (pw, (upd T q (max0 (T q + 2)), s.2))))), (mt, aI E 8 Ti)]) 1 0 rfl (fun j _ => mW_ups j) rfl ?_
        refine V.aload_n dX11_tireAs_75 0 rfl ?_
        refine V.getf 0 0 rfl fa_X11_7_10 rfl dX11_tireAs_76 ?_
        refine V.iload_n dX11_tireAs_79 1 rfl ?_
        refine V.bipush (v := 6) dX11_tireAs_80 (by decide) ?_
        refine V.iadd dX11_tireAs_82 ?_
        refine V.topc (v := (nI ((16 * i) + 6))) (nI_add ((16 * i)) 6) ?_
        refine V.iload dX11_tireAs_83 4 rfl ?_
        refine V.iadd dX11_tireAs_85 ?_
        refine V.topc (v := (nI (((16 * i) + 6) + q))) (nI_add (((16 * i) + 6)) q) ?_
        refine V.aload_n dX11_tireAs_86 0 rfl ?_
        refine V.getf 0 0 rfl fa_X11_7_10 rfl dX11_tireAs_87 ?_
        refine V.iload_n dX11_tireAs_90 1 rfl ?_
        refine V.bipush (v := 6) dX11_tireAs_91 (by decide) ?_
        refine V.iadd dX11_tireAs_93 ?_
        refine V.topc (v := (nI ((16 * i) + 6))) (nI_add ((16 * i)) 6) ?_
        refine V.iload dX11_tireAs_94 4 rfl ?_
        refine V.iadd dX11_tireAs_96 ?_
        refine V.topc (v := (nI (((16 * i) + 6) + q))) (nI_add (((16 * i) + 6)) q) ?_
        refine V.iald 1 rfl (vinI (by omega)) dX11_tireAs_97 ?_
        refine V.topc (v := ((mW (va_up ρ i (pw, (upd T q (max0 (T q + 2)), s.2)))) ((((16 * i) + 6) + q)))) (by rw [nI_clamp (by omega)] <;> rfl) ?_
        refine V.topc (v := (max0 (T q + 2))) ((mW_ti (va_up_self _ _ _) (by omega)).trans pk_us) ?_
        refine V.bipush (v := 99) dX11_tireAs_98 (by decide) ?_
        refine V.icmp_le (tgt := 108) dX11_tireAs_100 (by decide) (fun c2_100 => ?_) (fun c2_100 => ?_)
        · skip
          refine V.aload_n dX11_tireAs_108 0 rfl ?_
          refine V.getf 0 0 rfl fa_X11_7_10 rfl dX11_tireAs_109 ?_
          refine V.iload_n dX11_tireAs_112 1 rfl ?_
          refine V.bipush (v := 6) dX11_tireAs_113 (by decide) ?_
          refine V.iadd dX11_tireAs_115 ?_
          refine V.topc (v := (nI ((16 * i) + 6))) (nI_add ((16 * i)) 6) ?_
          refine V.iload dX11_tireAs_116 4 rfl ?_
          refine V.iadd dX11_tireAs_118 ?_
          refine V.topc (v := (nI (((16 * i) + 6) + q))) (nI_add (((16 * i) + 6)) q) ?_
          refine V.iald 1 rfl (vinI (by omega)) dX11_tireAs_119 ?_
          refine V.topc (v := ((mW (va_up ρ i (pw, (upd T q (max0 (T q + 2)), s.2)))) ((((16 * i) + 6) + q)))) (by rw [nI_clamp (by omega)] <;> rfl) ?_
          refine V.topc (v := (max0 (T q + 2))) ((mW_ti (va_up_self _ _ _) (by omega)).trans pk_us) ?_
          refine V.iast (vw2 := [(o, ob 10 [.ref mw, .ref mk, .ref mt, .ref mr, .ref mki, .ref mso, .ref mst, .ref mpr, .ref msh, .ref mwa, .ref mpu, .ref mtx, .int ts, .int ma, .int bg, .int wr, .int cl, .int um, .ref mor, .ref mbo, .int mn, .ref tO, .ref tVi, .ref tSm, .int tm]), (mw, aI E 192 (upd (mW (va_up ρ i (pw, (upd T q (max0 (T q + 2)), s.2)))) (((16 * i) + 6) + q) (max0 (T q + 2)))), (mt, aI E 8 Ti)]) 1 rfl (vinI (by omega)) (by rw [nI_clamp (by omega)] <;> rfl) dX11_tireAs_120 ?_
          refine V.arrEq (vw2 := [(o, ob 10 [.ref mw, .ref mk, .ref mt, .ref mr, .ref mki, .ref mso, .ref mst, .ref mpr, .ref msh, .ref mwa, .ref mpu, .ref mtx, .int ts, .int ma, .int bg, .int wr, .int cl, .int um, .ref mor, .ref mbo, .int mn, .ref tO, .ref tVi, .ref tSm, .int tm]), (mw, aI E 192 (mW (va_up ρ i (pw, (upd T q (max0 (T q + 2)), s.2))))), (mt, aI E 8 Ti)]) 1 0 rfl (fun j _ => mW_tiu2 (by omega) j) rfl ?_
          refine V.iinc (v := (nI (q + 1))) (lv2 := [(4, .int (nI (q + 1))), (0, .ref o), (1, .int (nI (16 * i))), (2, .int 1), (3, .int (nI so))]) dX11_tireAs_121 4 rfl (nI_1 _) (by decide) rfl ?_
          refine V.goto (tgt := 42) dX11_tireAs_124 (by decide) ?_
          refine V.locals [1, 2, 3, 4, 0] (by rfl) ?_
          exact ih_42 (q + 1) (upd T q (max0 (T q + 2))) (by omega) (fun j h9 => by
                  rcases Nat.lt_succ_iff_lt_or_eq.mp h9 with h8 | h8
                  · rw [pk_un (by omega)]; exact hA j h8
                  · have h7 : T q + 2 = s.1 q + tiringI 1 (nI so) (nI q) (ti so) := by
                      rw [hB q (Nat.le_refl _) (by omega)]
                      exact (by rw [midT_eq hgT hgI hso (by omega)]; exact Int32.add_assoc _ _ _)
                    rw [h8, pk_us, ← h7, held_cap, if_neg (Int32.not_lt.mpr c2_100)]) (fun j h8 h9 => by rw [pk_un (by omega)]; exact hB j (by omega) h9) (by omega)
        · skip
          refine V.bipush (v := 99) dX11_tireAs_103 (by decide) ?_
          refine V.goto (tgt := 120) dX11_tireAs_105 (by decide) ?_
          refine V.iast (vw2 := [(o, ob 10 [.ref mw, .ref mk, .ref mt, .ref mr, .ref mki, .ref mso, .ref mst, .ref mpr, .ref msh, .ref mwa, .ref mpu, .ref mtx, .int ts, .int ma, .int bg, .int wr, .int cl, .int um, .ref mor, .ref mbo, .int mn, .ref tO, .ref tVi, .ref tSm, .int tm]), (mw, aI E 192 (upd (mW (va_up ρ i (pw, (upd T q (max0 (T q + 2)), s.2)))) (((16 * i) + 6) + q) 99)), (mt, aI E 8 Ti)]) 1 rfl (vinI (by omega)) (by rw [nI_clamp (by omega)] <;> rfl) dX11_tireAs_120 ?_
          refine V.arrEq (vw2 := [(o, ob 10 [.ref mw, .ref mk, .ref mt, .ref mr, .ref mki, .ref mso, .ref mst, .ref mpr, .ref msh, .ref mwa, .ref mpu, .ref mtx, .int ts, .int ma, .int bg, .int wr, .int cl, .int um, .ref mor, .ref mbo, .int mn, .ref tO, .ref tVi, .ref tSm, .int tm]), (mw, aI E 192 (mW (va_up ρ i (pw, (upd T q 99, s.2))))), (mt, aI E 8 Ti)]) 1 0 rfl (fun j _ => mW_tiu2 (by omega) j) rfl ?_
          refine V.iinc (v := (nI (q + 1))) (lv2 := [(4, .int (nI (q + 1))), (0, .ref o), (1, .int (nI (16 * i))), (2, .int 1), (3, .int (nI so))]) dX11_tireAs_121 4 rfl (nI_1 _) (by decide) rfl ?_
          refine V.goto (tgt := 42) dX11_tireAs_124 (by decide) ?_
          refine V.locals [1, 2, 3, 4, 0] (by rfl) ?_
          exact ih_42 (q + 1) (upd T q 99) (by omega) (fun j h9 => by
                  rcases Nat.lt_succ_iff_lt_or_eq.mp h9 with h8 | h8
                  · rw [pk_un (by omega)]; exact hA j h8
                  · have h7 : T q + 2 = s.1 q + tiringI 1 (nI so) (nI q) (ti so) := by
                      rw [hB q (Nat.le_refl _) (by omega)]
                      exact (by rw [midT_eq hgT hgI hso (by omega)]; exact Int32.add_assoc _ _ _)
                    rw [h8, pk_us, ← h7, held_cap, if_pos (Int32.not_le.mp c2_100)]) (fun j h8 h9 => by rw [pk_un (by omega)]; exact hB j (by omega) h9) (by omega)
  exact lp_42 (5) 0 (midT so ti s.1) (Nat.zero_le _) (fun j hj => absurd hj (Nat.not_lt_zero _)) (fun _ _ _ => rfl) (by omega)

set_option maxHeartbeats 4000000 in
set_option maxRecDepth 100000 in
theorem c_M_tireAs_2 (E : vEnv) (l : Launch) (L : List Nat) (h : Nat → va_E) (o : Nat) (mw : Nat) (mk : Nat) (mt : Nat) (mr : Nat) (mki : Nat) (mso : Nat) (mst : Nat) (mpr : Nat) (msh : Nat) (mwa : Nat) (mpu : Nat) (mtx : Nat) (mor : Nat) (mbo : Nat) (tO : Nat) (tVi : Nat) (tSm : Nat) (ts : Int32) (ma : Int32) (bg : Int32) (wr : Int32) (cl : Int32) (um : Int32) (mn : Int32) (tm : Int32) (ρ : Nat → MR) (i : Nat) (pw : Nat → Int32) (s : NS) (Ti : Nat → Int32) (ti : Nat → Int32) (so : Nat) (hi : i < 12) (hR : ρ i = (pw, s)) (hso : so < 4) (hgT : gT s) (hgI : gI ti) (eI : ∀ j, j < 4 → Ti j = ti j) : CT E l yX11_tireAs cX11_tireAs 5 none 1 0 0 L h [(o, ob 10 [.ref mw, .ref mk, .ref mt, .ref mr, .ref mki, .ref mso, .ref mst, .ref mpr, .ref msh, .ref mwa, .ref mpu, .ref mtx, .int ts, .int ma, .int bg, .int wr, .int cl, .int um, .ref mor, .ref mbo, .int mn, .ref tO, .ref tVi, .ref tSm, .int tm]), (mw, aI E 192 (mW ρ)), (mt, aI E 8 Ti)] [.ref o, .int (nI (16 * i)), .int 2, .int (nI so)] (qP L h (fun (_ : Unit) => [(o, ob 10 [.ref mw, .ref mk, .ref mt, .ref mr, .ref mki, .ref mso, .ref mst, .ref mpr, .ref msh, .ref mwa, .ref mpu, .ref mtx, .int ts, .int ma, .int bg, .int wr, .int cl, .int um, .ref mor, .ref mbo, .int mn, .ref tO, .ref tVi, .ref tSm, .int tm]), (mw, aI E 192 (mW (va_up ρ i (pw, (tireN 2 so ti s))))), (mt, aI E 8 Ti)]) (fun _ => none) (fun _ => True)) := by
  refine CT.ofV (by decide +kernel) (Nat.le_of_ble_eq_true rfl) ?_
  obtain ⟨Z, hZ⟩ : ∃ Z, Z = mZ E (qP L h (fun (_ : Unit) => [(o, ob 10 [.ref mw, .ref mk, .ref mt, .ref mr, .ref mki, .ref mso, .ref mst, .ref mpr, .ref msh, .ref mwa, .ref mpu, .ref mtx, .int ts, .int ma, .int bg, .int wr, .int cl, .int um, .ref mor, .ref mbo, .int mn, .ref tO, .ref tVi, .ref tSm, .int tm]), (mw, aI E 192 (mW (va_up ρ i (pw, (tireN 2 so ti s))))), (mt, aI E 8 Ti)]) (fun _ => none) (fun _ => True)) 0 0 := ⟨_, rfl⟩
  rw [← hZ]
  refine V.locals2 (lv2 := [(0, .ref o), (1, .int (nI (16 * i))), (2, .int 2), (3, .int (nI so))]) rfl ?_
  refine V.iload_n dX11_tireAs_0 2 rfl ?_
  refine V.if_eq (tgt := 9) dX11_tireAs_1 (by decide) (fun hc => absurd hc (by decide)) (fun _ => ?_)
  refine V.iload_n dX11_tireAs_4 2 rfl ?_
  refine V.iconst (v := 1) dX11_tireAs_5 (by decide) ?_
  refine V.icmp_ne (tgt := 39) dX11_tireAs_6 (by decide) (fun _ => ?_) (fun hc => absurd hc (by decide))
  refine V.iconst (v := 0) dX11_tireAs_39 (by decide) ?_
  refine V.istore (lv2 := [(4, .int 0), (0, .ref o), (1, .int (nI (16 * i))), (2, .int 2), (3, .int (nI so))]) dX11_tireAs_40 (by decide) rfl ?_
  refine V.arrEq (vw2 := [(o, ob 10 [.ref mw, .ref mk, .ref mt, .ref mr, .ref mki, .ref mso, .ref mst, .ref mpr, .ref msh, .ref mwa, .ref mpu, .ref mtx, .int ts, .int ma, .int bg, .int wr, .int cl, .int um, .ref mor, .ref mbo, .int mn, .ref tO, .ref tVi, .ref tSm, .int tm]), (mw, aI E 192 (mW (va_up ρ i (pw, (s.1, s.2))))), (mt, aI E 8 Ti)]) 1 0 rfl (fun j _ => mW_row0 hR (fun _ _ => rfl) j) rfl ?_
  refine V.locals [1, 2, 3, 4, 0] (by rfl) ?_
  have lp_42 : ∀ (fuel : Nat) (q : Nat) (T : Nat → Int32) (hq : q ≤ 4) (hA : ∀ j, j < q → T j = heldI (s.1 j + tiringI 2 (nI so) (nI j) (ti so))) (hB : ∀ j, q ≤ j → j < 4 → T j = s.1 j) (hf2 : 4 < q + fuel), V E l yX11_tireAs cX11_tireAs 5 none (rmk 1 0 0) Z L h 0 0 [(o, ob 10 [.ref mw, .ref mk, .ref mt, .ref mr, .ref mki, .ref mso, .ref mst, .ref mpr, .ref msh, .ref mwa, .ref mpu, .ref mtx, .int ts, .int ma, .int bg, .int wr, .int cl, .int um, .ref mor, .ref mbo, .int mn, .ref tO, .ref tVi, .ref tSm, .int tm]), (mw, aI E 192 (mW (va_up ρ i (pw, (T, s.2))))), (mt, aI E 8 Ti)] 42 [(0, .ref o), (1, .int (nI (16 * i))), (2, .int 2), (3, .int (nI so)), (4, .int (nI q))] [] := by
    intro fuel
    induction fuel with
    | zero =>
      intro q T hq hA hB hf2
      exfalso; omega
    | succ fuel ih_42 =>
      intro q T hq hA hB hf2
      refine V.iload dX11_tireAs_42 4 rfl ?_
      refine V.iconst (v := 4) dX11_tireAs_44 (by decide) ?_
      refine V.icmp_ge (tgt := 127) dX11_tireAs_45 (by decide) (fun c1_45 => ?_) (fun c1_45 => ?_)
      · skip
        have hxc1_45 : 4 ≤ q := (nI_leI (a := 4) (by omega) (by omega)).mp c1_45
        have hqc1_45 : q = 4 := by omega
        refine V.arrEq (vw2 := [(o, ob 10 [.ref mw, .ref mk, .ref mt, .ref mr, .ref mki, .ref mso, .ref mst, .ref mpr, .ref msh, .ref mwa, .ref mpu, .ref mtx, .int ts, .int ma, .int bg, .int wr, .int cl, .int um, .ref mor, .ref mbo, .int mn, .ref tO, .ref tVi, .ref tSm, .int tm]), (mw, aI E 192 (mW (va_up ρ i (pw, (tireN 2 so ti s))))), (mt, aI E 8 Ti)]) 1 0 rfl (fun j _ => mW_tir (fun j9 h9 => hA j9 (by omega)) j) rfl ?_
        subst hZ
        exact V.vret rfl dX11_tireAs_127 (⟨(), rfl, rfl, rfl, trivial⟩)
      · skip
        have hxc1_45 : q < 4 := Nat.lt_of_not_le (fun hh => c1_45 (nI_le (a := 4) hh (by omega)))
        refine V.aload_n dX11_tireAs_48 0 rfl ?_
        refine V.iload_n dX11_tireAs_49 1 rfl ?_
        refine V.iload dX11_tireAs_50 4 rfl ?_
        refine V.iload_n dX11_tireAs_52 2 rfl ?_
        refine V.iconst (v := 1) dX11_tireAs_53 (by decide) ?_
        refine V.icmp_ne (tgt := 61) dX11_tireAs_54 (by decide) (fun _ => ?_) (fun hc => absurd hc (by decide))
        refine V.iload_n dX11_tireAs_61 2 rfl ?_
        refine V.iconst (v := 2) dX11_tireAs_62 (by decide) ?_
        refine V.icmp_ne (tgt := 71) dX11_tireAs_63 (by decide) (fun hc => absurd (by decide) hc) (fun _ => ?_)
        refine V.bipush (v := (-10)) dX11_tireAs_66 (by decide) ?_
        refine V.goto (tgt := 72) dX11_tireAs_68 (by decide) ?_
        refine V.callVp (As := [.int (nI (16 * i)), .int (nI q), .int (-10)]) (rest := []) [0, 1] (c_M_tireBy E l L _ o mw mk mt mr mki mso mst mpr msh mwa mpu mtx mor mbo tO tVi tSm ts ma bg wr cl um mn tm ((va_up ρ i (pw, (T, s.2)))) i pw ((T, s.2)) q ((-10)) (hi) (va_up_self _ _ _) (by omega)) rfl (by decide) mi_X11_tireBy 0 rfl rfl w_887 w_889 wp_21 rfl rfl (Nat.le_of_ble_eq_true rfl) ⟨by decide, by decide⟩ ⟨by decide, by decide⟩ dX11_tireAs_72 (vw2 := fun _ => [(o, ob 10 [.ref mw, .ref mk, .ref mt, .ref mr, .ref mki, .ref mso, .ref mst, .ref mpr, .ref msh, .ref mwa, .ref mpu, .ref mtx, .int ts, .int ma, .int bg, .int wr, .int cl, .int um, .ref mor, .ref mbo, .int mn, .ref tO, .ref tVi, .ref tSm, .int tm]), (mw, aI E 192 (mW (va_up (va_up ρ i (pw, (T, s.2))) i (pw, (upd (T, s.2).1 q (max0 ((T, s.2).1 q + (-10))), (T, s.2).2))))), (mt, aI E 8 Ti)]) (st2 := fun _ => []) (fun _ => rfl) (fun _ => rfl) (fun _ => rfl) (fun _ _ => ?_)
        refine V.arrEq (vw2 := [(o, ob 10 [.ref mw, .ref mk, .ref mt, .ref mr, .ref mki, .ref mso, .ref mst, .ref mpr, .ref msh, .ref mwa, .ref mpu, .ref mtx, .int ts, .int ma, .int bg, .int wr, .int cl, .int um, .ref mor, .ref mbo, .int mn, .ref tO, .ref tVi, .ref tSm, .int tm]), (mw, aI E 192 (mW (va_up ρ i (pw, (upd T q (max0 (T q + (-10))), s.2))))), (mt, aI E 8 Ti)]) 1 0 rfl (fun j _ => mW_ups j) rfl ?_
        refine V.aload_n dX11_tireAs_75 0 rfl ?_
        refine V.getf 0 0 rfl fa_X11_7_10 rfl dX11_tireAs_76 ?_
        refine V.iload_n dX11_tireAs_79 1 rfl ?_
        refine V.bipush (v := 6) dX11_tireAs_80 (by decide) ?_
        refine V.iadd dX11_tireAs_82 ?_
        refine V.topc (v := (nI ((16 * i) + 6))) (nI_add ((16 * i)) 6) ?_
        refine V.iload dX11_tireAs_83 4 rfl ?_
        refine V.iadd dX11_tireAs_85 ?_
        refine V.topc (v := (nI (((16 * i) + 6) + q))) (nI_add (((16 * i) + 6)) q) ?_
        refine V.aload_n dX11_tireAs_86 0 rfl ?_
        refine V.getf 0 0 rfl fa_X11_7_10 rfl dX11_tireAs_87 ?_
        refine V.iload_n dX11_tireAs_90 1 rfl ?_
        refine V.bipush (v := 6) dX11_tireAs_91 (by decide) ?_
        refine V.iadd dX11_tireAs_93 ?_
        refine V.topc (v := (nI ((16 * i) + 6))) (nI_add ((16 * i)) 6) ?_
        refine V.iload dX11_tireAs_94 4 rfl ?_
        refine V.iadd dX11_tireAs_96 ?_
        refine V.topc (v := (nI (((16 * i) + 6) + q))) (nI_add (((16 * i) + 6)) q) ?_
        refine V.iald 1 rfl (vinI (by omega)) dX11_tireAs_97 ?_
        refine V.topc (v := ((mW (va_up ρ i (pw, (upd T q (max0 (T q + (-10))), s.2)))) ((((16 * i) + 6) + q)))) (by rw [nI_clamp (by omega)] <;> rfl) ?_
        refine V.topc (v := (max0 (T q + (-10)))) ((mW_ti (va_up_self _ _ _) (by omega)).trans pk_us) ?_
        refine V.bipush (v := 99) dX11_tireAs_98 (by decide) ?_
        refine V.icmp_le (tgt := 108) dX11_tireAs_100 (by decide) (fun c2_100 => ?_) (fun c2_100 => ?_)
        · skip
          refine V.aload_n dX11_tireAs_108 0 rfl ?_
          refine V.getf 0 0 rfl fa_X11_7_10 rfl dX11_tireAs_109 ?_
          refine V.iload_n dX11_tireAs_112 1 rfl ?_
          refine V.bipush (v := 6) dX11_tireAs_113 (by decide) ?_
          refine V.iadd dX11_tireAs_115 ?_
          refine V.topc (v := (nI ((16 * i) + 6))) (nI_add ((16 * i)) 6) ?_
          refine V.iload dX11_tireAs_116 4 rfl ?_
          refine V.iadd dX11_tireAs_118 ?_
          refine V.topc (v := (nI (((16 * i) + 6) + q))) (nI_add (((16 * i) + 6)) q) ?_
          refine V.iald 1 rfl (vinI (by omega)) dX11_tireAs_119 ?_
          refine V.topc (v := ((mW (va_up ρ i (pw, (upd T q (max0 (T q + (-10))), s.2)))) ((((16 * i) + 6) + q)))) (by rw [nI_clamp (by omega)] <;> rfl) ?_
          refine V.topc (v := (max0 (T q + (-10)))) ((mW_ti (va_up_self _ _ _) (by omega)).trans pk_us) ?_
          refine V.iast (vw2 := [(o, ob 10 [.ref mw, .ref mk, .ref mt, .ref mr, .ref mki, .ref mso, .ref mst, .ref mpr, .ref msh, .ref mwa, .ref mpu, .ref mtx, .int ts, .int ma, .int bg, .int wr, .int cl, .int um, .ref mor, .ref mbo, .int mn, .ref tO, .ref tVi, .ref tSm, .int tm]), (mw, aI E 192 (upd (mW (va_up ρ i (pw, (upd T q (max0 (T q + (-10))), s.2)))) (((16 * i) + 6) + q) (max0 (T q + (-10))))), (mt, aI E 8 Ti)]) 1 rfl (vinI (by omega)) (by rw [nI_clamp (by omega)] <;> rfl) dX11_tireAs_120 ?_
          refine V.arrEq (vw2 := [(o, ob 10 [.ref mw, .ref mk, .ref mt, .ref mr, .ref mki, .ref mso, .ref mst, .ref mpr, .ref msh, .ref mwa, .ref mpu, .ref mtx, .int ts, .int ma, .int bg, .int wr, .int cl, .int um, .ref mor, .ref mbo, .int mn, .ref tO, .ref tVi, .ref tSm, .int tm]), (mw, aI E 192 (mW (va_up ρ i (pw, (upd T q (max0 (T q + (-10))), s.2))))), (mt, aI E 8 Ti)]) 1 0 rfl (fun j _ => mW_tiu2 (by omega) j) rfl ?_
          refine V.iinc (v := (nI (q + 1))) (lv2 := [(4, .int (nI (q + 1))), (0, .ref o), (1, .int (nI (16 * i))), (2, .int 2), (3, .int (nI so))]) dX11_tireAs_121 4 rfl (nI_1 _) (by decide) rfl ?_
          refine V.goto (tgt := 42) dX11_tireAs_124 (by decide) ?_
          refine V.locals [1, 2, 3, 4, 0] (by rfl) ?_
          exact ih_42 (q + 1) (upd T q (max0 (T q + (-10)))) (by omega) (fun j h9 => by
                  rcases Nat.lt_succ_iff_lt_or_eq.mp h9 with h8 | h8
                  · rw [pk_un (by omega)]; exact hA j h8
                  · have h7 : T q + (-10) = s.1 q + tiringI 2 (nI so) (nI q) (ti so) := by
                      rw [hB q (Nat.le_refl _) (by omega)]
                      exact rfl
                    rw [h8, pk_us, ← h7, held_cap, if_neg (Int32.not_lt.mpr c2_100)]) (fun j h8 h9 => by rw [pk_un (by omega)]; exact hB j (by omega) h9) (by omega)
        · skip
          refine V.bipush (v := 99) dX11_tireAs_103 (by decide) ?_
          refine V.goto (tgt := 120) dX11_tireAs_105 (by decide) ?_
          refine V.iast (vw2 := [(o, ob 10 [.ref mw, .ref mk, .ref mt, .ref mr, .ref mki, .ref mso, .ref mst, .ref mpr, .ref msh, .ref mwa, .ref mpu, .ref mtx, .int ts, .int ma, .int bg, .int wr, .int cl, .int um, .ref mor, .ref mbo, .int mn, .ref tO, .ref tVi, .ref tSm, .int tm]), (mw, aI E 192 (upd (mW (va_up ρ i (pw, (upd T q (max0 (T q + (-10))), s.2)))) (((16 * i) + 6) + q) 99)), (mt, aI E 8 Ti)]) 1 rfl (vinI (by omega)) (by rw [nI_clamp (by omega)] <;> rfl) dX11_tireAs_120 ?_
          refine V.arrEq (vw2 := [(o, ob 10 [.ref mw, .ref mk, .ref mt, .ref mr, .ref mki, .ref mso, .ref mst, .ref mpr, .ref msh, .ref mwa, .ref mpu, .ref mtx, .int ts, .int ma, .int bg, .int wr, .int cl, .int um, .ref mor, .ref mbo, .int mn, .ref tO, .ref tVi, .ref tSm, .int tm]), (mw, aI E 192 (mW (va_up ρ i (pw, (upd T q 99, s.2))))), (mt, aI E 8 Ti)]) 1 0 rfl (fun j _ => mW_tiu2 (by omega) j) rfl ?_
          refine V.iinc (v := (nI (q + 1))) (lv2 := [(4, .int (nI (q + 1))), (0, .ref o), (1, .int (nI (16 * i))), (2, .int 2), (3, .int (nI so))]) dX11_tireAs_121 4 rfl (nI_1 _) (by decide) rfl ?_
          refine V.goto (tgt := 42) dX11_tireAs_124 (by decide) ?_
          refine V.locals [1, 2, 3, 4, 0] (by rfl) ?_
          exact ih_42 (q + 1) (upd T q 99) (by omega) (fun j h9 => by
                  rcases Nat.lt_succ_iff_lt_or_eq.mp h9 with h8 | h8
                  · rw [pk_un (by omega)]; exact hA j h8
                  · have h7 : T q + (-10) = s.1 q + tiringI 2 (nI so) (nI q) (ti so) := by
                      rw [hB q (Nat.le_refl _) (by omega)]
                      exact rfl
                    rw [h8, pk_us, ← h7, held_cap, if_pos (Int32.not_le.mp c2_100)]) (fun j h8 h9 => by rw [pk_un (by omega)]; exact hB j (by omega) h9) (by omega)
  exact lp_42 (5) 0 s.1 (Nat.zero_le _) (fun j hj => absurd hj (Nat.not_lt_zero _)) (fun _ _ _ => rfl) (by omega)

set_option maxHeartbeats 4000000 in
set_option maxRecDepth 100000 in
theorem c_M_tireAs_3 (E : vEnv) (l : Launch) (L : List Nat) (h : Nat → va_E) (o : Nat) (mw : Nat) (mk : Nat) (mt : Nat) (mr : Nat) (mki : Nat) (mso : Nat) (mst : Nat) (mpr : Nat) (msh : Nat) (mwa : Nat) (mpu : Nat) (mtx : Nat) (mor : Nat) (mbo : Nat) (tO : Nat) (tVi : Nat) (tSm : Nat) (ts : Int32) (ma : Int32) (bg : Int32) (wr : Int32) (cl : Int32) (um : Int32) (mn : Int32) (tm : Int32) (ρ : Nat → MR) (i : Nat) (pw : Nat → Int32) (s : NS) (Ti : Nat → Int32) (ti : Nat → Int32) (so : Nat) (hi : i < 12) (hR : ρ i = (pw, s)) (hso : so < 4) (hgT : gT s) (hgI : gI ti) (eI : ∀ j, j < 4 → Ti j = ti j) : CT E l yX11_tireAs cX11_tireAs 5 none 1 0 0 L h [(o, ob 10 [.ref mw, .ref mk, .ref mt, .ref mr, .ref mki, .ref mso, .ref mst, .ref mpr, .ref msh, .ref mwa, .ref mpu, .ref mtx, .int ts, .int ma, .int bg, .int wr, .int cl, .int um, .ref mor, .ref mbo, .int mn, .ref tO, .ref tVi, .ref tSm, .int tm]), (mw, aI E 192 (mW ρ)), (mt, aI E 8 Ti)] [.ref o, .int (nI (16 * i)), .int 3, .int (nI so)] (qP L h (fun (_ : Unit) => [(o, ob 10 [.ref mw, .ref mk, .ref mt, .ref mr, .ref mki, .ref mso, .ref mst, .ref mpr, .ref msh, .ref mwa, .ref mpu, .ref mtx, .int ts, .int ma, .int bg, .int wr, .int cl, .int um, .ref mor, .ref mbo, .int mn, .ref tO, .ref tVi, .ref tSm, .int tm]), (mw, aI E 192 (mW (va_up ρ i (pw, (tireN 3 so ti s))))), (mt, aI E 8 Ti)]) (fun _ => none) (fun _ => True)) := by
  refine CT.ofV (by decide +kernel) (Nat.le_of_ble_eq_true rfl) ?_
  obtain ⟨Z, hZ⟩ : ∃ Z, Z = mZ E (qP L h (fun (_ : Unit) => [(o, ob 10 [.ref mw, .ref mk, .ref mt, .ref mr, .ref mki, .ref mso, .ref mst, .ref mpr, .ref msh, .ref mwa, .ref mpu, .ref mtx, .int ts, .int ma, .int bg, .int wr, .int cl, .int um, .ref mor, .ref mbo, .int mn, .ref tO, .ref tVi, .ref tSm, .int tm]), (mw, aI E 192 (mW (va_up ρ i (pw, (tireN 3 so ti s))))), (mt, aI E 8 Ti)]) (fun _ => none) (fun _ => True)) 0 0 := ⟨_, rfl⟩
  rw [← hZ]
  refine V.locals2 (lv2 := [(0, .ref o), (1, .int (nI (16 * i))), (2, .int 3), (3, .int (nI so))]) rfl ?_
  refine V.iload_n dX11_tireAs_0 2 rfl ?_
  refine V.if_eq (tgt := 9) dX11_tireAs_1 (by decide) (fun hc => absurd hc (by decide)) (fun _ => ?_)
  refine V.iload_n dX11_tireAs_4 2 rfl ?_
  refine V.iconst (v := 1) dX11_tireAs_5 (by decide) ?_
  refine V.icmp_ne (tgt := 39) dX11_tireAs_6 (by decide) (fun _ => ?_) (fun hc => absurd hc (by decide))
  refine V.iconst (v := 0) dX11_tireAs_39 (by decide) ?_
  refine V.istore (lv2 := [(4, .int 0), (0, .ref o), (1, .int (nI (16 * i))), (2, .int 3), (3, .int (nI so))]) dX11_tireAs_40 (by decide) rfl ?_
  refine V.arrEq (vw2 := [(o, ob 10 [.ref mw, .ref mk, .ref mt, .ref mr, .ref mki, .ref mso, .ref mst, .ref mpr, .ref msh, .ref mwa, .ref mpu, .ref mtx, .int ts, .int ma, .int bg, .int wr, .int cl, .int um, .ref mor, .ref mbo, .int mn, .ref tO, .ref tVi, .ref tSm, .int tm]), (mw, aI E 192 (mW (va_up ρ i (pw, (s.1, s.2))))), (mt, aI E 8 Ti)]) 1 0 rfl (fun j _ => mW_row0 hR (fun _ _ => rfl) j) rfl ?_
  refine V.locals [1, 2, 3, 4, 0] (by rfl) ?_
  have lp_42 : ∀ (fuel : Nat) (q : Nat) (T : Nat → Int32) (hq : q ≤ 4) (hA : ∀ j, j < q → T j = heldI (s.1 j + tiringI 3 (nI so) (nI j) (ti so))) (hB : ∀ j, q ≤ j → j < 4 → T j = s.1 j) (hf2 : 4 < q + fuel), V E l yX11_tireAs cX11_tireAs 5 none (rmk 1 0 0) Z L h 0 0 [(o, ob 10 [.ref mw, .ref mk, .ref mt, .ref mr, .ref mki, .ref mso, .ref mst, .ref mpr, .ref msh, .ref mwa, .ref mpu, .ref mtx, .int ts, .int ma, .int bg, .int wr, .int cl, .int um, .ref mor, .ref mbo, .int mn, .ref tO, .ref tVi, .ref tSm, .int tm]), (mw, aI E 192 (mW (va_up ρ i (pw, (T, s.2))))), (mt, aI E 8 Ti)] 42 [(0, .ref o), (1, .int (nI (16 * i))), (2, .int 3), (3, .int (nI so)), (4, .int (nI q))] [] := by
    intro fuel
    induction fuel with
    | zero =>
      intro q T hq hA hB hf2
      exfalso; omega
    | succ fuel ih_42 =>
      intro q T hq hA hB hf2
      refine V.iload dX11_tireAs_42 4 rfl ?_
      refine V.iconst (v := 4) dX11_tireAs_44 (by decide) ?_
      refine V.icmp_ge (tgt := 127) dX11_tireAs_45 (by decide) (fun c1_45 => ?_) (fun c1_45 => ?_)
      · skip
        have hxc1_45 : 4 ≤ q := (nI_leI (a := 4) (by omega) (by omega)).mp c1_45
        have hqc1_45 : q = 4 := by omega
        refine V.arrEq (vw2 := [(o, ob 10 [.ref mw, .ref mk, .ref mt, .ref mr, .ref mki, .ref mso, .ref mst, .ref mpr, .ref msh, .ref mwa, .ref mpu, .ref mtx, .int ts, .int ma, .int bg, .int wr, .int cl, .int um, .ref mor, .ref mbo, .int mn, .ref tO, .ref tVi, .ref tSm, .int tm]), (mw, aI E 192 (mW (va_up ρ i (pw, (tireN 3 so ti s))))), (mt, aI E 8 Ti)]) 1 0 rfl (fun j _ => mW_tir (fun j9 h9 => hA j9 (by omega)) j) rfl ?_
        subst hZ
        exact V.vret rfl dX11_tireAs_127 (⟨(), rfl, rfl, rfl, trivial⟩)
      · skip
        have hxc1_45 : q < 4 := Nat.lt_of_not_le (fun hh => c1_45 (nI_le (a := 4) hh (by omega)))
        refine V.aload_n dX11_tireAs_48 0 rfl ?_
        refine V.iload_n dX11_tireAs_49 1 rfl ?_
        refine V.iload dX11_tireAs_50 4 rfl ?_
        refine V.iload_n dX11_tireAs_52 2 rfl ?_
        refine V.iconst (v := 1) dX11_tireAs_53 (by decide) ?_
        refine V.icmp_ne (tgt := 61) dX11_tireAs_54 (by decide) (fun _ => ?_) (fun hc => absurd hc (by decide))
        refine V.iload_n dX11_tireAs_61 2 rfl ?_
        refine V.iconst (v := 2) dX11_tireAs_62 (by decide) ?_
        refine V.icmp_ne (tgt := 71) dX11_tireAs_63 (by decide) (fun _ => ?_) (fun hc => absurd hc (by decide))
        refine V.iconst (v := 0) dX11_tireAs_71 (by decide) ?_
        refine V.callVp (As := [.int (nI (16 * i)), .int (nI q), .int 0]) (rest := []) [0, 1] (c_M_tireBy E l L _ o mw mk mt mr mki mso mst mpr msh mwa mpu mtx mor mbo tO tVi tSm ts ma bg wr cl um mn tm ((va_up ρ i (pw, (T, s.2)))) i pw ((T, s.2)) q 0 (hi) (va_up_self _ _ _) (by omega)) rfl (by decide) mi_X11_tireBy 0 rfl rfl w_887 w_889 wp_21 rfl rfl (Nat.le_of_ble_eq_true rfl) ⟨by decide, by decide⟩ ⟨by decide, by decide⟩ dX11_tireAs_72 (vw2 := fun _ => [(o, ob 10 [.ref mw, .ref mk, .ref mt, .ref mr, .ref mki, .ref mso, .ref mst, .ref mpr, .ref msh, .ref mwa, .ref mpu, .ref mtx, .int ts, .int ma, .int bg, .int wr, .int cl, .int um, .ref mor, .ref mbo, .int mn, .ref tO, .ref tVi, .ref tSm, .int tm]), (mw, aI E 192 (mW (va_up (va_up ρ i (pw, (T, s.2))) i (pw, (upd (T, s.2).1 q (max0 ((T, s.2).1 q + 0)), (T, s.2).2))))), (mt, aI E 8 Ti)]) (st2 := fun _ => []) (fun _ => rfl) (fun _ => rfl) (fun _ => rfl) (fun _ _ => ?_)
        refine V.arrEq (vw2 := [(o, ob 10 [.ref mw, .ref mk, .ref mt, .ref mr, .ref mki, .ref mso, .ref mst, .ref mpr, .ref msh, .ref mwa, .ref mpu, .ref mtx, .int ts, .int ma, .int bg, .int wr, .int cl, .int um, .ref mor, .ref mbo, .int mn, .ref tO, .ref tVi, .ref tSm, .int tm]), (mw, aI E 192 (mW (va_up ρ i (pw, (upd T q (max0 (T q + 0)), s.2))))), (mt, aI E 8 Ti)]) 1 0 rfl (fun j _ => mW_ups j) rfl ?_
        refine V.aload_n dX11_tireAs_75 0 rfl ?_
        refine V.getf 0 0 rfl fa_X11_7_10 rfl dX11_tireAs_76 ?_
        refine V.iload_n dX11_tireAs_79 1 rfl ?_
        refine V.bipush (v := 6) dX11_tireAs_80 (by decide) ?_
        refine V.iadd dX11_tireAs_82 ?_
        refine V.topc (v := (nI ((16 * i) + 6))) (nI_add ((16 * i)) 6) ?_
        refine V.iload dX11_tireAs_83 4 rfl ?_
        refine V.iadd dX11_tireAs_85 ?_
        refine V.topc (v := (nI (((16 * i) + 6) + q))) (nI_add (((16 * i) + 6)) q) ?_
        refine V.aload_n dX11_tireAs_86 0 rfl ?_
        refine V.getf 0 0 rfl fa_X11_7_10 rfl dX11_tireAs_87 ?_
        refine V.iload_n dX11_tireAs_90 1 rfl ?_
        refine V.bipush (v := 6) dX11_tireAs_91 (by decide) ?_
        refine V.iadd dX11_tireAs_93 ?_
        refine V.topc (v := (nI ((16 * i) + 6))) (nI_add ((16 * i)) 6) ?_
        refine V.iload dX11_tireAs_94 4 rfl ?_
        refine V.iadd dX11_tireAs_96 ?_
        refine V.topc (v := (nI (((16 * i) + 6) + q))) (nI_add (((16 * i) + 6)) q) ?_
        refine V.iald 1 rfl (vinI (by omega)) dX11_tireAs_97 ?_
        refine V.topc (v := ((mW (va_up ρ i (pw, (upd T q (max0 (T q + 0)), s.2)))) ((((16 * i) + 6) + q)))) (by rw [nI_clamp (by omega)] <;> rfl) ?_
        refine V.topc (v := (max0 (T q + 0))) ((mW_ti (va_up_self _ _ _) (by omega)).trans pk_us) ?_
        refine V.bipush (v := 99) dX11_tireAs_98 (by decide) ?_
        refine V.icmp_le (tgt := 108) dX11_tireAs_100 (by decide) (fun c2_100 => ?_) (fun c2_100 => ?_)
        · skip
          refine V.aload_n dX11_tireAs_108 0 rfl ?_
          refine V.getf 0 0 rfl fa_X11_7_10 rfl dX11_tireAs_109 ?_
          refine V.iload_n dX11_tireAs_112 1 rfl ?_
          refine V.bipush (v := 6) dX11_tireAs_113 (by decide) ?_
          refine V.iadd dX11_tireAs_115 ?_
          refine V.topc (v := (nI ((16 * i) + 6))) (nI_add ((16 * i)) 6) ?_
          refine V.iload dX11_tireAs_116 4 rfl ?_
          refine V.iadd dX11_tireAs_118 ?_
          refine V.topc (v := (nI (((16 * i) + 6) + q))) (nI_add (((16 * i) + 6)) q) ?_
          refine V.iald 1 rfl (vinI (by omega)) dX11_tireAs_119 ?_
          refine V.topc (v := ((mW (va_up ρ i (pw, (upd T q (max0 (T q + 0)), s.2)))) ((((16 * i) + 6) + q)))) (by rw [nI_clamp (by omega)] <;> rfl) ?_
          refine V.topc (v := (max0 (T q + 0))) ((mW_ti (va_up_self _ _ _) (by omega)).trans pk_us) ?_
          refine V.iast (vw2 := [(o, ob 10 [.ref mw, .ref mk, .ref mt, .ref mr, .ref mki, .ref mso, .ref mst, .ref mpr, .ref msh, .ref mwa, .ref mpu, .ref mtx, .int ts, .int ma, .int bg, .int wr, .int cl, .int um, .ref mor, .ref mbo, .int mn, .ref tO, .ref tVi, .ref tSm, .int tm]), (mw, aI E 192 (upd (mW (va_up ρ i (pw, (upd T q (max0 (T q + 0)), s.2)))) (((16 * i) + 6) + q) (max0 (T q + 0)))), (mt, aI E 8 Ti)]) 1 rfl (vinI (by omega)) (by rw [nI_clamp (by omega)] <;> rfl) dX11_tireAs_120 ?_
          refine V.arrEq (vw2 := [(o, ob 10 [.ref mw, .ref mk, .ref mt, .ref mr, .ref mki, .ref mso, .ref mst, .ref mpr, .ref msh, .ref mwa, .ref mpu, .ref mtx, .int ts, .int ma, .int bg, .int wr, .int cl, .int um, .ref mor, .ref mbo, .int mn, .ref tO, .ref tVi, .ref tSm, .int tm]), (mw, aI E 192 (mW (va_up ρ i (pw, (upd T q (max0 (T q + 0)), s.2))))), (mt, aI E 8 Ti)]) 1 0 rfl (fun j _ => mW_tiu2 (by omega) j) rfl ?_
          refine V.iinc (v := (nI (q + 1))) (lv2 := [(4, .int (nI (q + 1))), (0, .ref o), (1, .int (nI (16 * i))), (2, .int 3), (3, .int (nI so))]) dX11_tireAs_121 4 rfl (nI_1 _) (by decide) rfl ?_
          refine V.goto (tgt := 42) dX11_tireAs_124 (by decide) ?_
          refine V.locals [1, 2, 3, 4, 0] (by rfl) ?_
          exact ih_42 (q + 1) (upd T q (max0 (T q + 0))) (by omega) (fun j h9 => by
                  rcases Nat.lt_succ_iff_lt_or_eq.mp h9 with h8 | h8
                  · rw [pk_un (by omega)]; exact hA j h8
                  · have h7 : T q + 0 = s.1 q + tiringI 3 (nI so) (nI q) (ti so) := by
                      rw [hB q (Nat.le_refl _) (by omega)]
                      exact rfl
                    rw [h8, pk_us, ← h7, held_cap, if_neg (Int32.not_lt.mpr c2_100)]) (fun j h8 h9 => by rw [pk_un (by omega)]; exact hB j (by omega) h9) (by omega)
        · skip
          refine V.bipush (v := 99) dX11_tireAs_103 (by decide) ?_
          refine V.goto (tgt := 120) dX11_tireAs_105 (by decide) ?_
          refine V.iast (vw2 := [(o, ob 10 [.ref mw, .ref mk, .ref mt, .ref mr, .ref mki, .ref mso, .ref mst, .ref mpr, .ref msh, .ref mwa, .ref mpu, .ref mtx, .int ts, .int ma, .int bg, .int wr, .int cl, .int um, .ref mor, .ref mbo, .int mn, .ref tO, .ref tVi, .ref tSm, .int tm]), (mw, aI E 192 (upd (mW (va_up ρ i (pw, (upd T q (max0 (T q + 0)), s.2)))) (((16 * i) + 6) + q) 99)), (mt, aI E 8 Ti)]) 1 rfl (vinI (by omega)) (by rw [nI_clamp (by omega)] <;> rfl) dX11_tireAs_120 ?_
          refine V.arrEq (vw2 := [(o, ob 10 [.ref mw, .ref mk, .ref mt, .ref mr, .ref mki, .ref mso, .ref mst, .ref mpr, .ref msh, .ref mwa, .ref mpu, .ref mtx, .int ts, .int ma, .int bg, .int wr, .int cl, .int um, .ref mor, .ref mbo, .int mn, .ref tO, .ref tVi, .ref tSm, .int tm]), (mw, aI E 192 (mW (va_up ρ i (pw, (upd T q 99, s.2))))), (mt, aI E 8 Ti)]) 1 0 rfl (fun j _ => mW_tiu2 (by omega) j) rfl ?_
          refine V.iinc (v := (nI (q + 1))) (lv2 := [(4, .int (nI (q + 1))), (0, .ref o), (1, .int (nI (16 * i))), (2, .int 3), (3, .int (nI so))]) dX11_tireAs_121 4 rfl (nI_1 _) (by decide) rfl ?_
          refine V.goto (tgt := 42) dX11_tireAs_124 (by decide) ?_
          refine V.locals [1, 2, 3, 4, 0] (by rfl) ?_
          exact ih_42 (q + 1) (upd T q 99) (by omega) (fun j h9 => by
                  rcases Nat.lt_succ_iff_lt_or_eq.mp h9 with h8 | h8
                  · rw [pk_un (by omega)]; exact hA j h8
                  · have h7 : T q + 0 = s.1 q + tiringI 3 (nI so) (nI q) (ti so) := by
                      rw [hB q (Nat.le_refl _) (by omega)]
                      exact rfl
                    rw [h8, pk_us, ← h7, held_cap, if_pos (Int32.not_le.mp c2_100)]) (fun j h8 h9 => by rw [pk_un (by omega)]; exact hB j (by omega) h9) (by omega)
  exact lp_42 (5) 0 s.1 (Nat.zero_le _) (fun j hj => absurd hj (Nat.not_lt_zero _)) (fun _ _ _ => rfl) (by omega)

theorem c_M_tireAs (E : vEnv) (l : Launch) (L : List Nat) (h : Nat → va_E) (o : Nat) (mw : Nat) (mk : Nat) (mt : Nat) (mr : Nat) (mki : Nat) (mso : Nat) (mst : Nat) (mpr : Nat) (msh : Nat) (mwa : Nat) (mpu : Nat) (mtx : Nat) (mor : Nat) (mbo : Nat) (tO : Nat) (tVi : Nat) (tSm : Nat) (ts : Int32) (ma : Int32) (bg : Int32) (wr : Int32) (cl : Int32) (um : Int32) (mn : Int32) (tm : Int32) (ρ : Nat → MR) (i : Nat) (pw : Nat → Int32) (s : NS) (Ti : Nat → Int32) (ti : Nat → Int32) (so : Nat) (κ : Nat) (hi : i < 12) (hR : ρ i = (pw, s)) (hso : so < 4) (hgT : gT s) (hgI : gI ti) (eI : ∀ j, j < 4 → Ti j = ti j) (hκ : κ < 4) : CT E l yX11_tireAs cX11_tireAs 5 none 1 0 0 L h [(o, ob 10 [.ref mw, .ref mk, .ref mt, .ref mr, .ref mki, .ref mso, .ref mst, .ref mpr, .ref msh, .ref mwa, .ref mpu, .ref mtx, .int ts, .int ma, .int bg, .int wr, .int cl, .int um, .ref mor, .ref mbo, .int mn, .ref tO, .ref tVi, .ref tSm, .int tm]), (mw, aI E 192 (mW ρ)), (mt, aI E 8 Ti)] [.ref o, .int (nI (16 * i)), .int (kindI κ), .int (nI so)] (qP L h (fun (_ : Unit) => [(o, ob 10 [.ref mw, .ref mk, .ref mt, .ref mr, .ref mki, .ref mso, .ref mst, .ref mpr, .ref msh, .ref mwa, .ref mpu, .ref mtx, .int ts, .int ma, .int bg, .int wr, .int cl, .int um, .ref mor, .ref mbo, .int mn, .ref tO, .ref tVi, .ref tSm, .int tm]), (mw, aI E 192 (mW (va_up ρ i (pw, (tireN κ so ti s))))), (mt, aI E 8 Ti)]) (fun _ => none) (fun _ => True)) := by
  rcases (show κ = 0 ∨ κ = 1 ∨ κ = 2 ∨ κ = 3 by omega) with rfl | rfl | rfl | rfl
  · exact c_M_tireAs_0 E l L h o mw mk mt mr mki mso mst mpr msh mwa mpu mtx mor mbo tO tVi tSm ts ma bg wr cl um mn tm ρ i pw s Ti ti so hi hR hso hgT hgI eI
  · exact c_M_tireAs_1 E l L h o mw mk mt mr mki mso mst mpr msh mwa mpu mtx mor mbo tO tVi tSm ts ma bg wr cl um mn tm ρ i pw s Ti ti so hi hR hso hgT hgI eI
  · exact c_M_tireAs_2 E l L h o mw mk mt mr mki mso mst mpr msh mwa mpu mtx mor mbo tO tVi tSm ts ma bg wr cl um mn tm ρ i pw s Ti ti so hi hR hso hgT hgI eI
  · exact c_M_tireAs_3 E l L h o mw mk mt mr mki mso mst mpr msh mwa mpu mtx mor mbo tO tVi tSm ts ma bg wr cl um mn tm ρ i pw s Ti ti so hi hR hso hgT hgI eI

set_option maxHeartbeats 4000000 in
set_option maxRecDepth 100000 in
theorem c_M_visitAs (E : vEnv) (l : Launch) (L : List Nat) (h : Nat → va_E) (o : Nat) (mw : Nat) (mk : Nat) (mt : Nat) (mr : Nat) (mki : Nat) (mso : Nat) (mst : Nat) (mpr : Nat) (msh : Nat) (mwa : Nat) (mpu : Nat) (mtx : Nat) (mor : Nat) (mbo : Nat) (tO : Nat) (tVi : Nat) (tSm : Nat) (ts : Int32) (ma : Int32) (bg : Int32) (wr : Int32) (cl : Int32) (um : Int32) (mn : Int32) (tm : Int32) (ρ : Nat → MR) (i : Nat) (pw : Nat → Int32) (s : NS) (Re : Nat → Int32) (r : Nat → Int32) (Ti : Nat → Int32) (ti : Nat → Int32) (Ki : Nat → Int32) (So : Nat → Int32) (St : Nat → Int32) (Pr : Nat → Int32) (Wa : Nat → Int32) (k : Nat) (κ : Nat) (so : Nat) (sg : Int32) (κs : Nat) (pr : Int32) (wa : Int32) (p : Nat) (p0 : Nat) (hi : i < 12) (hR : ρ i = (pw, s)) (hk : k < 6) (hκ : κ < 4) (hso : so < 4) (eK : Ki k = kindI κ) (eS : So k = nI so) (eT : St k = sg) (eP : Pr k = pr) (eW : Wa 0 = wa) (hp : p < 6) (hp0 : p0 < 6) (ep : pw k = nI p) (ep0 : s.2.1 = nI p0) (hgT : gT s) (hgC : gC s.2.2.2.1) (hgR : gR r) (eR : ∀ j, j < 4 → Re j = r j) (hgI : gI ti) (eI : ∀ j, j < 4 → Ti j = ti j) (hκs : κs < 4) : CT E l yX11_visitAs cX11_visitAs 5 (some (.int)) 2 0 0 L h [(o, ob 10 [.ref mw, .ref mk, .ref mt, .ref mr, .ref mki, .ref mso, .ref mst, .ref mpr, .ref msh, .ref mwa, .ref mpu, .ref mtx, .int ts, .int ma, .int bg, .int wr, .int cl, .int um, .ref mor, .ref mbo, .int mn, .ref tO, .ref tVi, .ref tSm, .int tm]), (mw, aI E 192 (mW ρ)), (mr, aI E 8 Re), (mt, aI E 8 Ti), (mki, aI E 12 Ki), (mso, aI E 12 So), (mst, aI E 12 St), (mpr, aI E 12 Pr), (mwa, aI E 2 Wa)] [.ref o, .int (nI (16 * i)), .int (nI k), .int (kindI κs)] (qP L h (fun (_ : Unit) => [(o, ob 10 [.ref mw, .ref mk, .ref mt, .ref mr, .ref mki, .ref mso, .ref mst, .ref mpr, .ref msh, .ref mwa, .ref mpu, .ref mtx, .int ts, .int ma, .int bg, .int wr, .int cl, .int um, .ref mor, .ref mbo, .int mn, .ref tO, .ref tVi, .ref tSm, .int tm]), (mw, aI E 192 (mW (va_up ρ i (pw, (visP (nI p) k κ κs so sg pr wa ti r s))))), (mr, aI E 8 Re), (mt, aI E 8 Ti), (mki, aI E 12 Ki), (mso, aI E 12 So), (mst, aI E 12 St), (mpr, aI E 12 Pr), (mwa, aI E 2 Wa)]) (fun _ => some (.int (muchN κ so sg (wentP (nI p) r s)))) (fun _ => True)) := by
  refine CT.ofV (by decide +kernel) (Nat.le_of_ble_eq_true rfl) ?_
  refine V.locals2 (lv2 := [(0, .ref o), (1, .int (nI (16 * i))), (2, .int (nI k)), (3, .int (kindI κs))]) rfl ?_
  refine V.aload_n dX11_visitAs_0 0 rfl ?_
  refine V.iload_n dX11_visitAs_1 1 rfl ?_
  refine V.aload_n dX11_visitAs_2 0 rfl ?_
  refine V.iload_n dX11_visitAs_3 1 rfl ?_
  refine V.iload_n dX11_visitAs_4 2 rfl ?_
  refine V.callVp (As := [.int (nI (16 * i)), .int (nI k)]) (rest := [.int (nI (16 * i)), .ref o]) [0, 1] (c_M_farTo E l L _ o mw mk mt mr mki mso mst mpr msh mwa mpu mtx mor mbo tO tVi tSm ts ma bg wr cl um mn tm ρ i pw s k p p0 (hi) (hR) (hk) (hp) (hp0) (ep) (ep0)) rfl (by decide) mi_X11_farTo 0 rfl rfl w_903 w_905 wp_24 rfl rfl (Nat.le_of_ble_eq_true rfl) ⟨by decide, by decide⟩ ⟨by decide, by decide⟩ dX11_visitAs_5 (vw2 := fun _ => [(o, ob 10 [.ref mw, .ref mk, .ref mt, .ref mr, .ref mki, .ref mso, .ref mst, .ref mpr, .ref msh, .ref mwa, .ref mpu, .ref mtx, .int ts, .int ma, .int bg, .int wr, .int cl, .int um, .ref mor, .ref mbo, .int mn, .ref tO, .ref tVi, .ref tSm, .int tm]), (mw, aI E 192 (mW ρ)), (mr, aI E 8 Re), (mt, aI E 8 Ti), (mki, aI E 12 Ki), (mso, aI E 12 So), (mst, aI E 12 St), (mpr, aI E 12 Pr), (mwa, aI E 2 Wa)]) (st2 := fun _ => [.int (nI (dN p p0)), .int (nI (16 * i)), .ref o]) (fun _ => rfl) (fun _ => rfl) (fun _ => rfl) (fun _ _ => ?_)
  refine V.callVp (As := [.int (nI (16 * i)), .int (nI (dN p p0))]) (rest := []) [0, 1, 2] (c_M_goOn E l L _ o mw mk mt mr mki mso mst mpr msh mwa mpu mtx mor mbo tO tVi tSm ts ma bg wr cl um mn tm ρ i pw s Re r ((dN p p0)) (hi) (hR) (hgT) (hgC) (hgR) (eR) (by unfold dN; split <;> omega)) rfl (by decide) mi_X11_goOn 0 rfl rfl w_907 w_909 wp_25 rfl rfl (Nat.le_of_ble_eq_true rfl) ⟨by decide, by decide⟩ ⟨by decide, by decide⟩ dX11_visitAs_8 (vw2 := fun _ => [(o, ob 10 [.ref mw, .ref mk, .ref mt, .ref mr, .ref mki, .ref mso, .ref mst, .ref mpr, .ref msh, .ref mwa, .ref mpu, .ref mtx, .int ts, .int ma, .int bg, .int wr, .int cl, .int um, .ref mor, .ref mbo, .int mn, .ref tO, .ref tVi, .ref tSm, .int tm]), (mw, aI E 192 (mW (va_up ρ i (pw, (stepN r (nI (dN p p0)) s))))), (mr, aI E 8 Re), (mt, aI E 8 Ti), (mki, aI E 12 Ki), (mso, aI E 12 So), (mst, aI E 12 St), (mpr, aI E 12 Pr), (mwa, aI E 2 Wa)]) (st2 := fun _ => []) (fun _ => rfl) (fun _ => rfl) (fun _ => rfl) (fun _ _ => ?_)
  refine V.aload_n dX11_visitAs_11 0 rfl ?_
  refine V.getf 0 0 rfl fa_X11_7_10 rfl dX11_visitAs_12 ?_
  refine V.iload_n dX11_visitAs_15 1 rfl ?_
  refine V.bipush (v := 10) dX11_visitAs_16 (by decide) ?_
  refine V.iadd dX11_visitAs_18 ?_
  refine V.topc (v := (nI ((16 * i) + 10))) (nI_add ((16 * i)) 10) ?_
  refine V.aload_n dX11_visitAs_19 0 rfl ?_
  refine V.getf 0 0 rfl fa_X11_7_10 rfl dX11_visitAs_20 ?_
  refine V.iload_n dX11_visitAs_23 1 rfl ?_
  refine V.iload_n dX11_visitAs_24 2 rfl ?_
  refine V.iadd dX11_visitAs_25 ?_
  refine V.topc (v := (nI ((16 * i) + k))) (nI_add ((16 * i)) k) ?_
  refine V.iald 1 rfl (vinI (by omega)) dX11_visitAs_26 ?_
  refine V.topc (v := ((mW (va_up ρ i (pw, (stepN r (nI (dN p p0)) s)))) (((16 * i) + k)))) (by rw [nI_clamp (by omega)] <;> rfl) ?_
  refine V.topc (v := (nI p)) ((mW_pl (va_up_self _ _ _) hk).trans ep) ?_
  refine V.iast (vw2 := [(o, ob 10 [.ref mw, .ref mk, .ref mt, .ref mr, .ref mki, .ref mso, .ref mst, .ref mpr, .ref msh, .ref mwa, .ref mpu, .ref mtx, .int ts, .int ma, .int bg, .int wr, .int cl, .int um, .ref mor, .ref mbo, .int mn, .ref tO, .ref tVi, .ref tSm, .int tm]), (mw, aI E 192 (upd (mW (va_up ρ i (pw, (stepN r (nI (dN p p0)) s)))) ((16 * i) + 10) (nI p))), (mr, aI E 8 Re), (mt, aI E 8 Ti), (mki, aI E 12 Ki), (mso, aI E 12 So), (mst, aI E 12 St), (mpr, aI E 12 Pr), (mwa, aI E 2 Wa)]) 1 rfl (vinI (by omega)) (by rw [nI_clamp (by omega)] <;> rfl) dX11_visitAs_27 ?_
  refine V.arrEq (vw2 := [(o, ob 10 [.ref mw, .ref mk, .ref mt, .ref mr, .ref mki, .ref mso, .ref mst, .ref mpr, .ref msh, .ref mwa, .ref mpu, .ref mtx, .int ts, .int ma, .int bg, .int wr, .int cl, .int um, .ref mor, .ref mbo, .int mn, .ref tO, .ref tVi, .ref tSm, .int tm]), (mw, aI E 192 (mW (va_up ρ i (pw, (wentP (nI p) r s))))), (mr, aI E 8 Re), (mt, aI E 8 Ti), (mki, aI E 12 Ki), (mso, aI E 12 So), (mst, aI E 12 St), (mpr, aI E 12 Pr), (mwa, aI E 2 Wa)]) 1 0 rfl (fun j _ => by show _ = mW (va_up ρ i (pw, atPlace (nI p) (stepN r (absI (nI p - s.2.1)) s))) j; rw [ep0, absI_dN (by omega) (by omega)]; exact mW_upr (k := 10) (by decide) (by rfl) (row_but (by rfl) (by rfl) (by first | exact Or.inl rfl | exact Or.inr rfl) (by first | exact Or.inl rfl | exact Or.inr rfl) (by first | exact Or.inl rfl | exact Or.inr rfl) (by first | exact Or.inl rfl | exact Or.inr rfl) (by first | exact Or.inl rfl | exact Or.inr rfl) (by first | exact Or.inl rfl | exact Or.inr rfl)) j) rfl ?_
  refine V.aload_n dX11_visitAs_28 0 rfl ?_
  refine V.iload_n dX11_visitAs_29 1 rfl ?_
  refine V.iload_n dX11_visitAs_30 2 rfl ?_
  refine V.callVp (As := [.int (nI (16 * i)), .int (nI k)]) (rest := []) [0, 1, 4, 5, 6] (c_M_smells E l L _ o mw mk mt mr mki mso mst mpr msh mwa mpu mtx mor mbo tO tVi tSm ts ma bg wr cl um mn tm ((va_up ρ i (pw, (wentP (nI p) r s)))) i pw ((wentP (nI p) r s)) Ki So St k κ so sg (hi) (va_up_self _ _ _) (hk) (hκ) (hso) (eK) (eS) (eT)) rfl (by decide) mi_X11_smells 0 rfl rfl w_870 w_872 wp_18 rfl rfl (Nat.le_of_ble_eq_true rfl) ⟨by decide, by decide⟩ ⟨by decide, by decide⟩ dX11_visitAs_31 (vw2 := fun _ => [(o, ob 10 [.ref mw, .ref mk, .ref mt, .ref mr, .ref mki, .ref mso, .ref mst, .ref mpr, .ref msh, .ref mwa, .ref mpu, .ref mtx, .int ts, .int ma, .int bg, .int wr, .int cl, .int um, .ref mor, .ref mbo, .int mn, .ref tO, .ref tVi, .ref tSm, .int tm]), (mw, aI E 192 (mW (va_up ρ i (pw, (wentP (nI p) r s))))), (mr, aI E 8 Re), (mt, aI E 8 Ti), (mki, aI E 12 Ki), (mso, aI E 12 So), (mst, aI E 12 St), (mpr, aI E 12 Pr), (mwa, aI E 2 Wa)]) (st2 := fun _ => [.int (muchN κ so sg (wentP (nI p) r s))]) (fun _ => rfl) (fun _ => rfl) (fun _ => rfl) (fun _ _ => ?_)
  refine V.istore (lv2 := [(4, .int (muchN κ so sg (wentP (nI p) r s))), (0, .ref o), (1, .int (nI (16 * i))), (2, .int (nI k)), (3, .int (kindI κs))]) dX11_visitAs_34 (by decide) rfl ?_
  refine V.iload dX11_visitAs_36 0 rfl ?_
  refine V.aload_n dX11_visitAs_38 1 rfl ?_
  refine V.getf 0 9 rfl fa_X11_38_10 rfl dX11_visitAs_39 ?_
  refine V.iconst (v := 0) dX11_visitAs_42 (by decide) ?_
  refine V.iald 8 rfl (vin rfl) dX11_visitAs_43 ?_
  refine V.topc (v := (Wa 0)) (rfl) ?_
  refine V.topc (v := wa) (eW) ?_
  refine V.icmp_lt (tgt := 114) dX11_visitAs_44 (by decide) (fun c1_44 => ?_) (fun c1_44 => ?_)
  · skip
    refine V.aload_n dX11_visitAs_114 1 rfl ?_
    refine V.iload_n dX11_visitAs_115 2 rfl ?_
    refine V.iload_n dX11_visitAs_116 4 rfl ?_
    refine V.aload_n dX11_visitAs_117 1 rfl ?_
    refine V.getf 0 5 rfl fa_X11_26_10 rfl dX11_visitAs_118 ?_
    refine V.iload_n dX11_visitAs_121 3 rfl ?_
    refine V.iald 5 rfl (vinI (by omega)) dX11_visitAs_122 ?_
    refine V.topc (v := (So k)) (by rw [nI_clamp (by omega)] <;> rfl) ?_
    refine V.topc (v := (nI so)) (eS) ?_
    refine V.callVp (As := [.int (nI (16 * i)), .int (kindI κs), .int (nI so)]) (rest := []) [0, 1, 3] (c_M_tireAs E l L _ o mw mk mt mr mki mso mst mpr msh mwa mpu mtx mor mbo tO tVi tSm ts ma bg wr cl um mn tm ((va_up ρ i (pw, (wentP (nI p) r s)))) i pw ((wentP (nI p) r s)) Ti ti so κs (hi) (va_up_self _ _ _) (hso) (fun j9 h9 => gT_go (n := absI (nI p - s.2.1)) (s := s) (r := r) j9 h9) (hgI) (eI) (hκs)) rfl (by decide) mi_X11_tireAs 0 rfl rfl w_883 w_885 wp_20 rfl rfl (Nat.le_of_ble_eq_true rfl) ⟨by decide, by decide⟩ ⟨by decide, by decide⟩ dX11_visitAs_123 (vw2 := fun _ => [(o, ob 10 [.ref mw, .ref mk, .ref mt, .ref mr, .ref mki, .ref mso, .ref mst, .ref mpr, .ref msh, .ref mwa, .ref mpu, .ref mtx, .int ts, .int ma, .int bg, .int wr, .int cl, .int um, .ref mor, .ref mbo, .int mn, .ref tO, .ref tVi, .ref tSm, .int tm]), (mw, aI E 192 (mW (va_up (va_up ρ i (pw, (wentP (nI p) r s))) i (pw, (tireN κs so ti (wentP (nI p) r s)))))), (mr, aI E 8 Re), (mt, aI E 8 Ti), (mki, aI E 12 Ki), (mso, aI E 12 So), (mst, aI E 12 St), (mpr, aI E 12 Pr), (mwa, aI E 2 Wa)]) (st2 := fun _ => []) (fun _ => rfl) (fun _ => rfl) (fun _ => rfl) (fun _ _ => ?_)
    refine V.arrEq (vw2 := [(o, ob 10 [.ref mw, .ref mk, .ref mt, .ref mr, .ref mki, .ref mso, .ref mst, .ref mpr, .ref msh, .ref mwa, .ref mpu, .ref mtx, .int ts, .int ma, .int bg, .int wr, .int cl, .int um, .ref mor, .ref mbo, .int mn, .ref tO, .ref tVi, .ref tSm, .int tm]), (mw, aI E 192 (mW (va_up ρ i (pw, ((tireN κs so ti (wentP (nI p) r s)).1, (wentP (nI p) r s).2.1, (wentP (nI p) r s).2.2.1, (wentP (nI p) r s).2.2.2.1, (wentP (nI p) r s).2.2.2.2.1, (wentP (nI p) r s).2.2.2.2.2.1, (wentP (nI p) r s).2.2.2.2.2.2.1, (wentP (nI p) r s).2.2.2.2.2.2.2))))), (mr, aI E 8 Re), (mt, aI E 8 Ti), (mki, aI E 12 Ki), (mso, aI E 12 So), (mst, aI E 12 St), (mpr, aI E 12 Pr), (mwa, aI E 2 Wa)]) 1 0 rfl (fun j _ => mW_ups j) rfl ?_
    refine V.aload_n dX11_visitAs_126 1 rfl ?_
    refine V.getf 0 0 rfl fa_X11_7_10 rfl dX11_visitAs_127 ?_
    refine V.iload_n dX11_visitAs_130 2 rfl ?_
    refine V.bipush (v := 15) dX11_visitAs_131 (by decide) ?_
    refine V.iadd dX11_visitAs_133 ?_
    refine V.topc (v := (nI ((16 * i) + 15))) (nI_add ((16 * i)) 15) ?_
    refine V.dup2 dX11_visitAs_134 rfl rfl ?_
    refine V.iald 1 rfl (vinI (by omega)) dX11_visitAs_135 ?_
    refine V.topc (v := ((mW (va_up ρ i (pw, ((tireN κs so ti (wentP (nI p) r s)).1, (wentP (nI p) r s).2.1, (wentP (nI p) r s).2.2.1, (wentP (nI p) r s).2.2.2.1, (wentP (nI p) r s).2.2.2.2.1, (wentP (nI p) r s).2.2.2.2.2.1, (wentP (nI p) r s).2.2.2.2.2.2.1, (wentP (nI p) r s).2.2.2.2.2.2.2)))) (((16 * i) + 15)))) (by rw [nI_clamp (by omega)] <;> rfl) ?_
    refine V.topc (v := s.2.2.2.2.2.2.1) ((mW_sm (va_up_self _ _ _)).trans rfl) ?_
    refine V.iload dX11_visitAs_136 0 rfl ?_
    refine V.iadd dX11_visitAs_138 ?_
    refine V.iast (vw2 := [(o, ob 10 [.ref mw, .ref mk, .ref mt, .ref mr, .ref mki, .ref mso, .ref mst, .ref mpr, .ref msh, .ref mwa, .ref mpu, .ref mtx, .int ts, .int ma, .int bg, .int wr, .int cl, .int um, .ref mor, .ref mbo, .int mn, .ref tO, .ref tVi, .ref tSm, .int tm]), (mw, aI E 192 (upd (mW (va_up ρ i (pw, ((tireN κs so ti (wentP (nI p) r s)).1, (wentP (nI p) r s).2.1, (wentP (nI p) r s).2.2.1, (wentP (nI p) r s).2.2.2.1, (wentP (nI p) r s).2.2.2.2.1, (wentP (nI p) r s).2.2.2.2.2.1, (wentP (nI p) r s).2.2.2.2.2.2.1, (wentP (nI p) r s).2.2.2.2.2.2.2)))) ((16 * i) + 15) (s.2.2.2.2.2.2.1 + (muchN κ so sg (wentP (nI p) r s))))), (mr, aI E 8 Re), (mt, aI E 8 Ti), (mki, aI E 12 Ki), (mso, aI E 12 So), (mst, aI E 12 St), (mpr, aI E 12 Pr), (mwa, aI E 2 Wa)]) 1 rfl (vinI (by omega)) (by rw [nI_clamp (by omega)] <;> rfl) dX11_visitAs_139 ?_
    refine V.arrEq (vw2 := [(o, ob 10 [.ref mw, .ref mk, .ref mt, .ref mr, .ref mki, .ref mso, .ref mst, .ref mpr, .ref msh, .ref mwa, .ref mpu, .ref mtx, .int ts, .int ma, .int bg, .int wr, .int cl, .int um, .ref mor, .ref mbo, .int mn, .ref tO, .ref tVi, .ref tSm, .int tm]), (mw, aI E 192 (mW (va_up ρ i (pw, (visP (nI p) k κ κs so sg pr wa ti r s))))), (mr, aI E 8 Re), (mt, aI E 8 Ti), (mki, aI E 12 Ki), (mso, aI E 12 So), (mst, aI E 12 St), (mpr, aI E 12 Pr), (mwa, aI E 2 Wa)]) 1 0 rfl (fun j _ => by rw [show (visP (nI p) k κ κs so sg pr wa ti r s) = (((tireN κs so ti (wentP (nI p) r s)).1, (wentP (nI p) r s).2.1, (wentP (nI p) r s).2.2.1, (wentP (nI p) r s).2.2.2.1, (wentP (nI p) r s).2.2.2.2.1, (wentP (nI p) r s).2.2.2.2.2.1, (wentP (nI p) r s).2.2.2.2.2.2.1, (wentP (nI p) r s).2.2.2.2.2.2.2).1, ((tireN κs so ti (wentP (nI p) r s)).1, (wentP (nI p) r s).2.1, (wentP (nI p) r s).2.2.1, (wentP (nI p) r s).2.2.2.1, (wentP (nI p) r s).2.2.2.2.1, (wentP (nI p) r s).2.2.2.2.2.1, (wentP (nI p) r s).2.2.2.2.2.2.1, (wentP (nI p) r s).2.2.2.2.2.2.2).2.1, ((tireN κs so ti (wentP (nI p) r s)).1, (wentP (nI p) r s).2.1, (wentP (nI p) r s).2.2.1, (wentP (nI p) r s).2.2.2.1, (wentP (nI p) r s).2.2.2.2.1, (wentP (nI p) r s).2.2.2.2.2.1, (wentP (nI p) r s).2.2.2.2.2.2.1, (wentP (nI p) r s).2.2.2.2.2.2.2).2.2.1, ((tireN κs so ti (wentP (nI p) r s)).1, (wentP (nI p) r s).2.1, (wentP (nI p) r s).2.2.1, (wentP (nI p) r s).2.2.2.1, (wentP (nI p) r s).2.2.2.2.1, (wentP (nI p) r s).2.2.2.2.2.1, (wentP (nI p) r s).2.2.2.2.2.2.1, (wentP (nI p) r s).2.2.2.2.2.2.2).2.2.2.1, ((tireN κs so ti (wentP (nI p) r s)).1, (wentP (nI p) r s).2.1, (wentP (nI p) r s).2.2.1, (wentP (nI p) r s).2.2.2.1, (wentP (nI p) r s).2.2.2.2.1, (wentP (nI p) r s).2.2.2.2.2.1, (wentP (nI p) r s).2.2.2.2.2.2.1, (wentP (nI p) r s).2.2.2.2.2.2.2).2.2.2.2.1, ((tireN κs so ti (wentP (nI p) r s)).1, (wentP (nI p) r s).2.1, (wentP (nI p) r s).2.2.1, (wentP (nI p) r s).2.2.2.1, (wentP (nI p) r s).2.2.2.2.1, (wentP (nI p) r s).2.2.2.2.2.1, (wentP (nI p) r s).2.2.2.2.2.2.1, (wentP (nI p) r s).2.2.2.2.2.2.2).2.2.2.2.2.1, (s.2.2.2.2.2.2.1 + (muchN κ so sg (wentP (nI p) r s))), ((tireN κs so ti (wentP (nI p) r s)).1, (wentP (nI p) r s).2.1, (wentP (nI p) r s).2.2.1, (wentP (nI p) r s).2.2.2.1, (wentP (nI p) r s).2.2.2.2.1, (wentP (nI p) r s).2.2.2.2.2.1, (wentP (nI p) r s).2.2.2.2.2.2.1, (wentP (nI p) r s).2.2.2.2.2.2.2).2.2.2.2.2.2.2) from by unfold visP; rw [if_neg (Int32.not_le.mpr c1_44), if_neg (Int32.not_le.mpr c1_44)] <;> rfl]; exact mW_upr (k := 15) (by decide) (by rfl) (row_but (by rfl) (by rfl) (by first | exact Or.inl rfl | exact Or.inr rfl) (by first | exact Or.inl rfl | exact Or.inr rfl) (by first | exact Or.inl rfl | exact Or.inr rfl) (by first | exact Or.inl rfl | exact Or.inr rfl) (by first | exact Or.inl rfl | exact Or.inr rfl) (by first | exact Or.inl rfl | exact Or.inr rfl)) j) rfl ?_
    refine V.iload dX11_visitAs_140 0 rfl ?_
    exact V.iret rfl dX11_visitAs_142 (⟨(), rfl, rfl, rfl, trivial⟩)
  · skip
    refine V.aload_n dX11_visitAs_47 1 rfl ?_
    refine V.getf 0 0 rfl fa_X11_7_10 rfl dX11_visitAs_48 ?_
    refine V.iload_n dX11_visitAs_51 2 rfl ?_
    refine V.bipush (v := 13) dX11_visitAs_52 (by decide) ?_
    refine V.iadd dX11_visitAs_54 ?_
    refine V.topc (v := (nI ((16 * i) + 13))) (nI_add ((16 * i)) 13) ?_
    refine V.iald 1 rfl (vinI (by omega)) dX11_visitAs_55 ?_
    refine V.topc (v := ((mW (va_up ρ i (pw, (wentP (nI p) r s)))) (((16 * i) + 13)))) (by rw [nI_clamp (by omega)] <;> rfl) ?_
    refine V.topc (v := s.2.2.2.2.2.1) ((mW_bo (va_up_self _ _ _)).trans rfl) ?_
    refine V.iload_n dX11_visitAs_56 3 rfl ?_
    refine V.callSp (As := [.int s.2.2.2.2.2.1, .int (nI k)]) (rest := []) [] (c_M_has E l L _ s.2.2.2.2.2.1 k) rfl (by decide) mi_X11_has w_864 w_865 rfl rfl (Nat.le_of_ble_eq_true rfl) ⟨by decide, by decide⟩ ⟨by decide, by decide⟩ dX11_visitAs_57 (vw2 := fun _ => [(o, ob 10 [.ref mw, .ref mk, .ref mt, .ref mr, .ref mki, .ref mso, .ref mst, .ref mpr, .ref msh, .ref mwa, .ref mpu, .ref mtx, .int ts, .int ma, .int bg, .int wr, .int cl, .int um, .ref mor, .ref mbo, .int mn, .ref tO, .ref tVi, .ref tSm, .int tm]), (mw, aI E 192 (mW (va_up ρ i (pw, (wentP (nI p) r s))))), (mr, aI E 8 Re), (mt, aI E 8 Ti), (mki, aI E 12 Ki), (mso, aI E 12 So), (mst, aI E 12 St), (mpr, aI E 12 Pr), (mwa, aI E 2 Wa)]) (st2 := fun _ => [.int (boolI (hasI s.2.2.2.2.2.1 k))]) (fun _ => rfl) (fun _ => rfl) (fun _ => rfl) (fun _ _ => ?_)
    refine V.if_ne (tgt := 114) dX11_visitAs_60 (by decide) (fun c2_60 => ?_) (fun c2_60 => ?_)
    · skip
      have hb60 : ((s.2.2.2.2.2.1 >>> (nI k &&& 31)) &&& 1) = 1 := Classical.byContradiction (fun h9 => c2_60 (boolI_f (p := hasI s.2.2.2.2.2.1 k) h9))
      refine V.aload_n dX11_visitAs_114 1 rfl ?_
      refine V.iload_n dX11_visitAs_115 2 rfl ?_
      refine V.iload_n dX11_visitAs_116 4 rfl ?_
      refine V.aload_n dX11_visitAs_117 1 rfl ?_
      refine V.getf 0 5 rfl fa_X11_26_10 rfl dX11_visitAs_118 ?_
      refine V.iload_n dX11_visitAs_121 3 rfl ?_
      refine V.iald 5 rfl (vinI (by omega)) dX11_visitAs_122 ?_
      refine V.topc (v := (So k)) (by rw [nI_clamp (by omega)] <;> rfl) ?_
      refine V.topc (v := (nI so)) (eS) ?_
      refine V.callVp (As := [.int (nI (16 * i)), .int (kindI κs), .int (nI so)]) (rest := []) [0, 1, 3] (c_M_tireAs E l L _ o mw mk mt mr mki mso mst mpr msh mwa mpu mtx mor mbo tO tVi tSm ts ma bg wr cl um mn tm ((va_up ρ i (pw, (wentP (nI p) r s)))) i pw ((wentP (nI p) r s)) Ti ti so κs (hi) (va_up_self _ _ _) (hso) (fun j9 h9 => gT_go (n := absI (nI p - s.2.1)) (s := s) (r := r) j9 h9) (hgI) (eI) (hκs)) rfl (by decide) mi_X11_tireAs 0 rfl rfl w_883 w_885 wp_20 rfl rfl (Nat.le_of_ble_eq_true rfl) ⟨by decide, by decide⟩ ⟨by decide, by decide⟩ dX11_visitAs_123 (vw2 := fun _ => [(o, ob 10 [.ref mw, .ref mk, .ref mt, .ref mr, .ref mki, .ref mso, .ref mst, .ref mpr, .ref msh, .ref mwa, .ref mpu, .ref mtx, .int ts, .int ma, .int bg, .int wr, .int cl, .int um, .ref mor, .ref mbo, .int mn, .ref tO, .ref tVi, .ref tSm, .int tm]), (mw, aI E 192 (mW (va_up (va_up ρ i (pw, (wentP (nI p) r s))) i (pw, (tireN κs so ti (wentP (nI p) r s)))))), (mr, aI E 8 Re), (mt, aI E 8 Ti), (mki, aI E 12 Ki), (mso, aI E 12 So), (mst, aI E 12 St), (mpr, aI E 12 Pr), (mwa, aI E 2 Wa)]) (st2 := fun _ => []) (fun _ => rfl) (fun _ => rfl) (fun _ => rfl) (fun _ _ => ?_)
      refine V.arrEq (vw2 := [(o, ob 10 [.ref mw, .ref mk, .ref mt, .ref mr, .ref mki, .ref mso, .ref mst, .ref mpr, .ref msh, .ref mwa, .ref mpu, .ref mtx, .int ts, .int ma, .int bg, .int wr, .int cl, .int um, .ref mor, .ref mbo, .int mn, .ref tO, .ref tVi, .ref tSm, .int tm]), (mw, aI E 192 (mW (va_up ρ i (pw, ((tireN κs so ti (wentP (nI p) r s)).1, (wentP (nI p) r s).2.1, (wentP (nI p) r s).2.2.1, (wentP (nI p) r s).2.2.2.1, (wentP (nI p) r s).2.2.2.2.1, (wentP (nI p) r s).2.2.2.2.2.1, (wentP (nI p) r s).2.2.2.2.2.2.1, (wentP (nI p) r s).2.2.2.2.2.2.2))))), (mr, aI E 8 Re), (mt, aI E 8 Ti), (mki, aI E 12 Ki), (mso, aI E 12 So), (mst, aI E 12 St), (mpr, aI E 12 Pr), (mwa, aI E 2 Wa)]) 1 0 rfl (fun j _ => mW_ups j) rfl ?_
      refine V.aload_n dX11_visitAs_126 1 rfl ?_
      refine V.getf 0 0 rfl fa_X11_7_10 rfl dX11_visitAs_127 ?_
      refine V.iload_n dX11_visitAs_130 2 rfl ?_
      refine V.bipush (v := 15) dX11_visitAs_131 (by decide) ?_
      refine V.iadd dX11_visitAs_133 ?_
      refine V.topc (v := (nI ((16 * i) + 15))) (nI_add ((16 * i)) 15) ?_
      refine V.dup2 dX11_visitAs_134 rfl rfl ?_
      refine V.iald 1 rfl (vinI (by omega)) dX11_visitAs_135 ?_
      refine V.topc (v := ((mW (va_up ρ i (pw, ((tireN κs so ti (wentP (nI p) r s)).1, (wentP (nI p) r s).2.1, (wentP (nI p) r s).2.2.1, (wentP (nI p) r s).2.2.2.1, (wentP (nI p) r s).2.2.2.2.1, (wentP (nI p) r s).2.2.2.2.2.1, (wentP (nI p) r s).2.2.2.2.2.2.1, (wentP (nI p) r s).2.2.2.2.2.2.2)))) (((16 * i) + 15)))) (by rw [nI_clamp (by omega)] <;> rfl) ?_
      refine V.topc (v := s.2.2.2.2.2.2.1) ((mW_sm (va_up_self _ _ _)).trans rfl) ?_
      refine V.iload dX11_visitAs_136 0 rfl ?_
      refine V.iadd dX11_visitAs_138 ?_
      refine V.iast (vw2 := [(o, ob 10 [.ref mw, .ref mk, .ref mt, .ref mr, .ref mki, .ref mso, .ref mst, .ref mpr, .ref msh, .ref mwa, .ref mpu, .ref mtx, .int ts, .int ma, .int bg, .int wr, .int cl, .int um, .ref mor, .ref mbo, .int mn, .ref tO, .ref tVi, .ref tSm, .int tm]), (mw, aI E 192 (upd (mW (va_up ρ i (pw, ((tireN κs so ti (wentP (nI p) r s)).1, (wentP (nI p) r s).2.1, (wentP (nI p) r s).2.2.1, (wentP (nI p) r s).2.2.2.1, (wentP (nI p) r s).2.2.2.2.1, (wentP (nI p) r s).2.2.2.2.2.1, (wentP (nI p) r s).2.2.2.2.2.2.1, (wentP (nI p) r s).2.2.2.2.2.2.2)))) ((16 * i) + 15) (s.2.2.2.2.2.2.1 + (muchN κ so sg (wentP (nI p) r s))))), (mr, aI E 8 Re), (mt, aI E 8 Ti), (mki, aI E 12 Ki), (mso, aI E 12 So), (mst, aI E 12 St), (mpr, aI E 12 Pr), (mwa, aI E 2 Wa)]) 1 rfl (vinI (by omega)) (by rw [nI_clamp (by omega)] <;> rfl) dX11_visitAs_139 ?_
      refine V.arrEq (vw2 := [(o, ob 10 [.ref mw, .ref mk, .ref mt, .ref mr, .ref mki, .ref mso, .ref mst, .ref mpr, .ref msh, .ref mwa, .ref mpu, .ref mtx, .int ts, .int ma, .int bg, .int wr, .int cl, .int um, .ref mor, .ref mbo, .int mn, .ref tO, .ref tVi, .ref tSm, .int tm]), (mw, aI E 192 (mW (va_up ρ i (pw, (visP (nI p) k κ κs so sg pr wa ti r s))))), (mr, aI E 8 Re), (mt, aI E 8 Ti), (mki, aI E 12 Ki), (mso, aI E 12 So), (mst, aI E 12 St), (mpr, aI E 12 Pr), (mwa, aI E 2 Wa)]) 1 0 rfl (fun j _ => by rw [show (visP (nI p) k κ κs so sg pr wa ti r s) = (((tireN κs so ti (wentP (nI p) r s)).1, (wentP (nI p) r s).2.1, (wentP (nI p) r s).2.2.1, (wentP (nI p) r s).2.2.2.1, (wentP (nI p) r s).2.2.2.2.1, (wentP (nI p) r s).2.2.2.2.2.1, (wentP (nI p) r s).2.2.2.2.2.2.1, (wentP (nI p) r s).2.2.2.2.2.2.2).1, ((tireN κs so ti (wentP (nI p) r s)).1, (wentP (nI p) r s).2.1, (wentP (nI p) r s).2.2.1, (wentP (nI p) r s).2.2.2.1, (wentP (nI p) r s).2.2.2.2.1, (wentP (nI p) r s).2.2.2.2.2.1, (wentP (nI p) r s).2.2.2.2.2.2.1, (wentP (nI p) r s).2.2.2.2.2.2.2).2.1, ((tireN κs so ti (wentP (nI p) r s)).1, (wentP (nI p) r s).2.1, (wentP (nI p) r s).2.2.1, (wentP (nI p) r s).2.2.2.1, (wentP (nI p) r s).2.2.2.2.1, (wentP (nI p) r s).2.2.2.2.2.1, (wentP (nI p) r s).2.2.2.2.2.2.1, (wentP (nI p) r s).2.2.2.2.2.2.2).2.2.1, ((tireN κs so ti (wentP (nI p) r s)).1, (wentP (nI p) r s).2.1, (wentP (nI p) r s).2.2.1, (wentP (nI p) r s).2.2.2.1, (wentP (nI p) r s).2.2.2.2.1, (wentP (nI p) r s).2.2.2.2.2.1, (wentP (nI p) r s).2.2.2.2.2.2.1, (wentP (nI p) r s).2.2.2.2.2.2.2).2.2.2.1, ((tireN κs so ti (wentP (nI p) r s)).1, (wentP (nI p) r s).2.1, (wentP (nI p) r s).2.2.1, (wentP (nI p) r s).2.2.2.1, (wentP (nI p) r s).2.2.2.2.1, (wentP (nI p) r s).2.2.2.2.2.1, (wentP (nI p) r s).2.2.2.2.2.2.1, (wentP (nI p) r s).2.2.2.2.2.2.2).2.2.2.2.1, ((tireN κs so ti (wentP (nI p) r s)).1, (wentP (nI p) r s).2.1, (wentP (nI p) r s).2.2.1, (wentP (nI p) r s).2.2.2.1, (wentP (nI p) r s).2.2.2.2.1, (wentP (nI p) r s).2.2.2.2.2.1, (wentP (nI p) r s).2.2.2.2.2.2.1, (wentP (nI p) r s).2.2.2.2.2.2.2).2.2.2.2.2.1, (s.2.2.2.2.2.2.1 + (muchN κ so sg (wentP (nI p) r s))), ((tireN κs so ti (wentP (nI p) r s)).1, (wentP (nI p) r s).2.1, (wentP (nI p) r s).2.2.1, (wentP (nI p) r s).2.2.2.1, (wentP (nI p) r s).2.2.2.2.1, (wentP (nI p) r s).2.2.2.2.2.1, (wentP (nI p) r s).2.2.2.2.2.2.1, (wentP (nI p) r s).2.2.2.2.2.2.2).2.2.2.2.2.2.2) from by unfold visP; rw [if_pos (Int32.not_lt.mp c1_44), if_pos hb60, if_pos (Int32.not_lt.mp c1_44), if_pos hb60] <;> rfl]; exact mW_upr (k := 15) (by decide) (by rfl) (row_but (by rfl) (by rfl) (by first | exact Or.inl rfl | exact Or.inr rfl) (by first | exact Or.inl rfl | exact Or.inr rfl) (by first | exact Or.inl rfl | exact Or.inr rfl) (by first | exact Or.inl rfl | exact Or.inr rfl) (by first | exact Or.inl rfl | exact Or.inr rfl) (by first | exact Or.inl rfl | exact Or.inr rfl)) j) rfl ?_
      refine V.iload dX11_visitAs_140 0 rfl ?_
      exact V.iret rfl dX11_visitAs_142 (⟨(), rfl, rfl, rfl, trivial⟩)
    · skip
      have hb60 : ¬ ((s.2.2.2.2.2.1 >>> (nI k &&& 31)) &&& 1) = 1 := fun h9 => absurd ((boolI_t (p := hasI s.2.2.2.2.2.1 k) h9).symm.trans c2_60) (by decide)
      refine V.aload_n dX11_visitAs_63 1 rfl ?_
      refine V.getf 0 7 rfl fa_X11_32_10 rfl dX11_visitAs_64 ?_
      refine V.iload_n dX11_visitAs_67 3 rfl ?_
      refine V.iald 7 rfl (vinI (by omega)) dX11_visitAs_68 ?_
      refine V.topc (v := (Pr k)) (by rw [nI_clamp (by omega)] <;> rfl) ?_
      refine V.topc (v := pr) (eP) ?_
      refine V.aload_n dX11_visitAs_69 1 rfl ?_
      refine V.getf 0 0 rfl fa_X11_7_10 rfl dX11_visitAs_70 ?_
      refine V.iload_n dX11_visitAs_73 2 rfl ?_
      refine V.bipush (v := 12) dX11_visitAs_74 (by decide) ?_
      refine V.iadd dX11_visitAs_76 ?_
      refine V.topc (v := (nI ((16 * i) + 12))) (nI_add ((16 * i)) 12) ?_
      refine V.iald 1 rfl (vinI (by omega)) dX11_visitAs_77 ?_
      refine V.topc (v := ((mW (va_up ρ i (pw, (wentP (nI p) r s)))) (((16 * i) + 12)))) (by rw [nI_clamp (by omega)] <;> rfl) ?_
      refine V.topc (v := s.2.2.2.2.1) ((mW_pu (va_up_self _ _ _)).trans rfl) ?_
      refine V.icmp_gt (tgt := 114) dX11_visitAs_78 (by decide) (fun c3_78 => ?_) (fun c3_78 => ?_)
      · skip
        refine V.aload_n dX11_visitAs_114 1 rfl ?_
        refine V.iload_n dX11_visitAs_115 2 rfl ?_
        refine V.iload_n dX11_visitAs_116 4 rfl ?_
        refine V.aload_n dX11_visitAs_117 1 rfl ?_
        refine V.getf 0 5 rfl fa_X11_26_10 rfl dX11_visitAs_118 ?_
        refine V.iload_n dX11_visitAs_121 3 rfl ?_
        refine V.iald 5 rfl (vinI (by omega)) dX11_visitAs_122 ?_
        refine V.topc (v := (So k)) (by rw [nI_clamp (by omega)] <;> rfl) ?_
        refine V.topc (v := (nI so)) (eS) ?_
        refine V.callVp (As := [.int (nI (16 * i)), .int (kindI κs), .int (nI so)]) (rest := []) [0, 1, 3] (c_M_tireAs E l L _ o mw mk mt mr mki mso mst mpr msh mwa mpu mtx mor mbo tO tVi tSm ts ma bg wr cl um mn tm ((va_up ρ i (pw, (wentP (nI p) r s)))) i pw ((wentP (nI p) r s)) Ti ti so κs (hi) (va_up_self _ _ _) (hso) (fun j9 h9 => gT_go (n := absI (nI p - s.2.1)) (s := s) (r := r) j9 h9) (hgI) (eI) (hκs)) rfl (by decide) mi_X11_tireAs 0 rfl rfl w_883 w_885 wp_20 rfl rfl (Nat.le_of_ble_eq_true rfl) ⟨by decide, by decide⟩ ⟨by decide, by decide⟩ dX11_visitAs_123 (vw2 := fun _ => [(o, ob 10 [.ref mw, .ref mk, .ref mt, .ref mr, .ref mki, .ref mso, .ref mst, .ref mpr, .ref msh, .ref mwa, .ref mpu, .ref mtx, .int ts, .int ma, .int bg, .int wr, .int cl, .int um, .ref mor, .ref mbo, .int mn, .ref tO, .ref tVi, .ref tSm, .int tm]), (mw, aI E 192 (mW (va_up (va_up ρ i (pw, (wentP (nI p) r s))) i (pw, (tireN κs so ti (wentP (nI p) r s)))))), (mr, aI E 8 Re), (mt, aI E 8 Ti), (mki, aI E 12 Ki), (mso, aI E 12 So), (mst, aI E 12 St), (mpr, aI E 12 Pr), (mwa, aI E 2 Wa)]) (st2 := fun _ => []) (fun _ => rfl) (fun _ => rfl) (fun _ => rfl) (fun _ _ => ?_)
        refine V.arrEq (vw2 := [(o, ob 10 [.ref mw, .ref mk, .ref mt, .ref mr, .ref mki, .ref mso, .ref mst, .ref mpr, .ref msh, .ref mwa, .ref mpu, .ref mtx, .int ts, .int ma, .int bg, .int wr, .int cl, .int um, .ref mor, .ref mbo, .int mn, .ref tO, .ref tVi, .ref tSm, .int tm]), (mw, aI E 192 (mW (va_up ρ i (pw, ((tireN κs so ti (wentP (nI p) r s)).1, (wentP (nI p) r s).2.1, (wentP (nI p) r s).2.2.1, (wentP (nI p) r s).2.2.2.1, (wentP (nI p) r s).2.2.2.2.1, (wentP (nI p) r s).2.2.2.2.2.1, (wentP (nI p) r s).2.2.2.2.2.2.1, (wentP (nI p) r s).2.2.2.2.2.2.2))))), (mr, aI E 8 Re), (mt, aI E 8 Ti), (mki, aI E 12 Ki), (mso, aI E 12 So), (mst, aI E 12 St), (mpr, aI E 12 Pr), (mwa, aI E 2 Wa)]) 1 0 rfl (fun j _ => mW_ups j) rfl ?_
        refine V.aload_n dX11_visitAs_126 1 rfl ?_
        refine V.getf 0 0 rfl fa_X11_7_10 rfl dX11_visitAs_127 ?_
        refine V.iload_n dX11_visitAs_130 2 rfl ?_
        refine V.bipush (v := 15) dX11_visitAs_131 (by decide) ?_
        refine V.iadd dX11_visitAs_133 ?_
        refine V.topc (v := (nI ((16 * i) + 15))) (nI_add ((16 * i)) 15) ?_
        refine V.dup2 dX11_visitAs_134 rfl rfl ?_
        refine V.iald 1 rfl (vinI (by omega)) dX11_visitAs_135 ?_
        refine V.topc (v := ((mW (va_up ρ i (pw, ((tireN κs so ti (wentP (nI p) r s)).1, (wentP (nI p) r s).2.1, (wentP (nI p) r s).2.2.1, (wentP (nI p) r s).2.2.2.1, (wentP (nI p) r s).2.2.2.2.1, (wentP (nI p) r s).2.2.2.2.2.1, (wentP (nI p) r s).2.2.2.2.2.2.1, (wentP (nI p) r s).2.2.2.2.2.2.2)))) (((16 * i) + 15)))) (by rw [nI_clamp (by omega)] <;> rfl) ?_
        refine V.topc (v := s.2.2.2.2.2.2.1) ((mW_sm (va_up_self _ _ _)).trans rfl) ?_
        refine V.iload dX11_visitAs_136 0 rfl ?_
        refine V.iadd dX11_visitAs_138 ?_
        refine V.iast (vw2 := [(o, ob 10 [.ref mw, .ref mk, .ref mt, .ref mr, .ref mki, .ref mso, .ref mst, .ref mpr, .ref msh, .ref mwa, .ref mpu, .ref mtx, .int ts, .int ma, .int bg, .int wr, .int cl, .int um, .ref mor, .ref mbo, .int mn, .ref tO, .ref tVi, .ref tSm, .int tm]), (mw, aI E 192 (upd (mW (va_up ρ i (pw, ((tireN κs so ti (wentP (nI p) r s)).1, (wentP (nI p) r s).2.1, (wentP (nI p) r s).2.2.1, (wentP (nI p) r s).2.2.2.1, (wentP (nI p) r s).2.2.2.2.1, (wentP (nI p) r s).2.2.2.2.2.1, (wentP (nI p) r s).2.2.2.2.2.2.1, (wentP (nI p) r s).2.2.2.2.2.2.2)))) ((16 * i) + 15) (s.2.2.2.2.2.2.1 + (muchN κ so sg (wentP (nI p) r s))))), (mr, aI E 8 Re), (mt, aI E 8 Ti), (mki, aI E 12 Ki), (mso, aI E 12 So), (mst, aI E 12 St), (mpr, aI E 12 Pr), (mwa, aI E 2 Wa)]) 1 rfl (vinI (by omega)) (by rw [nI_clamp (by omega)] <;> rfl) dX11_visitAs_139 ?_
        refine V.arrEq (vw2 := [(o, ob 10 [.ref mw, .ref mk, .ref mt, .ref mr, .ref mki, .ref mso, .ref mst, .ref mpr, .ref msh, .ref mwa, .ref mpu, .ref mtx, .int ts, .int ma, .int bg, .int wr, .int cl, .int um, .ref mor, .ref mbo, .int mn, .ref tO, .ref tVi, .ref tSm, .int tm]), (mw, aI E 192 (mW (va_up ρ i (pw, (visP (nI p) k κ κs so sg pr wa ti r s))))), (mr, aI E 8 Re), (mt, aI E 8 Ti), (mki, aI E 12 Ki), (mso, aI E 12 So), (mst, aI E 12 St), (mpr, aI E 12 Pr), (mwa, aI E 2 Wa)]) 1 0 rfl (fun j _ => by rw [show (visP (nI p) k κ κs so sg pr wa ti r s) = (((tireN κs so ti (wentP (nI p) r s)).1, (wentP (nI p) r s).2.1, (wentP (nI p) r s).2.2.1, (wentP (nI p) r s).2.2.2.1, (wentP (nI p) r s).2.2.2.2.1, (wentP (nI p) r s).2.2.2.2.2.1, (wentP (nI p) r s).2.2.2.2.2.2.1, (wentP (nI p) r s).2.2.2.2.2.2.2).1, ((tireN κs so ti (wentP (nI p) r s)).1, (wentP (nI p) r s).2.1, (wentP (nI p) r s).2.2.1, (wentP (nI p) r s).2.2.2.1, (wentP (nI p) r s).2.2.2.2.1, (wentP (nI p) r s).2.2.2.2.2.1, (wentP (nI p) r s).2.2.2.2.2.2.1, (wentP (nI p) r s).2.2.2.2.2.2.2).2.1, ((tireN κs so ti (wentP (nI p) r s)).1, (wentP (nI p) r s).2.1, (wentP (nI p) r s).2.2.1, (wentP (nI p) r s).2.2.2.1, (wentP (nI p) r s).2.2.2.2.1, (wentP (nI p) r s).2.2.2.2.2.1, (wentP (nI p) r s).2.2.2.2.2.2.1, (wentP (nI p) r s).2.2.2.2.2.2.2).2.2.1, ((tireN κs so ti (wentP (nI p) r s)).1, (wentP (nI p) r s).2.1, (wentP (nI p) r s).2.2.1, (wentP (nI p) r s).2.2.2.1, (wentP (nI p) r s).2.2.2.2.1, (wentP (nI p) r s).2.2.2.2.2.1, (wentP (nI p) r s).2.2.2.2.2.2.1, (wentP (nI p) r s).2.2.2.2.2.2.2).2.2.2.1, ((tireN κs so ti (wentP (nI p) r s)).1, (wentP (nI p) r s).2.1, (wentP (nI p) r s).2.2.1, (wentP (nI p) r s).2.2.2.1, (wentP (nI p) r s).2.2.2.2.1, (wentP (nI p) r s).2.2.2.2.2.1, (wentP (nI p) r s).2.2.2.2.2.2.1, (wentP (nI p) r s).2.2.2.2.2.2.2).2.2.2.2.1, ((tireN κs so ti (wentP (nI p) r s)).1, (wentP (nI p) r s).2.1, (wentP (nI p) r s).2.2.1, (wentP (nI p) r s).2.2.2.1, (wentP (nI p) r s).2.2.2.2.1, (wentP (nI p) r s).2.2.2.2.2.1, (wentP (nI p) r s).2.2.2.2.2.2.1, (wentP (nI p) r s).2.2.2.2.2.2.2).2.2.2.2.2.1, (s.2.2.2.2.2.2.1 + (muchN κ so sg (wentP (nI p) r s))), ((tireN κs so ti (wentP (nI p) r s)).1, (wentP (nI p) r s).2.1, (wentP (nI p) r s).2.2.1, (wentP (nI p) r s).2.2.2.1, (wentP (nI p) r s).2.2.2.2.1, (wentP (nI p) r s).2.2.2.2.2.1, (wentP (nI p) r s).2.2.2.2.2.2.1, (wentP (nI p) r s).2.2.2.2.2.2.2).2.2.2.2.2.2.2) from by unfold visP; rw [if_pos (Int32.not_lt.mp c1_44), if_neg hb60, if_neg (Int32.not_le.mpr c3_78), if_pos (Int32.not_lt.mp c1_44), if_neg hb60, if_neg (Int32.not_le.mpr c3_78)] <;> rfl]; exact mW_upr (k := 15) (by decide) (by rfl) (row_but (by rfl) (by rfl) (by first | exact Or.inl rfl | exact Or.inr rfl) (by first | exact Or.inl rfl | exact Or.inr rfl) (by first | exact Or.inl rfl | exact Or.inr rfl) (by first | exact Or.inl rfl | exact Or.inr rfl) (by first | exact Or.inl rfl | exact Or.inr rfl) (by first | exact Or.inl rfl | exact Or.inr rfl)) j) rfl ?_
        refine V.iload dX11_visitAs_140 0 rfl ?_
        exact V.iret rfl dX11_visitAs_142 (⟨(), rfl, rfl, rfl, trivial⟩)
      · skip
        refine V.aload_n dX11_visitAs_81 1 rfl ?_
        refine V.getf 0 0 rfl fa_X11_7_10 rfl dX11_visitAs_82 ?_
        refine V.iload_n dX11_visitAs_85 2 rfl ?_
        refine V.bipush (v := 13) dX11_visitAs_86 (by decide) ?_
        refine V.iadd dX11_visitAs_88 ?_
        refine V.topc (v := (nI ((16 * i) + 13))) (nI_add ((16 * i)) 13) ?_
        refine V.dup2 dX11_visitAs_89 rfl rfl ?_
        refine V.iald 1 rfl (vinI (by omega)) dX11_visitAs_90 ?_
        refine V.topc (v := ((mW (va_up ρ i (pw, (wentP (nI p) r s)))) (((16 * i) + 13)))) (by rw [nI_clamp (by omega)] <;> rfl) ?_
        refine V.topc (v := s.2.2.2.2.2.1) ((mW_bo (va_up_self _ _ _)).trans rfl) ?_
        refine V.iconst (v := 1) dX11_visitAs_91 (by decide) ?_
        refine V.iload_n dX11_visitAs_92 3 rfl ?_
        refine V.ishl dX11_visitAs_93 ?_
        refine V.ior dX11_visitAs_94 ?_
        refine V.iast (vw2 := [(o, ob 10 [.ref mw, .ref mk, .ref mt, .ref mr, .ref mki, .ref mso, .ref mst, .ref mpr, .ref msh, .ref mwa, .ref mpu, .ref mtx, .int ts, .int ma, .int bg, .int wr, .int cl, .int um, .ref mor, .ref mbo, .int mn, .ref tO, .ref tVi, .ref tSm, .int tm]), (mw, aI E 192 (upd (mW (va_up ρ i (pw, (wentP (nI p) r s)))) ((16 * i) + 13) (s.2.2.2.2.2.1 ||| (1 <<< ((nI k) &&& 31))))), (mr, aI E 8 Re), (mt, aI E 8 Ti), (mki, aI E 12 Ki), (mso, aI E 12 So), (mst, aI E 12 St), (mpr, aI E 12 Pr), (mwa, aI E 2 Wa)]) 1 rfl (vinI (by omega)) (by rw [nI_clamp (by omega)] <;> rfl) dX11_visitAs_95 ?_
        refine V.arrEq (vw2 := [(o, ob 10 [.ref mw, .ref mk, .ref mt, .ref mr, .ref mki, .ref mso, .ref mst, .ref mpr, .ref msh, .ref mwa, .ref mpu, .ref mtx, .int ts, .int ma, .int bg, .int wr, .int cl, .int um, .ref mor, .ref mbo, .int mn, .ref tO, .ref tVi, .ref tSm, .int tm]), (mw, aI E 192 (mW (va_up ρ i (pw, ((wentP (nI p) r s).1, (wentP (nI p) r s).2.1, (wentP (nI p) r s).2.2.1, (wentP (nI p) r s).2.2.2.1, (wentP (nI p) r s).2.2.2.2.1, (s.2.2.2.2.2.1 ||| (1 <<< (nI k &&& 31))), (wentP (nI p) r s).2.2.2.2.2.2.1, (wentP (nI p) r s).2.2.2.2.2.2.2))))), (mr, aI E 8 Re), (mt, aI E 8 Ti), (mki, aI E 12 Ki), (mso, aI E 12 So), (mst, aI E 12 St), (mpr, aI E 12 Pr), (mwa, aI E 2 Wa)]) 1 0 rfl (fun j _ => mW_upr (k := 13) (by decide) (by rfl) (row_but (by rfl) (by rfl) (by first | exact Or.inl rfl | exact Or.inr rfl) (by first | exact Or.inl rfl | exact Or.inr rfl) (by first | exact Or.inl rfl | exact Or.inr rfl) (by first | exact Or.inl rfl | exact Or.inr rfl) (by first | exact Or.inl rfl | exact Or.inr rfl) (by first | exact Or.inl rfl | exact Or.inr rfl)) j) rfl ?_
        refine V.aload_n dX11_visitAs_96 1 rfl ?_
        refine V.getf 0 0 rfl fa_X11_7_10 rfl dX11_visitAs_97 ?_
        refine V.iload_n dX11_visitAs_100 2 rfl ?_
        refine V.bipush (v := 12) dX11_visitAs_101 (by decide) ?_
        refine V.iadd dX11_visitAs_103 ?_
        refine V.topc (v := (nI ((16 * i) + 12))) (nI_add ((16 * i)) 12) ?_
        refine V.dup2 dX11_visitAs_104 rfl rfl ?_
        refine V.iald 1 rfl (vinI (by omega)) dX11_visitAs_105 ?_
        refine V.topc (v := ((mW (va_up ρ i (pw, ((wentP (nI p) r s).1, (wentP (nI p) r s).2.1, (wentP (nI p) r s).2.2.1, (wentP (nI p) r s).2.2.2.1, (wentP (nI p) r s).2.2.2.2.1, (s.2.2.2.2.2.1 ||| (1 <<< (nI k &&& 31))), (wentP (nI p) r s).2.2.2.2.2.2.1, (wentP (nI p) r s).2.2.2.2.2.2.2)))) (((16 * i) + 12)))) (by rw [nI_clamp (by omega)] <;> rfl) ?_
        refine V.topc (v := s.2.2.2.2.1) ((mW_pu (va_up_self _ _ _)).trans rfl) ?_
        refine V.aload_n dX11_visitAs_106 1 rfl ?_
        refine V.getf 0 7 rfl fa_X11_32_10 rfl dX11_visitAs_107 ?_
        refine V.iload_n dX11_visitAs_110 3 rfl ?_
        refine V.iald 7 rfl (vinI (by omega)) dX11_visitAs_111 ?_
        refine V.topc (v := (Pr k)) (by rw [nI_clamp (by omega)] <;> rfl) ?_
        refine V.topc (v := pr) (eP) ?_
        refine V.isub dX11_visitAs_112 ?_
        refine V.iast (vw2 := [(o, ob 10 [.ref mw, .ref mk, .ref mt, .ref mr, .ref mki, .ref mso, .ref mst, .ref mpr, .ref msh, .ref mwa, .ref mpu, .ref mtx, .int ts, .int ma, .int bg, .int wr, .int cl, .int um, .ref mor, .ref mbo, .int mn, .ref tO, .ref tVi, .ref tSm, .int tm]), (mw, aI E 192 (upd (mW (va_up ρ i (pw, ((wentP (nI p) r s).1, (wentP (nI p) r s).2.1, (wentP (nI p) r s).2.2.1, (wentP (nI p) r s).2.2.2.1, (wentP (nI p) r s).2.2.2.2.1, (s.2.2.2.2.2.1 ||| (1 <<< (nI k &&& 31))), (wentP (nI p) r s).2.2.2.2.2.2.1, (wentP (nI p) r s).2.2.2.2.2.2.2)))) ((16 * i) + 12) (s.2.2.2.2.1 - pr))), (mr, aI E 8 Re), (mt, aI E 8 Ti), (mki, aI E 12 Ki), (mso, aI E 12 So), (mst, aI E 12 St), (mpr, aI E 12 Pr), (mwa, aI E 2 Wa)]) 1 rfl (vinI (by omega)) (by rw [nI_clamp (by omega)] <;> rfl) dX11_visitAs_113 ?_
        refine V.arrEq (vw2 := [(o, ob 10 [.ref mw, .ref mk, .ref mt, .ref mr, .ref mki, .ref mso, .ref mst, .ref mpr, .ref msh, .ref mwa, .ref mpu, .ref mtx, .int ts, .int ma, .int bg, .int wr, .int cl, .int um, .ref mor, .ref mbo, .int mn, .ref tO, .ref tVi, .ref tSm, .int tm]), (mw, aI E 192 (mW (va_up ρ i (pw, ((wentP (nI p) r s).1, (wentP (nI p) r s).2.1, (wentP (nI p) r s).2.2.1, (wentP (nI p) r s).2.2.2.1, (s.2.2.2.2.1 - pr), (s.2.2.2.2.2.1 ||| (1 <<< (nI k &&& 31))), (wentP (nI p) r s).2.2.2.2.2.2.1, (wentP (nI p) r s).2.2.2.2.2.2.2))))), (mr, aI E 8 Re), (mt, aI E 8 Ti), (mki, aI E 12 Ki), (mso, aI E 12 So), (mst, aI E 12 St), (mpr, aI E 12 Pr), (mwa, aI E 2 Wa)]) 1 0 rfl (fun j _ => mW_upr (k := 12) (by decide) (by rfl) (row_but (by rfl) (by rfl) (by first | exact Or.inl rfl | exact Or.inr rfl) (by first | exact Or.inl rfl | exact Or.inr rfl) (by first | exact Or.inl rfl | exact Or.inr rfl) (by first | exact Or.inl rfl | exact Or.inr rfl) (by first | exact Or.inl rfl | exact Or.inr rfl) (by first | exact Or.inl rfl | exact Or.inr rfl)) j) rfl ?_
        refine V.aload_n dX11_visitAs_114 1 rfl ?_
        refine V.iload_n dX11_visitAs_115 2 rfl ?_
        refine V.iload_n dX11_visitAs_116 4 rfl ?_
        refine V.aload_n dX11_visitAs_117 1 rfl ?_
        refine V.getf 0 5 rfl fa_X11_26_10 rfl dX11_visitAs_118 ?_
        refine V.iload_n dX11_visitAs_121 3 rfl ?_
        refine V.iald 5 rfl (vinI (by omega)) dX11_visitAs_122 ?_
        refine V.topc (v := (So k)) (by rw [nI_clamp (by omega)] <;> rfl) ?_
        refine V.topc (v := (nI so)) (eS) ?_
        refine V.callVp (As := [.int (nI (16 * i)), .int (kindI κs), .int (nI so)]) (rest := []) [0, 1, 3] (c_M_tireAs E l L _ o mw mk mt mr mki mso mst mpr msh mwa mpu mtx mor mbo tO tVi tSm ts ma bg wr cl um mn tm ((va_up ρ i (pw, ((wentP (nI p) r s).1, (wentP (nI p) r s).2.1, (wentP (nI p) r s).2.2.1, (wentP (nI p) r s).2.2.2.1, (s.2.2.2.2.1 - pr), (s.2.2.2.2.2.1 ||| (1 <<< (nI k &&& 31))), (wentP (nI p) r s).2.2.2.2.2.2.1, (wentP (nI p) r s).2.2.2.2.2.2.2)))) i pw (((wentP (nI p) r s).1, (wentP (nI p) r s).2.1, (wentP (nI p) r s).2.2.1, (wentP (nI p) r s).2.2.2.1, (s.2.2.2.2.1 - pr), (s.2.2.2.2.2.1 ||| (1 <<< (nI k &&& 31))), (wentP (nI p) r s).2.2.2.2.2.2.1, (wentP (nI p) r s).2.2.2.2.2.2.2)) Ti ti so κs (hi) (va_up_self _ _ _) (hso) (fun j9 h9 => gT_go (n := absI (nI p - s.2.1)) (s := s) (r := r) j9 h9) (hgI) (eI) (hκs)) rfl (by decide) mi_X11_tireAs 0 rfl rfl w_883 w_885 wp_20 rfl rfl (Nat.le_of_ble_eq_true rfl) ⟨by decide, by decide⟩ ⟨by decide, by decide⟩ dX11_visitAs_123 (vw2 := fun _ => [(o, ob 10 [.ref mw, .ref mk, .ref mt, .ref mr, .ref mki, .ref mso, .ref mst, .ref mpr, .ref msh, .ref mwa, .ref mpu, .ref mtx, .int ts, .int ma, .int bg, .int wr, .int cl, .int um, .ref mor, .ref mbo, .int mn, .ref tO, .ref tVi, .ref tSm, .int tm]), (mw, aI E 192 (mW (va_up (va_up ρ i (pw, ((wentP (nI p) r s).1, (wentP (nI p) r s).2.1, (wentP (nI p) r s).2.2.1, (wentP (nI p) r s).2.2.2.1, (s.2.2.2.2.1 - pr), (s.2.2.2.2.2.1 ||| (1 <<< (nI k &&& 31))), (wentP (nI p) r s).2.2.2.2.2.2.1, (wentP (nI p) r s).2.2.2.2.2.2.2))) i (pw, (tireN κs so ti ((wentP (nI p) r s).1, (wentP (nI p) r s).2.1, (wentP (nI p) r s).2.2.1, (wentP (nI p) r s).2.2.2.1, (s.2.2.2.2.1 - pr), (s.2.2.2.2.2.1 ||| (1 <<< (nI k &&& 31))), (wentP (nI p) r s).2.2.2.2.2.2.1, (wentP (nI p) r s).2.2.2.2.2.2.2)))))), (mr, aI E 8 Re), (mt, aI E 8 Ti), (mki, aI E 12 Ki), (mso, aI E 12 So), (mst, aI E 12 St), (mpr, aI E 12 Pr), (mwa, aI E 2 Wa)]) (st2 := fun _ => []) (fun _ => rfl) (fun _ => rfl) (fun _ => rfl) (fun _ _ => ?_)
        refine V.arrEq (vw2 := [(o, ob 10 [.ref mw, .ref mk, .ref mt, .ref mr, .ref mki, .ref mso, .ref mst, .ref mpr, .ref msh, .ref mwa, .ref mpu, .ref mtx, .int ts, .int ma, .int bg, .int wr, .int cl, .int um, .ref mor, .ref mbo, .int mn, .ref tO, .ref tVi, .ref tSm, .int tm]), (mw, aI E 192 (mW (va_up ρ i (pw, ((tireN κs so ti (wentP (nI p) r s)).1, ((wentP (nI p) r s).1, (wentP (nI p) r s).2.1, (wentP (nI p) r s).2.2.1, (wentP (nI p) r s).2.2.2.1, (s.2.2.2.2.1 - pr), (s.2.2.2.2.2.1 ||| (1 <<< (nI k &&& 31))), (wentP (nI p) r s).2.2.2.2.2.2.1, (wentP (nI p) r s).2.2.2.2.2.2.2).2.1, ((wentP (nI p) r s).1, (wentP (nI p) r s).2.1, (wentP (nI p) r s).2.2.1, (wentP (nI p) r s).2.2.2.1, (s.2.2.2.2.1 - pr), (s.2.2.2.2.2.1 ||| (1 <<< (nI k &&& 31))), (wentP (nI p) r s).2.2.2.2.2.2.1, (wentP (nI p) r s).2.2.2.2.2.2.2).2.2.1, ((wentP (nI p) r s).1, (wentP (nI p) r s).2.1, (wentP (nI p) r s).2.2.1, (wentP (nI p) r s).2.2.2.1, (s.2.2.2.2.1 - pr), (s.2.2.2.2.2.1 ||| (1 <<< (nI k &&& 31))), (wentP (nI p) r s).2.2.2.2.2.2.1, (wentP (nI p) r s).2.2.2.2.2.2.2).2.2.2.1, ((wentP (nI p) r s).1, (wentP (nI p) r s).2.1, (wentP (nI p) r s).2.2.1, (wentP (nI p) r s).2.2.2.1, (s.2.2.2.2.1 - pr), (s.2.2.2.2.2.1 ||| (1 <<< (nI k &&& 31))), (wentP (nI p) r s).2.2.2.2.2.2.1, (wentP (nI p) r s).2.2.2.2.2.2.2).2.2.2.2.1, ((wentP (nI p) r s).1, (wentP (nI p) r s).2.1, (wentP (nI p) r s).2.2.1, (wentP (nI p) r s).2.2.2.1, (s.2.2.2.2.1 - pr), (s.2.2.2.2.2.1 ||| (1 <<< (nI k &&& 31))), (wentP (nI p) r s).2.2.2.2.2.2.1, (wentP (nI p) r s).2.2.2.2.2.2.2).2.2.2.2.2.1, ((wentP (nI p) r s).1, (wentP (nI p) r s).2.1, (wentP (nI p) r s).2.2.1, (wentP (nI p) r s).2.2.2.1, (s.2.2.2.2.1 - pr), (s.2.2.2.2.2.1 ||| (1 <<< (nI k &&& 31))), (wentP (nI p) r s).2.2.2.2.2.2.1, (wentP (nI p) r s).2.2.2.2.2.2.2).2.2.2.2.2.2.1, ((wentP (nI p) r s).1, (wentP (nI p) r s).2.1, (wentP (nI p) r s).2.2.1, (wentP (nI p) r s).2.2.2.1, (s.2.2.2.2.1 - pr), (s.2.2.2.2.2.1 ||| (1 <<< (nI k &&& 31))), (wentP (nI p) r s).2.2.2.2.2.2.1, (wentP (nI p) r s).2.2.2.2.2.2.2).2.2.2.2.2.2.2))))), (mr, aI E 8 Re), (mt, aI E 8 Ti), (mki, aI E 12 Ki), (mso, aI E 12 So), (mst, aI E 12 St), (mpr, aI E 12 Pr), (mwa, aI E 2 Wa)]) 1 0 rfl (fun j _ => mW_ups j) rfl ?_
        refine V.aload_n dX11_visitAs_126 1 rfl ?_
        refine V.getf 0 0 rfl fa_X11_7_10 rfl dX11_visitAs_127 ?_
        refine V.iload_n dX11_visitAs_130 2 rfl ?_
        refine V.bipush (v := 15) dX11_visitAs_131 (by decide) ?_
        refine V.iadd dX11_visitAs_133 ?_
        refine V.topc (v := (nI ((16 * i) + 15))) (nI_add ((16 * i)) 15) ?_
        refine V.dup2 dX11_visitAs_134 rfl rfl ?_
        refine V.iald 1 rfl (vinI (by omega)) dX11_visitAs_135 ?_
        refine V.topc (v := ((mW (va_up ρ i (pw, ((tireN κs so ti (wentP (nI p) r s)).1, ((wentP (nI p) r s).1, (wentP (nI p) r s).2.1, (wentP (nI p) r s).2.2.1, (wentP (nI p) r s).2.2.2.1, (s.2.2.2.2.1 - pr), (s.2.2.2.2.2.1 ||| (1 <<< (nI k &&& 31))), (wentP (nI p) r s).2.2.2.2.2.2.1, (wentP (nI p) r s).2.2.2.2.2.2.2).2.1, ((wentP (nI p) r s).1, (wentP (nI p) r s).2.1, (wentP (nI p) r s).2.2.1, (wentP (nI p) r s).2.2.2.1, (s.2.2.2.2.1 - pr), (s.2.2.2.2.2.1 ||| (1 <<< (nI k &&& 31))), (wentP (nI p) r s).2.2.2.2.2.2.1, (wentP (nI p) r s).2.2.2.2.2.2.2).2.2.1, ((wentP (nI p) r s).1, (wentP (nI p) r s).2.1, (wentP (nI p) r s).2.2.1, (wentP (nI p) r s).2.2.2.1, (s.2.2.2.2.1 - pr), (s.2.2.2.2.2.1 ||| (1 <<< (nI k &&& 31))), (wentP (nI p) r s).2.2.2.2.2.2.1, (wentP (nI p) r s).2.2.2.2.2.2.2).2.2.2.1, ((wentP (nI p) r s).1, (wentP (nI p) r s).2.1, (wentP (nI p) r s).2.2.1, (wentP (nI p) r s).2.2.2.1, (s.2.2.2.2.1 - pr), (s.2.2.2.2.2.1 ||| (1 <<< (nI k &&& 31))), (wentP (nI p) r s).2.2.2.2.2.2.1, (wentP (nI p) r s).2.2.2.2.2.2.2).2.2.2.2.1, ((wentP (nI p) r s).1, (wentP (nI p) r s).2.1, (wentP (nI p) r s).2.2.1, (wentP (nI p) r s).2.2.2.1, (s.2.2.2.2.1 - pr), (s.2.2.2.2.2.1 ||| (1 <<< (nI k &&& 31))), (wentP (nI p) r s).2.2.2.2.2.2.1, (wentP (nI p) r s).2.2.2.2.2.2.2).2.2.2.2.2.1, ((wentP (nI p) r s).1, (wentP (nI p) r s).2.1, (wentP (nI p) r s).2.2.1, (wentP (nI p) r s).2.2.2.1, (s.2.2.2.2.1 - pr), (s.2.2.2.2.2.1 ||| (1 <<< (nI k &&& 31))), (wentP (nI p) r s).2.2.2.2.2.2.1, (wentP (nI p) r s).2.2.2.2.2.2.2).2.2.2.2.2.2.1, ((wentP (nI p) r s).1, (wentP (nI p) r s).2.1, (wentP (nI p) r s).2.2.1, (wentP (nI p) r s).2.2.2.1, (s.2.2.2.2.1 - pr), (s.2.2.2.2.2.1 ||| (1 <<< (nI k &&& 31))), (wentP (nI p) r s).2.2.2.2.2.2.1, (wentP (nI p) r s).2.2.2.2.2.2.2).2.2.2.2.2.2.2)))) (((16 * i) + 15)))) (by rw [nI_clamp (by omega)] <;> rfl) ?_
        refine V.topc (v := s.2.2.2.2.2.2.1) ((mW_sm (va_up_self _ _ _)).trans rfl) ?_
        refine V.iload dX11_visitAs_136 0 rfl ?_
        refine V.iadd dX11_visitAs_138 ?_
        refine V.iast (vw2 := [(o, ob 10 [.ref mw, .ref mk, .ref mt, .ref mr, .ref mki, .ref mso, .ref mst, .ref mpr, .ref msh, .ref mwa, .ref mpu, .ref mtx, .int ts, .int ma, .int bg, .int wr, .int cl, .int um, .ref mor, .ref mbo, .int mn, .ref tO, .ref tVi, .ref tSm, .int tm]), (mw, aI E 192 (upd (mW (va_up ρ i (pw, ((tireN κs so ti (wentP (nI p) r s)).1, ((wentP (nI p) r s).1, (wentP (nI p) r s).2.1, (wentP (nI p) r s).2.2.1, (wentP (nI p) r s).2.2.2.1, (s.2.2.2.2.1 - pr), (s.2.2.2.2.2.1 ||| (1 <<< (nI k &&& 31))), (wentP (nI p) r s).2.2.2.2.2.2.1, (wentP (nI p) r s).2.2.2.2.2.2.2).2.1, ((wentP (nI p) r s).1, (wentP (nI p) r s).2.1, (wentP (nI p) r s).2.2.1, (wentP (nI p) r s).2.2.2.1, (s.2.2.2.2.1 - pr), (s.2.2.2.2.2.1 ||| (1 <<< (nI k &&& 31))), (wentP (nI p) r s).2.2.2.2.2.2.1, (wentP (nI p) r s).2.2.2.2.2.2.2).2.2.1, ((wentP (nI p) r s).1, (wentP (nI p) r s).2.1, (wentP (nI p) r s).2.2.1, (wentP (nI p) r s).2.2.2.1, (s.2.2.2.2.1 - pr), (s.2.2.2.2.2.1 ||| (1 <<< (nI k &&& 31))), (wentP (nI p) r s).2.2.2.2.2.2.1, (wentP (nI p) r s).2.2.2.2.2.2.2).2.2.2.1, ((wentP (nI p) r s).1, (wentP (nI p) r s).2.1, (wentP (nI p) r s).2.2.1, (wentP (nI p) r s).2.2.2.1, (s.2.2.2.2.1 - pr), (s.2.2.2.2.2.1 ||| (1 <<< (nI k &&& 31))), (wentP (nI p) r s).2.2.2.2.2.2.1, (wentP (nI p) r s).2.2.2.2.2.2.2).2.2.2.2.1, ((wentP (nI p) r s).1, (wentP (nI p) r s).2.1, (wentP (nI p) r s).2.2.1, (wentP (nI p) r s).2.2.2.1, (s.2.2.2.2.1 - pr), (s.2.2.2.2.2.1 ||| (1 <<< (nI k &&& 31))), (wentP (nI p) r s).2.2.2.2.2.2.1, (wentP (nI p) r s).2.2.2.2.2.2.2).2.2.2.2.2.1, ((wentP (nI p) r s).1, (wentP (nI p) r s).2.1, (wentP (nI p) r s).2.2.1, (wentP (nI p) r s).2.2.2.1, (s.2.2.2.2.1 - pr), (s.2.2.2.2.2.1 ||| (1 <<< (nI k &&& 31))), (wentP (nI p) r s).2.2.2.2.2.2.1, (wentP (nI p) r s).2.2.2.2.2.2.2).2.2.2.2.2.2.1, ((wentP (nI p) r s).1, (wentP (nI p) r s).2.1, (wentP (nI p) r s).2.2.1, (wentP (nI p) r s).2.2.2.1, (s.2.2.2.2.1 - pr), (s.2.2.2.2.2.1 ||| (1 <<< (nI k &&& 31))), (wentP (nI p) r s).2.2.2.2.2.2.1, (wentP (nI p) r s).2.2.2.2.2.2.2).2.2.2.2.2.2.2)))) ((16 * i) + 15) (s.2.2.2.2.2.2.1 + (muchN κ so sg (wentP (nI p) r s))))), (mr, aI E 8 Re), (mt, aI E 8 Ti), (mki, aI E 12 Ki), (mso, aI E 12 So), (mst, aI E 12 St), (mpr, aI E 12 Pr), (mwa, aI E 2 Wa)]) 1 rfl (vinI (by omega)) (by rw [nI_clamp (by omega)] <;> rfl) dX11_visitAs_139 ?_
        refine V.arrEq (vw2 := [(o, ob 10 [.ref mw, .ref mk, .ref mt, .ref mr, .ref mki, .ref mso, .ref mst, .ref mpr, .ref msh, .ref mwa, .ref mpu, .ref mtx, .int ts, .int ma, .int bg, .int wr, .int cl, .int um, .ref mor, .ref mbo, .int mn, .ref tO, .ref tVi, .ref tSm, .int tm]), (mw, aI E 192 (mW (va_up ρ i (pw, (visP (nI p) k κ κs so sg pr wa ti r s))))), (mr, aI E 8 Re), (mt, aI E 8 Ti), (mki, aI E 12 Ki), (mso, aI E 12 So), (mst, aI E 12 St), (mpr, aI E 12 Pr), (mwa, aI E 2 Wa)]) 1 0 rfl (fun j _ => by rw [show (visP (nI p) k κ κs so sg pr wa ti r s) = (((tireN κs so ti (wentP (nI p) r s)).1, ((wentP (nI p) r s).1, (wentP (nI p) r s).2.1, (wentP (nI p) r s).2.2.1, (wentP (nI p) r s).2.2.2.1, (s.2.2.2.2.1 - pr), (s.2.2.2.2.2.1 ||| (1 <<< (nI k &&& 31))), (wentP (nI p) r s).2.2.2.2.2.2.1, (wentP (nI p) r s).2.2.2.2.2.2.2).2.1, ((wentP (nI p) r s).1, (wentP (nI p) r s).2.1, (wentP (nI p) r s).2.2.1, (wentP (nI p) r s).2.2.2.1, (s.2.2.2.2.1 - pr), (s.2.2.2.2.2.1 ||| (1 <<< (nI k &&& 31))), (wentP (nI p) r s).2.2.2.2.2.2.1, (wentP (nI p) r s).2.2.2.2.2.2.2).2.2.1, ((wentP (nI p) r s).1, (wentP (nI p) r s).2.1, (wentP (nI p) r s).2.2.1, (wentP (nI p) r s).2.2.2.1, (s.2.2.2.2.1 - pr), (s.2.2.2.2.2.1 ||| (1 <<< (nI k &&& 31))), (wentP (nI p) r s).2.2.2.2.2.2.1, (wentP (nI p) r s).2.2.2.2.2.2.2).2.2.2.1, ((wentP (nI p) r s).1, (wentP (nI p) r s).2.1, (wentP (nI p) r s).2.2.1, (wentP (nI p) r s).2.2.2.1, (s.2.2.2.2.1 - pr), (s.2.2.2.2.2.1 ||| (1 <<< (nI k &&& 31))), (wentP (nI p) r s).2.2.2.2.2.2.1, (wentP (nI p) r s).2.2.2.2.2.2.2).2.2.2.2.1, ((wentP (nI p) r s).1, (wentP (nI p) r s).2.1, (wentP (nI p) r s).2.2.1, (wentP (nI p) r s).2.2.2.1, (s.2.2.2.2.1 - pr), (s.2.2.2.2.2.1 ||| (1 <<< (nI k &&& 31))), (wentP (nI p) r s).2.2.2.2.2.2.1, (wentP (nI p) r s).2.2.2.2.2.2.2).2.2.2.2.2.1, ((wentP (nI p) r s).1, (wentP (nI p) r s).2.1, (wentP (nI p) r s).2.2.1, (wentP (nI p) r s).2.2.2.1, (s.2.2.2.2.1 - pr), (s.2.2.2.2.2.1 ||| (1 <<< (nI k &&& 31))), (wentP (nI p) r s).2.2.2.2.2.2.1, (wentP (nI p) r s).2.2.2.2.2.2.2).2.2.2.2.2.2.1, ((wentP (nI p) r s).1, (wentP (nI p) r s).2.1, (wentP (nI p) r s).2.2.1, (wentP (nI p) r s).2.2.2.1, (s.2.2.2.2.1 - pr), (s.2.2.2.2.2.1 ||| (1 <<< (nI k &&& 31))), (wentP (nI p) r s).2.2.2.2.2.2.1, (wentP (nI p) r s).2.2.2.2.2.2.2).2.2.2.2.2.2.2).1, ((tireN κs so ti (wentP (nI p) r s)).1, ((wentP (nI p) r s).1, (wentP (nI p) r s).2.1, (wentP (nI p) r s).2.2.1, (wentP (nI p) r s).2.2.2.1, (s.2.2.2.2.1 - pr), (s.2.2.2.2.2.1 ||| (1 <<< (nI k &&& 31))), (wentP (nI p) r s).2.2.2.2.2.2.1, (wentP (nI p) r s).2.2.2.2.2.2.2).2.1, ((wentP (nI p) r s).1, (wentP (nI p) r s).2.1, (wentP (nI p) r s).2.2.1, (wentP (nI p) r s).2.2.2.1, (s.2.2.2.2.1 - pr), (s.2.2.2.2.2.1 ||| (1 <<< (nI k &&& 31))), (wentP (nI p) r s).2.2.2.2.2.2.1, (wentP (nI p) r s).2.2.2.2.2.2.2).2.2.1, ((wentP (nI p) r s).1, (wentP (nI p) r s).2.1, (wentP (nI p) r s).2.2.1, (wentP (nI p) r s).2.2.2.1, (s.2.2.2.2.1 - pr), (s.2.2.2.2.2.1 ||| (1 <<< (nI k &&& 31))), (wentP (nI p) r s).2.2.2.2.2.2.1, (wentP (nI p) r s).2.2.2.2.2.2.2).2.2.2.1, ((wentP (nI p) r s).1, (wentP (nI p) r s).2.1, (wentP (nI p) r s).2.2.1, (wentP (nI p) r s).2.2.2.1, (s.2.2.2.2.1 - pr), (s.2.2.2.2.2.1 ||| (1 <<< (nI k &&& 31))), (wentP (nI p) r s).2.2.2.2.2.2.1, (wentP (nI p) r s).2.2.2.2.2.2.2).2.2.2.2.1, ((wentP (nI p) r s).1, (wentP (nI p) r s).2.1, (wentP (nI p) r s).2.2.1, (wentP (nI p) r s).2.2.2.1, (s.2.2.2.2.1 - pr), (s.2.2.2.2.2.1 ||| (1 <<< (nI k &&& 31))), (wentP (nI p) r s).2.2.2.2.2.2.1, (wentP (nI p) r s).2.2.2.2.2.2.2).2.2.2.2.2.1, ((wentP (nI p) r s).1, (wentP (nI p) r s).2.1, (wentP (nI p) r s).2.2.1, (wentP (nI p) r s).2.2.2.1, (s.2.2.2.2.1 - pr), (s.2.2.2.2.2.1 ||| (1 <<< (nI k &&& 31))), (wentP (nI p) r s).2.2.2.2.2.2.1, (wentP (nI p) r s).2.2.2.2.2.2.2).2.2.2.2.2.2.1, ((wentP (nI p) r s).1, (wentP (nI p) r s).2.1, (wentP (nI p) r s).2.2.1, (wentP (nI p) r s).2.2.2.1, (s.2.2.2.2.1 - pr), (s.2.2.2.2.2.1 ||| (1 <<< (nI k &&& 31))), (wentP (nI p) r s).2.2.2.2.2.2.1, (wentP (nI p) r s).2.2.2.2.2.2.2).2.2.2.2.2.2.2).2.1, ((tireN κs so ti (wentP (nI p) r s)).1, ((wentP (nI p) r s).1, (wentP (nI p) r s).2.1, (wentP (nI p) r s).2.2.1, (wentP (nI p) r s).2.2.2.1, (s.2.2.2.2.1 - pr), (s.2.2.2.2.2.1 ||| (1 <<< (nI k &&& 31))), (wentP (nI p) r s).2.2.2.2.2.2.1, (wentP (nI p) r s).2.2.2.2.2.2.2).2.1, ((wentP (nI p) r s).1, (wentP (nI p) r s).2.1, (wentP (nI p) r s).2.2.1, (wentP (nI p) r s).2.2.2.1, (s.2.2.2.2.1 - pr), (s.2.2.2.2.2.1 ||| (1 <<< (nI k &&& 31))), (wentP (nI p) r s).2.2.2.2.2.2.1, (wentP (nI p) r s).2.2.2.2.2.2.2).2.2.1, ((wentP (nI p) r s).1, (wentP (nI p) r s).2.1, (wentP (nI p) r s).2.2.1, (wentP (nI p) r s).2.2.2.1, (s.2.2.2.2.1 - pr), (s.2.2.2.2.2.1 ||| (1 <<< (nI k &&& 31))), (wentP (nI p) r s).2.2.2.2.2.2.1, (wentP (nI p) r s).2.2.2.2.2.2.2).2.2.2.1, ((wentP (nI p) r s).1, (wentP (nI p) r s).2.1, (wentP (nI p) r s).2.2.1, (wentP (nI p) r s).2.2.2.1, (s.2.2.2.2.1 - pr), (s.2.2.2.2.2.1 ||| (1 <<< (nI k &&& 31))), (wentP (nI p) r s).2.2.2.2.2.2.1, (wentP (nI p) r s).2.2.2.2.2.2.2).2.2.2.2.1, ((wentP (nI p) r s).1, (wentP (nI p) r s).2.1, (wentP (nI p) r s).2.2.1, (wentP (nI p) r s).2.2.2.1, (s.2.2.2.2.1 - pr), (s.2.2.2.2.2.1 ||| (1 <<< (nI k &&& 31))), (wentP (nI p) r s).2.2.2.2.2.2.1, (wentP (nI p) r s).2.2.2.2.2.2.2).2.2.2.2.2.1, ((wentP (nI p) r s).1, (wentP (nI p) r s).2.1, (wentP (nI p) r s).2.2.1, (wentP (nI p) r s).2.2.2.1, (s.2.2.2.2.1 - pr), (s.2.2.2.2.2.1 ||| (1 <<< (nI k &&& 31))), (wentP (nI p) r s).2.2.2.2.2.2.1, (wentP (nI p) r s).2.2.2.2.2.2.2).2.2.2.2.2.2.1, ((wentP (nI p) r s).1, (wentP (nI p) r s).2.1, (wentP (nI p) r s).2.2.1, (wentP (nI p) r s).2.2.2.1, (s.2.2.2.2.1 - pr), (s.2.2.2.2.2.1 ||| (1 <<< (nI k &&& 31))), (wentP (nI p) r s).2.2.2.2.2.2.1, (wentP (nI p) r s).2.2.2.2.2.2.2).2.2.2.2.2.2.2).2.2.1, ((tireN κs so ti (wentP (nI p) r s)).1, ((wentP (nI p) r s).1, (wentP (nI p) r s).2.1, (wentP (nI p) r s).2.2.1, (wentP (nI p) r s).2.2.2.1, (s.2.2.2.2.1 - pr), (s.2.2.2.2.2.1 ||| (1 <<< (nI k &&& 31))), (wentP (nI p) r s).2.2.2.2.2.2.1, (wentP (nI p) r s).2.2.2.2.2.2.2).2.1, ((wentP (nI p) r s).1, (wentP (nI p) r s).2.1, (wentP (nI p) r s).2.2.1, (wentP (nI p) r s).2.2.2.1, (s.2.2.2.2.1 - pr), (s.2.2.2.2.2.1 ||| (1 <<< (nI k &&& 31))), (wentP (nI p) r s).2.2.2.2.2.2.1, (wentP (nI p) r s).2.2.2.2.2.2.2).2.2.1, ((wentP (nI p) r s).1, (wentP (nI p) r s).2.1, (wentP (nI p) r s).2.2.1, (wentP (nI p) r s).2.2.2.1, (s.2.2.2.2.1 - pr), (s.2.2.2.2.2.1 ||| (1 <<< (nI k &&& 31))), (wentP (nI p) r s).2.2.2.2.2.2.1, (wentP (nI p) r s).2.2.2.2.2.2.2).2.2.2.1, ((wentP (nI p) r s).1, (wentP (nI p) r s).2.1, (wentP (nI p) r s).2.2.1, (wentP (nI p) r s).2.2.2.1, (s.2.2.2.2.1 - pr), (s.2.2.2.2.2.1 ||| (1 <<< (nI k &&& 31))), (wentP (nI p) r s).2.2.2.2.2.2.1, (wentP (nI p) r s).2.2.2.2.2.2.2).2.2.2.2.1, ((wentP (nI p) r s).1, (wentP (nI p) r s).2.1, (wentP (nI p) r s).2.2.1, (wentP (nI p) r s).2.2.2.1, (s.2.2.2.2.1 - pr), (s.2.2.2.2.2.1 ||| (1 <<< (nI k &&& 31))), (wentP (nI p) r s).2.2.2.2.2.2.1, (wentP (nI p) r s).2.2.2.2.2.2.2).2.2.2.2.2.1, ((wentP (nI p) r s).1, (wentP (nI p) r s).2.1, (wentP (nI p) r s).2.2.1, (wentP (nI p) r s).2.2.2.1, (s.2.2.2.2.1 - pr), (s.2.2.2.2.2.1 ||| (1 <<< (nI k &&& 31))), (wentP (nI p) r s).2.2.2.2.2.2.1, (wentP (nI p) r s).2.2.2.2.2.2.2).2.2.2.2.2.2.1, ((wentP (nI p) r s).1, (wentP (nI p) r s).2.1, (wentP (nI p) r s).2.2.1, (wentP (nI p) r s).2.2.2.1, (s.2.2.2.2.1 - pr), (s.2.2.2.2.2.1 ||| (1 <<< (nI k &&& 31))), (wentP (nI p) r s).2.2.2.2.2.2.1, (wentP (nI p) r s).2.2.2.2.2.2.2).2.2.2.2.2.2.2).2.2.2.1, ((tireN κs so ti (wentP (nI p) r s)).1, ((wentP (nI p) r s).1, (wentP (nI p) r s).2.1, (wentP (nI p) r s).2.2.1, (wentP (nI p) r s).2.2.2.1, (s.2.2.2.2.1 - pr), (s.2.2.2.2.2.1 ||| (1 <<< (nI k &&& 31))), (wentP (nI p) r s).2.2.2.2.2.2.1, (wentP (nI p) r s).2.2.2.2.2.2.2).2.1, ((wentP (nI p) r s).1, (wentP (nI p) r s).2.1, (wentP (nI p) r s).2.2.1, (wentP (nI p) r s).2.2.2.1, (s.2.2.2.2.1 - pr), (s.2.2.2.2.2.1 ||| (1 <<< (nI k &&& 31))), (wentP (nI p) r s).2.2.2.2.2.2.1, (wentP (nI p) r s).2.2.2.2.2.2.2).2.2.1, ((wentP (nI p) r s).1, (wentP (nI p) r s).2.1, (wentP (nI p) r s).2.2.1, (wentP (nI p) r s).2.2.2.1, (s.2.2.2.2.1 - pr), (s.2.2.2.2.2.1 ||| (1 <<< (nI k &&& 31))), (wentP (nI p) r s).2.2.2.2.2.2.1, (wentP (nI p) r s).2.2.2.2.2.2.2).2.2.2.1, ((wentP (nI p) r s).1, (wentP (nI p) r s).2.1, (wentP (nI p) r s).2.2.1, (wentP (nI p) r s).2.2.2.1, (s.2.2.2.2.1 - pr), (s.2.2.2.2.2.1 ||| (1 <<< (nI k &&& 31))), (wentP (nI p) r s).2.2.2.2.2.2.1, (wentP (nI p) r s).2.2.2.2.2.2.2).2.2.2.2.1, ((wentP (nI p) r s).1, (wentP (nI p) r s).2.1, (wentP (nI p) r s).2.2.1, (wentP (nI p) r s).2.2.2.1, (s.2.2.2.2.1 - pr), (s.2.2.2.2.2.1 ||| (1 <<< (nI k &&& 31))), (wentP (nI p) r s).2.2.2.2.2.2.1, (wentP (nI p) r s).2.2.2.2.2.2.2).2.2.2.2.2.1, ((wentP (nI p) r s).1, (wentP (nI p) r s).2.1, (wentP (nI p) r s).2.2.1, (wentP (nI p) r s).2.2.2.1, (s.2.2.2.2.1 - pr), (s.2.2.2.2.2.1 ||| (1 <<< (nI k &&& 31))), (wentP (nI p) r s).2.2.2.2.2.2.1, (wentP (nI p) r s).2.2.2.2.2.2.2).2.2.2.2.2.2.1, ((wentP (nI p) r s).1, (wentP (nI p) r s).2.1, (wentP (nI p) r s).2.2.1, (wentP (nI p) r s).2.2.2.1, (s.2.2.2.2.1 - pr), (s.2.2.2.2.2.1 ||| (1 <<< (nI k &&& 31))), (wentP (nI p) r s).2.2.2.2.2.2.1, (wentP (nI p) r s).2.2.2.2.2.2.2).2.2.2.2.2.2.2).2.2.2.2.1, ((tireN κs so ti (wentP (nI p) r s)).1, ((wentP (nI p) r s).1, (wentP (nI p) r s).2.1, (wentP (nI p) r s).2.2.1, (wentP (nI p) r s).2.2.2.1, (s.2.2.2.2.1 - pr), (s.2.2.2.2.2.1 ||| (1 <<< (nI k &&& 31))), (wentP (nI p) r s).2.2.2.2.2.2.1, (wentP (nI p) r s).2.2.2.2.2.2.2).2.1, ((wentP (nI p) r s).1, (wentP (nI p) r s).2.1, (wentP (nI p) r s).2.2.1, (wentP (nI p) r s).2.2.2.1, (s.2.2.2.2.1 - pr), (s.2.2.2.2.2.1 ||| (1 <<< (nI k &&& 31))), (wentP (nI p) r s).2.2.2.2.2.2.1, (wentP (nI p) r s).2.2.2.2.2.2.2).2.2.1, ((wentP (nI p) r s).1, (wentP (nI p) r s).2.1, (wentP (nI p) r s).2.2.1, (wentP (nI p) r s).2.2.2.1, (s.2.2.2.2.1 - pr), (s.2.2.2.2.2.1 ||| (1 <<< (nI k &&& 31))), (wentP (nI p) r s).2.2.2.2.2.2.1, (wentP (nI p) r s).2.2.2.2.2.2.2).2.2.2.1, ((wentP (nI p) r s).1, (wentP (nI p) r s).2.1, (wentP (nI p) r s).2.2.1, (wentP (nI p) r s).2.2.2.1, (s.2.2.2.2.1 - pr), (s.2.2.2.2.2.1 ||| (1 <<< (nI k &&& 31))), (wentP (nI p) r s).2.2.2.2.2.2.1, (wentP (nI p) r s).2.2.2.2.2.2.2).2.2.2.2.1, ((wentP (nI p) r s).1, (wentP (nI p) r s).2.1, (wentP (nI p) r s).2.2.1, (wentP (nI p) r s).2.2.2.1, (s.2.2.2.2.1 - pr), (s.2.2.2.2.2.1 ||| (1 <<< (nI k &&& 31))), (wentP (nI p) r s).2.2.2.2.2.2.1, (wentP (nI p) r s).2.2.2.2.2.2.2).2.2.2.2.2.1, ((wentP (nI p) r s).1, (wentP (nI p) r s).2.1, (wentP (nI p) r s).2.2.1, (wentP (nI p) r s).2.2.2.1, (s.2.2.2.2.1 - pr), (s.2.2.2.2.2.1 ||| (1 <<< (nI k &&& 31))), (wentP (nI p) r s).2.2.2.2.2.2.1, (wentP (nI p) r s).2.2.2.2.2.2.2).2.2.2.2.2.2.1, ((wentP (nI p) r s).1, (wentP (nI p) r s).2.1, (wentP (nI p) r s).2.2.1, (wentP (nI p) r s).2.2.2.1, (s.2.2.2.2.1 - pr), (s.2.2.2.2.2.1 ||| (1 <<< (nI k &&& 31))), (wentP (nI p) r s).2.2.2.2.2.2.1, (wentP (nI p) r s).2.2.2.2.2.2.2).2.2.2.2.2.2.2).2.2.2.2.2.1, (s.2.2.2.2.2.2.1 + (muchN κ so sg (wentP (nI p) r s))), ((tireN κs so ti (wentP (nI p) r s)).1, ((wentP (nI p) r s).1, (wentP (nI p) r s).2.1, (wentP (nI p) r s).2.2.1, (wentP (nI p) r s).2.2.2.1, (s.2.2.2.2.1 - pr), (s.2.2.2.2.2.1 ||| (1 <<< (nI k &&& 31))), (wentP (nI p) r s).2.2.2.2.2.2.1, (wentP (nI p) r s).2.2.2.2.2.2.2).2.1, ((wentP (nI p) r s).1, (wentP (nI p) r s).2.1, (wentP (nI p) r s).2.2.1, (wentP (nI p) r s).2.2.2.1, (s.2.2.2.2.1 - pr), (s.2.2.2.2.2.1 ||| (1 <<< (nI k &&& 31))), (wentP (nI p) r s).2.2.2.2.2.2.1, (wentP (nI p) r s).2.2.2.2.2.2.2).2.2.1, ((wentP (nI p) r s).1, (wentP (nI p) r s).2.1, (wentP (nI p) r s).2.2.1, (wentP (nI p) r s).2.2.2.1, (s.2.2.2.2.1 - pr), (s.2.2.2.2.2.1 ||| (1 <<< (nI k &&& 31))), (wentP (nI p) r s).2.2.2.2.2.2.1, (wentP (nI p) r s).2.2.2.2.2.2.2).2.2.2.1, ((wentP (nI p) r s).1, (wentP (nI p) r s).2.1, (wentP (nI p) r s).2.2.1, (wentP (nI p) r s).2.2.2.1, (s.2.2.2.2.1 - pr), (s.2.2.2.2.2.1 ||| (1 <<< (nI k &&& 31))), (wentP (nI p) r s).2.2.2.2.2.2.1, (wentP (nI p) r s).2.2.2.2.2.2.2).2.2.2.2.1, ((wentP (nI p) r s).1, (wentP (nI p) r s).2.1, (wentP (nI p) r s).2.2.1, (wentP (nI p) r s).2.2.2.1, (s.2.2.2.2.1 - pr), (s.2.2.2.2.2.1 ||| (1 <<< (nI k &&& 31))), (wentP (nI p) r s).2.2.2.2.2.2.1, (wentP (nI p) r s).2.2.2.2.2.2.2).2.2.2.2.2.1, ((wentP (nI p) r s).1, (wentP (nI p) r s).2.1, (wentP (nI p) r s).2.2.1, (wentP (nI p) r s).2.2.2.1, (s.2.2.2.2.1 - pr), (s.2.2.2.2.2.1 ||| (1 <<< (nI k &&& 31))), (wentP (nI p) r s).2.2.2.2.2.2.1, (wentP (nI p) r s).2.2.2.2.2.2.2).2.2.2.2.2.2.1, ((wentP (nI p) r s).1, (wentP (nI p) r s).2.1, (wentP (nI p) r s).2.2.1, (wentP (nI p) r s).2.2.2.1, (s.2.2.2.2.1 - pr), (s.2.2.2.2.2.1 ||| (1 <<< (nI k &&& 31))), (wentP (nI p) r s).2.2.2.2.2.2.1, (wentP (nI p) r s).2.2.2.2.2.2.2).2.2.2.2.2.2.2).2.2.2.2.2.2.2) from by unfold visP; rw [if_pos (Int32.not_lt.mp c1_44), if_neg hb60, if_pos (Int32.not_lt.mp c3_78), if_pos (Int32.not_lt.mp c1_44), if_neg hb60, if_pos (Int32.not_lt.mp c3_78)] <;> rfl]; exact mW_upr (k := 15) (by decide) (by rfl) (row_but (by rfl) (by rfl) (by first | exact Or.inl rfl | exact Or.inr rfl) (by first | exact Or.inl rfl | exact Or.inr rfl) (by first | exact Or.inl rfl | exact Or.inr rfl) (by first | exact Or.inl rfl | exact Or.inr rfl) (by first | exact Or.inl rfl | exact Or.inr rfl) (by first | exact Or.inl rfl | exact Or.inr rfl)) j) rfl ?_
        refine V.iload dX11_visitAs_140 0 rfl ?_
        exact V.iret rfl dX11_visitAs_142 (⟨(), rfl, rfl, rfl, trivial⟩)
