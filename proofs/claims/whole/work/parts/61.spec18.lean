/-! numbers of a clause, one after another -/
def nsR (x : Nat ⊕ (Nat × List Int32)) (zs : List Int32) (ap bg wr : Int32) : Prop := match x with
  | .inl p => wr = 1 ∧ bg = nI p
  | .inr q => wr = 0 ∧ ap = nI q.1 ∧ q.2 = zs
section
variable {F : Nat → Int32} {n w t : Nat} {zs : List Int32} {ap bg : Int32}
def numT (F : Nat → Int32) (n t : Nat) : Int32 := numW F (frT F n t) (teT F n t)
theorem ns_bad {r i : Nat} {bg : Int32} (h : withinI (numT F n t) (lowW w i) (topW w i) = 0) (hb : bg = nI (frT F n t)) : nsR (numsG F n w (r + 1) i t) zs ap bg 1 := by
  rw [numsG, if_neg (by rw [show numW F (frT F n t) (teT F n t) = numT F n t from rfl, h]; decide)]
  exact ⟨rfl, hb⟩
theorem ns_ok {r i : Nat} {wr : Int32} (h : withinI (numT F n t) (lowW w i) (topW w i) = 1) (k : nsR (numsG F n w r (i + 1) (teT F n t)) zs ap bg wr) : nsR (numsG F n w (r + 1) i t) (numT F n t :: zs) ap bg wr := by
  rw [numsG, if_pos (show withinI (numW F (frT F n t) (teT F n t)) (lowW w i) (topW w i) = 1 from h)]
  cases hx : numsG F n w r (i + 1) (teT F n t) with
  | inl p =>
    rw [hx] at k
    exact k
  | inr q =>
    rw [hx] at k
    obtain ⟨k1, k2, k3⟩ := k
    exact ⟨k1, k2, by rw [← k3]; rfl⟩
theorem ns_nil {i : Nat} : nsR (numsG F n w 0 i t) [] (nI t) bg 0 := ⟨rfl, rfl, rfl⟩
end
theorem nsR_bad {x : Nat ⊕ (Nat × List Int32)} {zs zs2 : List Int32} {ap ap2 bg : Int32} (h : nsR x zs ap bg 1) : nsR x zs2 ap2 bg 1 := by
  cases x with
  | inl p => exact h
  | inr q => exact absurd h.1 (by decide)
section
variable {F : Nat → Int32} {n t : Nat} {zs : List Int32} {ap bg : Int32}
theorem ns3_0 : True := trivial
theorem ns_shop_0 (h0 : withinI (numT F n t) (nI 0) 3 = 0) : nsR (numsG F n 2 3 0 t) zs ap (nI (frT F n t)) 1 := nsR_bad (ns_bad (w := 2) (r := 2) (i := 0) (t := t) (zs := []) (ap := 0) h0 rfl)
theorem ns_shop_1 (h0 : withinI (numT F n t) (nI 0) 3 = 1) (h1 : withinI (numT F n (teT F n t)) (nI 1) 30 = 0) : nsR (numsG F n 2 3 0 t) zs ap (nI (frT F n (teT F n t))) 1 := nsR_bad (ns_ok (w := 2) (r := 2) (i := 0) (t := t) h0 (ns_bad (w := 2) (r := 1) (i := 1) (t := (teT F n t)) (zs := []) (ap := 0) h1 rfl))
theorem ns_shop_2 (h0 : withinI (numT F n t) (nI 0) 3 = 1) (h1 : withinI (numT F n (teT F n t)) (nI 1) 30 = 1) (h2 : withinI (numT F n (teT F n (teT F n t))) (nI 0) 50 = 0) : nsR (numsG F n 2 3 0 t) zs ap (nI (frT F n (teT F n (teT F n t)))) 1 := nsR_bad (ns_ok (w := 2) (r := 2) (i := 0) (t := t) h0 (ns_ok (w := 2) (r := 1) (i := 1) (t := (teT F n t)) h1 (ns_bad (w := 2) (r := 0) (i := 2) (t := (teT F n (teT F n t))) (zs := []) (ap := 0) h2 rfl)))
theorem ns_shop_3 (h0 : withinI (numT F n t) (nI 0) 3 = 1) (h1 : withinI (numT F n (teT F n t)) (nI 1) 30 = 1) (h2 : withinI (numT F n (teT F n (teT F n t))) (nI 0) 50 = 1) : nsR (numsG F n 2 3 0 t) [numT F n t, numT F n (teT F n t), numT F n (teT F n (teT F n t))] (nI (teT F n (teT F n (teT F n t)))) bg 0 := ns_ok (w := 2) (r := 2) (i := 0) (t := t) h0 (ns_ok (w := 2) (r := 1) (i := 1) (t := (teT F n t)) h1 (ns_ok (w := 2) (r := 0) (i := 2) (t := (teT F n (teT F n t))) h2 (ns_nil (w := 2) (i := 3) (t := (teT F n (teT F n (teT F n t)))))))
theorem ns_sort_0 (h0 : withinI (numT F n t) (nI 0) 3 = 0) : nsR (numsG F n 1 3 0 t) zs ap (nI (frT F n t)) 1 := nsR_bad (ns_bad (w := 1) (r := 2) (i := 0) (t := t) (zs := []) (ap := 0) h0 rfl)
theorem ns_sort_1 (h0 : withinI (numT F n t) (nI 0) 3 = 1) (h1 : withinI (numT F n (teT F n t)) (nI 0) 9 = 0) : nsR (numsG F n 1 3 0 t) zs ap (nI (frT F n (teT F n t))) 1 := nsR_bad (ns_ok (w := 1) (r := 2) (i := 0) (t := t) h0 (ns_bad (w := 1) (r := 1) (i := 1) (t := (teT F n t)) (zs := []) (ap := 0) h1 rfl))
theorem ns_sort_2 (h0 : withinI (numT F n t) (nI 0) 3 = 1) (h1 : withinI (numT F n (teT F n t)) (nI 0) 9 = 1) (h2 : withinI (numT F n (teT F n (teT F n t))) (nI 0) 5 = 0) : nsR (numsG F n 1 3 0 t) zs ap (nI (frT F n (teT F n (teT F n t)))) 1 := nsR_bad (ns_ok (w := 1) (r := 2) (i := 0) (t := t) h0 (ns_ok (w := 1) (r := 1) (i := 1) (t := (teT F n t)) h1 (ns_bad (w := 1) (r := 0) (i := 2) (t := (teT F n (teT F n t))) (zs := []) (ap := 0) h2 rfl)))
theorem ns_sort_3 (h0 : withinI (numT F n t) (nI 0) 3 = 1) (h1 : withinI (numT F n (teT F n t)) (nI 0) 9 = 1) (h2 : withinI (numT F n (teT F n (teT F n t))) (nI 0) 5 = 1) : nsR (numsG F n 1 3 0 t) [numT F n t, numT F n (teT F n t), numT F n (teT F n (teT F n t))] (nI (teT F n (teT F n (teT F n t)))) bg 0 := ns_ok (w := 1) (r := 2) (i := 0) (t := t) h0 (ns_ok (w := 1) (r := 1) (i := 1) (t := (teT F n t)) h1 (ns_ok (w := 1) (r := 0) (i := 2) (t := (teT F n (teT F n t))) h2 (ns_nil (w := 1) (i := 3) (t := (teT F n (teT F n (teT F n t)))))))
theorem ns_want_0 (h0 : withinI (numT F n t) (nI 1) 30 = 0) : nsR (numsG F n 6 1 0 t) zs ap (nI (frT F n t)) 1 := nsR_bad (ns_bad (w := 6) (r := 0) (i := 0) (t := t) (zs := []) (ap := 0) h0 rfl)
theorem ns_want_1 (h0 : withinI (numT F n t) (nI 1) 30 = 1) : nsR (numsG F n 6 1 0 t) [numT F n t] (nI (teT F n t)) bg 0 := ns_ok (w := 6) (r := 0) (i := 0) (t := t) h0 (ns_nil (w := 6) (i := 1) (t := (teT F n t)))
theorem ns_purse_0 (h0 : withinI (numT F n t) (nI 0) 99 = 0) : nsR (numsG F n 7 1 0 t) zs ap (nI (frT F n t)) 1 := nsR_bad (ns_bad (w := 7) (r := 0) (i := 0) (t := t) (zs := []) (ap := 0) h0 rfl)
theorem ns_purse_1 (h0 : withinI (numT F n t) (nI 0) 99 = 1) : nsR (numsG F n 7 1 0 t) [numT F n t] (nI (teT F n t)) bg 0 := ns_ok (w := 7) (r := 0) (i := 0) (t := t) h0 (ns_nil (w := 7) (i := 1) (t := (teT F n t)))
end
theorem low2 : ∀ w, w < 6 → 2 ≤ w → ∀ i, i < 3 → lowW w i = lowW 2 i ∧ topW w i = topW 2 i := by decide +kernel
theorem numsG_shop {F : Nat → Int32} {n w : Nat} (h1 : 2 ≤ w) (h2 : w < 6) : ∀ r i t, i + r ≤ 3 → numsG F n w r i t = numsG F n 2 r i t
  | 0, _, _, _ => rfl
  | r + 1, i, t, h => by
    obtain ⟨e1, e2⟩ := low2 w h2 h1 i (by omega)
    rw [numsG, numsG, e1, e2, numsG_shop h1 h2 r (i + 1) _ (by omega)]
/-! the model's two halves -/
abbrev MAR : Type := (Nat → Int32) × (Nat → Int32) × (Nat → Int32) × (Nat → Int32) × (Nat → Int32) × (Nat → Int32) × (Nat → Int32) × (Nat → Int32) × (Nat → Int32)
def MH1 (A B : MAR) : Prop := (∀ j, j < 4 → B.1 j = A.1 j) ∧ (∀ j, j < 4 → B.2.1 j = A.2.1 j) ∧ (∀ j, j < 6 → B.2.2.1 j = A.2.2.1 j) ∧ (∀ j, j < 6 → B.2.2.2.1 j = A.2.2.2.1 j) ∧ (∀ j, j < 6 → B.2.2.2.2.1 j = A.2.2.2.2.1 j) ∧ (∀ j, j < 6 → B.2.2.2.2.2.1 j = A.2.2.2.2.2.1 j) ∧ B.2.2.2.2.2.2.1 0 = A.2.2.2.2.2.2.1 0 ∧ B.2.2.2.2.2.2.2.1 0 = A.2.2.2.2.2.2.2.1 0 ∧ B.2.2.2.2.2.2.2.2 0 = A.2.2.2.2.2.2.2.2 0
def MH2 (A : MAR) (s : LST) : Prop := (∀ j, j < 4 → A.1 (4 + j) = s.1 j) ∧ (∀ j, j < 4 → A.2.1 (4 + j) = s.2.1 j) ∧ (∀ k, k < s.2.2.1 → A.2.2.1 (6 + k) = kindI (s.2.2.2.2.2 k).1 ∧ A.2.2.2.1 (6 + k) = nI (s.2.2.2.2.2 k).2.1 ∧ A.2.2.2.2.1 (6 + k) = (s.2.2.2.2.2 k).2.2.1 ∧ A.2.2.2.2.2.1 (6 + k) = (s.2.2.2.2.2 k).2.2.2) ∧ A.2.2.2.2.2.2.1 1 = nI s.2.2.1 ∧ A.2.2.2.2.2.2.2.1 1 = s.2.2.2.1 ∧ A.2.2.2.2.2.2.2.2 1 = s.2.2.2.2.1
theorem MH1.rf (A : MAR) : MH1 A A := ⟨fun _ _ => rfl, fun _ _ => rfl, fun _ _ => rfl, fun _ _ => rfl, fun _ _ => rfl, fun _ _ => rfl, rfl, rfl, rfl⟩
theorem MH1.tr {A B C : MAR} (h : MH1 A B) (k : MH1 B C) : MH1 A C := by
  obtain ⟨h1, h2, h3, h4, h5, h6, h7, h8, h9⟩ := h
  obtain ⟨k1, k2, k3, k4, k5, k6, k7, k8, k9⟩ := k
  exact ⟨fun j hj => (k1 j hj).trans (h1 j hj), fun j hj => (k2 j hj).trans (h2 j hj), fun j hj => (k3 j hj).trans (h3 j hj), fun j hj => (k4 j hj).trans (h4 j hj), fun j hj => (k5 j hj).trans (h5 j hj), fun j hj => (k6 j hj).trans (h6 j hj), k7.trans h7, k8.trans h8, k9.trans h9⟩
def clR (x : Nat ⊕ (CLA × Nat × Nat)) (s : LST) (A B : MAR) (ap bg wr : Int32) : Prop := MH1 A B ∧ match x with
  | .inl p => wr = 1 ∧ bg = nI p
  | .inr q => wr = 0 ∧ ap = nI q.2.1 ∧ q.2.2 = (tellG s q.1).2.2.1 ∧ MH2 B (tellG s q.1)
theorem tell_room {s : LST} {q : CLA} (h : q.1 < 9) : (tellG s q).2.2.1 = roomS q.1 s.2.2.1 := by
  obtain ⟨w, zs⟩ := q
  simp only at h
  rcases (show w = 0 ∨ w = 1 ∨ w = 2 ∨ w = 3 ∨ w = 4 ∨ w = 5 ∨ w = 6 ∨ w = 7 ∨ w = 8 by omega) with rfl | rfl | rfl | rfl | rfl | rfl | rfl | rfl | rfl <;> rfl
section
variable {F : Nat → Int32} {n t w : Nat} {s : LST} {A B : MAR} {ap bg wr : Int32} {zs : List Int32}
/-- a clause out of its word and its numbers -/
theorem clR_w (hw : w < 9) (hww : wordW F (frT F n t) (teT F n t) = nI w) (hr : roomS w s.2.2.1 ≤ 6) (h1 : MH1 A B) (hn : nsR (numsG F n w (cntW w) 0 (teT F n t)) zs ap bg wr) (h2 : wr = 0 → zs.length = cntW w → MH2 B (tellG s (w, zs))) : clR (clauseG F n t s.2.2.1) s A B ap bg wr := by
  refine ⟨h1, ?_⟩
  rw [clauseG_word hw hww, if_pos hr]
  cases hx : numsG F n w (cntW w) 0 (teT F n t) with
  | inl p =>
    rw [hx] at hn
    exact hn
  | inr q =>
    have hl := (numsG_in _ _ _ q hx).1
    rw [hx] at hn
    obtain ⟨k1, k2, k3⟩ := hn
    subst k3
    exact ⟨k1, k2, (tell_room (q := (w, q.2)) hw).symm, h2 k1 hl⟩
theorem clR_full (hw : w < 9) (hww : wordW F (frT F n t) (teT F n t) = nI w) (hr : ¬ roomS w s.2.2.1 ≤ 6) (h1 : MH1 A B) : clR (clauseG F n t s.2.2.1) s A B ap (nI (frT F n t)) 1 := by
  refine ⟨h1, ?_⟩
  rw [clauseG_word hw hww, if_neg hr]
  exact ⟨rfl, rfl⟩
theorem clR_none (hww : wordW F (frT F n t) (teT F n t) = -1) (h1 : MH1 A B) : clR (clauseG F n t s.2.2.1) s A B ap (nI (frT F n t)) 1 := by
  refine ⟨h1, ?_⟩
  rw [clauseG_none hww]
  exact ⟨rfl, rfl⟩
end
section
variable {Ti Re Ki So St Pr Sh Wa Pu : Nat → Int32} {s : LST}
theorem u10 {f : Nat → Int32} {v : Int32} : upd f 1 v 0 = f 0 := pk_un (by decide)
theorem u11 {f : Nat → Int32} {v : Int32} : upd f 1 v 1 = v := pk_us
theorem putH_lo {N : Nat} {f g : Nat → Int32} {j : Nat} (h : j < N) : putH N f 1 g j = f j := if_neg (by omega)
theorem putH_hi {N : Nat} {f g : Nat → Int32} {j : Nat} (h : j < N) : putH N f 1 g (N + j) = g j := by
  rw [putH, if_pos (by omega), show N + j - N * 1 = j by omega]
theorem putH_0 {N : Nat} {f g : Nat → Int32} {j : Nat} (h : j < N) : putH N f 0 g j = g j := by
  rw [putH, if_pos (by omega), show j - N * 0 = j by omega]
theorem tl_lane (H : MH2 (Ti, Re, Ki, So, St, Pr, Sh, Wa, Pu) s) : MH1 (Ti, Re, Ki, So, St, Pr, Sh, Wa, Pu) (putH 4 Ti 1 (fun _ => 4), putH 4 Re 1 (fun _ => 1), Ki, So, St, Pr, upd Sh 1 0, upd Wa 1 10, upd Pu 1 60) ∧ MH2 (putH 4 Ti 1 (fun _ => 4), putH 4 Re 1 (fun _ => 1), Ki, So, St, Pr, upd Sh 1 0, upd Wa 1 10, upd Pu 1 60) (tellG s (0, [])) :=
  ⟨⟨fun j hj => (show putH 4 Ti 1 (fun _ => 4) j = Ti j from putH_lo hj), fun j hj => (show putH 4 Re 1 (fun _ => 1) j = Re j from putH_lo hj), fun _ _ => rfl, fun _ _ => rfl, fun _ _ => rfl, fun _ _ => rfl, (show upd Sh 1 0 0 = Sh 0 from u10), (show upd Wa 1 10 0 = Wa 0 from u10), (show upd Pu 1 60 0 = Pu 0 from u10)⟩, ⟨fun j hj => (show putH 4 Ti 1 (fun _ => 4) (4 + j) = (4 : Int32) from putH_hi hj), fun j hj => (show putH 4 Re 1 (fun _ => 1) (4 + j) = (1 : Int32) from putH_hi hj), fun k hk => absurd hk (Nat.not_lt_zero _), (show upd Sh 1 0 1 = (0 : Int32) from u11), (show upd Wa 1 10 1 = (10 : Int32) from u11), (show upd Pu 1 60 1 = (60 : Int32) from u11)⟩⟩
theorem tl_shut (H : MH2 (Ti, Re, Ki, So, St, Pr, Sh, Wa, Pu) s) : MH1 (Ti, Re, Ki, So, St, Pr, Sh, Wa, Pu) (Ti, Re, Ki, So, St, Pr, upd Sh 1 0, Wa, Pu) ∧ MH2 (Ti, Re, Ki, So, St, Pr, upd Sh 1 0, Wa, Pu) (tellG s (8, [])) :=
  ⟨⟨fun _ _ => rfl, fun _ _ => rfl, fun _ _ => rfl, fun _ _ => rfl, fun _ _ => rfl, fun _ _ => rfl, (show upd Sh 1 0 0 = Sh 0 from u10), rfl, rfl⟩, ⟨H.1, H.2.1, fun k hk => absurd hk (Nat.not_lt_zero _), (show upd Sh 1 0 1 = (0 : Int32) from u11), H.2.2.2.2.1, H.2.2.2.2.2⟩⟩
theorem tl_want (v : Int32) : MH1 (Ti, Re, Ki, So, St, Pr, Sh, Wa, Pu) (Ti, Re, Ki, So, St, Pr, Sh, upd Wa 1 v, Pu) := ⟨fun _ _ => rfl, fun _ _ => rfl, fun _ _ => rfl, fun _ _ => rfl, fun _ _ => rfl, fun _ _ => rfl, rfl, (show upd Wa 1 v 0 = Wa 0 from u10), rfl⟩
theorem tl_want2 (H : MH2 (Ti, Re, Ki, So, St, Pr, Sh, Wa, Pu) s) (v : Int32) : MH2 (Ti, Re, Ki, So, St, Pr, Sh, upd Wa 1 v, Pu) (tellG s (6, [v])) := ⟨H.1, H.2.1, H.2.2.1, H.2.2.2.1, (show upd Wa 1 v 1 = v from u11), H.2.2.2.2.2⟩
theorem tl_purse (v : Int32) : MH1 (Ti, Re, Ki, So, St, Pr, Sh, Wa, Pu) (Ti, Re, Ki, So, St, Pr, Sh, Wa, upd Pu 1 v) := ⟨fun _ _ => rfl, fun _ _ => rfl, fun _ _ => rfl, fun _ _ => rfl, fun _ _ => rfl, fun _ _ => rfl, rfl, rfl, (show upd Pu 1 v 0 = Pu 0 from u10)⟩
theorem tl_purse2 (H : MH2 (Ti, Re, Ki, So, St, Pr, Sh, Wa, Pu) s) (v : Int32) : MH2 (Ti, Re, Ki, So, St, Pr, Sh, Wa, upd Pu 1 v) (tellG s (7, [v])) := ⟨H.1, H.2.1, H.2.2.1, H.2.2.2.1, H.2.2.2.2.1, (show upd Pu 1 v 1 = v from u11)⟩
theorem tl_sort {so : Nat} (a b : Int32) : MH1 (Ti, Re, Ki, So, St, Pr, Sh, Wa, Pu) (upd Ti (4 + so) a, upd Re (4 + so) b, Ki, So, St, Pr, Sh, Wa, Pu) := ⟨fun j hj => pk_un (by omega), fun j hj => pk_un (by omega), fun _ _ => rfl, fun _ _ => rfl, fun _ _ => rfl, fun _ _ => rfl, rfl, rfl, rfl⟩
theorem upd_hi {f g : Nat → Int32} {so j : Nat} {v : Int32} (h : f (4 + j) = g j) : upd f (4 + so) v (4 + j) = upd g so v j := by
  by_cases e : j = so
  · rw [e, pk_us, pk_us]
  · rw [pk_un (by omega), pk_un e, h]
theorem tl_sort2 (H : MH2 (Ti, Re, Ki, So, St, Pr, Sh, Wa, Pu) s) {so : Nat} (hs : so < 4) (a b : Int32) : MH2 (upd Ti (4 + so) a, upd Re (4 + so) b, Ki, So, St, Pr, Sh, Wa, Pu) (tellG s (1, [nI so, a, b])) := by
  refine ⟨fun j hj => ?_, fun j hj => ?_, H.2.2.1, H.2.2.2.1, H.2.2.2.2.1, H.2.2.2.2.2⟩
  · show upd Ti (4 + so) a (4 + j) = upd s.1 (nI so).toNatClampNeg a j
    rw [nI_clamp (by omega)]
    exact upd_hi (H.1 j hj)
  · show upd Re (4 + so) b (4 + j) = upd s.2.1 (nI so).toNatClampNeg b j
    rw [nI_clamp (by omega)]
    exact upd_hi (H.2.1 j hj)
theorem tl_shop {m : Nat} (a b c d e : Int32) : MH1 (Ti, Re, Ki, So, St, Pr, Sh, Wa, Pu) (Ti, Re, upd Ki (6 + m) a, upd So (6 + m) b, upd St (6 + m) c, upd Pr (6 + m) d, upd Sh 1 e, Wa, Pu) := ⟨fun _ _ => rfl, fun _ _ => rfl, fun j hj => pk_un (by omega), fun j hj => pk_un (by omega), fun j hj => pk_un (by omega), fun j hj => pk_un (by omega), (show upd Sh 1 e 0 = Sh 0 from u10), rfl, rfl⟩
theorem tl_shop2 (H : MH2 (Ti, Re, Ki, So, St, Pr, Sh, Wa, Pu) s) {w so : Nat} (h2 : 2 ≤ w) (h6 : w < 6) (hs : so < 4) (b c : Int32) : MH2 (Ti, Re, upd Ki (6 + s.2.2.1) (kindI (w - 2)), upd So (6 + s.2.2.1) (nI so), upd St (6 + s.2.2.1) b, upd Pr (6 + s.2.2.1) c, upd Sh 1 (nI (s.2.2.1 + 1)), Wa, Pu) (tellG s (w, [nI so, b, c])) := by
  have e : tellG s (w, [nI so, b, c]) = (s.1, s.2.1, s.2.2.1 + 1, s.2.2.2.1, s.2.2.2.2.1, va_up s.2.2.2.2.2 s.2.2.1 (w - 2, so, b, c)) := by
    unfold tellG
    dsimp only
    rw [if_neg (by omega), if_neg (by omega), if_neg (by omega), if_neg (by omega), if_neg (by omega)]
    show _ = (s.1, s.2.1, s.2.2.1 + 1, s.2.2.2.1, s.2.2.2.2.1, va_up s.2.2.2.2.2 s.2.2.1 (w - 2, so, b, c))
    rw [show ([nI so, b, c] : List Int32).getD 0 0 = nI so from rfl, nI_clamp (by omega)]
    rfl
  rw [e]
  refine ⟨H.1, H.2.1, fun k hk => ?_, (show upd Sh 1 (nI (s.2.2.1 + 1)) 1 = nI (s.2.2.1 + 1) from u11), H.2.2.2.2.1, H.2.2.2.2.2⟩
  have hk2 : k < s.2.2.1 + 1 := hk
  show upd Ki (6 + s.2.2.1) (kindI (w - 2)) (6 + k) = kindI (va_up s.2.2.2.2.2 s.2.2.1 (w - 2, so, b, c) k).1 ∧ upd So (6 + s.2.2.1) (nI so) (6 + k) = nI (va_up s.2.2.2.2.2 s.2.2.1 (w - 2, so, b, c) k).2.1 ∧ upd St (6 + s.2.2.1) b (6 + k) = (va_up s.2.2.2.2.2 s.2.2.1 (w - 2, so, b, c) k).2.2.1 ∧ upd Pr (6 + s.2.2.1) c (6 + k) = (va_up s.2.2.2.2.2 s.2.2.1 (w - 2, so, b, c) k).2.2.2
  by_cases h9 : k = s.2.2.1
  · rw [h9, va_up_self, pk_us, pk_us, pk_us, pk_us]
    exact ⟨rfl, rfl, rfl, rfl⟩
  · rw [va_up_ne _ _ h9, pk_un (by omega), pk_un (by omega), pk_un (by omega), pk_un (by omega)]
    exact H.2.2.1 k (by omega)
end
theorem zs3 {zs : List Int32} (h : zs.length = 3) : ∃ a b c, zs = [a, b, c] := by
  match zs, h with
  | [a, b, c], _ => exact ⟨a, b, c, rfl⟩
theorem teT_semi {F : Nat → Int32} {n t : Nat} (h : frT F n t < n) (h59 : F (frT F n t) = 59) : teT F n t = frT F n t + 1 := by
  rw [teT, if_pos h, h59]
  cases n - (frT F n t + 1) with
  | zero => rfl
  | succ f =>
    rw [endT, if_neg]
    intro h9
    have h8 := h9.2
    have e : ∀ z, rowB 59 z = 0 := fun z => by
      unfold rowB
      rw [if_neg (by decide), if_neg (by decide)]
    rw [e] at h8
    exact absurd h8 (by decide)
