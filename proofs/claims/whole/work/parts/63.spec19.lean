/-! the model's reader as a whole -/
theorem nsR_01 {x : Nat ⊕ (Nat × List Int32)} {zs : List Int32} {ap bg wr : Int32} (h : nsR x zs ap bg wr) : wr = 0 ∨ wr = 1 := by
  cases x with
  | inl p => exact Or.inr h.1
  | inr q => exact Or.inl h.1
theorem nsR_so {F : Nat → Int32} {n t : Nat} {a b c ap bg wr : Int32} (h : nsR (numsG F n 2 3 0 t) [a, b, c] ap bg wr) (h0 : wr = 0) : ∃ so, so < 4 ∧ a = nI so := by
  cases hx : numsG F n 2 3 0 t with
  | inl p =>
    rw [hx] at h
    have h1 : wr = 1 := h.1
    rw [h0] at h1
    exact absurd h1 (by decide)
  | inr q =>
    have h2 := (numsG_in _ _ _ q hx).2 0 (by decide)
    rw [hx] at h
    have h3 : q.2 = [a, b, c] := h.2.2
    rw [h3] at h2
    exact so_of h2
/-- the first half is the lane -/
def MF (A : MAR) (s : LST) : Prop := (∀ j, j < 4 → A.1 j = s.1 j) ∧ (∀ j, j < 4 → A.2.1 j = s.2.1 j) ∧ (∀ k, k < s.2.2.1 → A.2.2.1 k = kindI (s.2.2.2.2.2 k).1 ∧ A.2.2.2.1 k = nI (s.2.2.2.2.2 k).2.1 ∧ A.2.2.2.2.1 k = (s.2.2.2.2.2 k).2.2.1 ∧ A.2.2.2.2.2.1 k = (s.2.2.2.2.2 k).2.2.2) ∧ A.2.2.2.2.2.2.1 0 = nI s.2.2.1 ∧ A.2.2.2.2.2.2.2.1 0 = s.2.2.2.1 ∧ A.2.2.2.2.2.2.2.2 0 = s.2.2.2.2.1
theorem MF.same {A B : MAR} {s : LST} (h : MF A s) (hm : s.2.2.1 ≤ 6) (k : MH1 A B) : MF B s := by
  obtain ⟨h1, h2, h3, h4, h5, h6⟩ := h
  obtain ⟨k1, k2, k3, k4, k5, k6, k7, k8, k9⟩ := k
  exact ⟨fun j hj => (k1 j hj).trans (h1 j hj), fun j hj => (k2 j hj).trans (h2 j hj), fun j hj => ⟨(k3 j (by omega)).trans (h3 j hj).1, (k4 j (by omega)).trans (h3 j hj).2.1, (k5 j (by omega)).trans (h3 j hj).2.2.1, (k6 j (by omega)).trans (h3 j hj).2.2.2⟩, k7.trans h4, k8.trans h5, k9.trans h6⟩
section
variable {Ti Re Ki So St Pr Sh Wa Pu : Nat → Int32} {s : LST}
theorem put01 {f : Nat → Int32} : putH 1 f 1 (fun j => f (0 + j)) 1 = f 0 := putH_hi (N := 1) (j := 0) (by decide)
theorem put10 {f g : Nat → Int32} : putH 1 f 1 g 0 = f 0 := putH_lo (by decide)
theorem put00 {f : Nat → Int32} : putH 1 f 0 (fun j => f (1 + j)) 0 = f 1 := putH_0 (j := 0) (by decide)
theorem mh_copy (H : MF (Ti, Re, Ki, So, St, Pr, Sh, Wa, Pu) s) (hm : s.2.2.1 ≤ 6) : MH1 (Ti, Re, Ki, So, St, Pr, Sh, Wa, Pu) (putH 4 Ti 1 (fun j => Ti (0 + j)), putH 4 Re 1 (fun j => Re (0 + j)), putH 6 Ki 1 (fun j => Ki (0 + j)), putH 6 So 1 (fun j => So (0 + j)), putH 6 St 1 (fun j => St (0 + j)), putH 6 Pr 1 (fun j => Pr (0 + j)), putH 1 Sh 1 (fun j => Sh (0 + j)), putH 1 Wa 1 (fun j => Wa (0 + j)), putH 1 Pu 1 (fun j => Pu (0 + j))) ∧ MH2 (putH 4 Ti 1 (fun j => Ti (0 + j)), putH 4 Re 1 (fun j => Re (0 + j)), putH 6 Ki 1 (fun j => Ki (0 + j)), putH 6 So 1 (fun j => So (0 + j)), putH 6 St 1 (fun j => St (0 + j)), putH 6 Pr 1 (fun j => Pr (0 + j)), putH 1 Sh 1 (fun j => Sh (0 + j)), putH 1 Wa 1 (fun j => Wa (0 + j)), putH 1 Pu 1 (fun j => Pu (0 + j))) s := by
  obtain ⟨h1, h2, h3, h4, h5, h6⟩ := H
  have hi : ∀ {N : Nat} {f : Nat → Int32} {j : Nat}, j < N → putH N f 1 (fun j => f (0 + j)) (N + j) = f j := fun {N f j} hj => (putH_hi hj).trans (by rw [Nat.zero_add])
  refine ⟨⟨fun j hj => ?_, fun j hj => ?_, fun j hj => ?_, fun j hj => ?_, fun j hj => ?_, fun j hj => ?_, ?_, ?_, ?_⟩, fun j hj => ?_, fun j hj => ?_, fun k hk => ⟨?_, ?_, ?_, ?_⟩, ?_, ?_, ?_⟩
  · show putH 4 Ti 1 (fun j => Ti (0 + j)) j = Ti j; exact putH_lo hj
  · show putH 4 Re 1 (fun j => Re (0 + j)) j = Re j; exact putH_lo hj
  · show putH 6 Ki 1 (fun j => Ki (0 + j)) j = Ki j; exact putH_lo hj
  · show putH 6 So 1 (fun j => So (0 + j)) j = So j; exact putH_lo hj
  · show putH 6 St 1 (fun j => St (0 + j)) j = St j; exact putH_lo hj
  · show putH 6 Pr 1 (fun j => Pr (0 + j)) j = Pr j; exact putH_lo hj
  · exact put10 (f := Sh) (g := fun j => Sh (0 + j))
  · exact put10 (f := Wa) (g := fun j => Wa (0 + j))
  · exact put10 (f := Pu) (g := fun j => Pu (0 + j))
  · exact (hi (f := Ti) hj).trans (h1 j hj)
  · exact (hi (f := Re) hj).trans (h2 j hj)
  · exact (hi (f := Ki) (show k < 6 by omega)).trans (h3 k hk).1
  · exact (hi (f := So) (show k < 6 by omega)).trans (h3 k hk).2.1
  · exact (hi (f := St) (show k < 6 by omega)).trans (h3 k hk).2.2.1
  · exact (hi (f := Pr) (show k < 6 by omega)).trans (h3 k hk).2.2.2
  · exact (put01 (f := Sh)).trans h4
  · exact (put01 (f := Wa)).trans h5
  · exact (put01 (f := Pu)).trans h6
theorem mf_copy (H : MH2 (Ti, Re, Ki, So, St, Pr, Sh, Wa, Pu) s) (hm : s.2.2.1 ≤ 6) : MF (putH 4 Ti 0 (fun j => Ti (4 + j)), putH 4 Re 0 (fun j => Re (4 + j)), putH 6 Ki 0 (fun j => Ki (6 + j)), putH 6 So 0 (fun j => So (6 + j)), putH 6 St 0 (fun j => St (6 + j)), putH 6 Pr 0 (fun j => Pr (6 + j)), putH 1 Sh 0 (fun j => Sh (1 + j)), putH 1 Wa 0 (fun j => Wa (1 + j)), putH 1 Pu 0 (fun j => Pu (1 + j))) s := by
  obtain ⟨h1, h2, h3, h4, h5, h6⟩ := H
  refine ⟨fun j hj => ?_, fun j hj => ?_, fun k hk => ⟨?_, ?_, ?_, ?_⟩, ?_, ?_, ?_⟩
  · show putH 4 Ti 0 (fun j => Ti (4 + j)) j = _; exact (putH_0 (N := 4) (f := Ti) hj).trans (h1 j hj)
  · show putH 4 Re 0 (fun j => Re (4 + j)) j = _; exact (putH_0 (N := 4) (f := Re) hj).trans (h2 j hj)
  · show putH 6 Ki 0 (fun j => Ki (6 + j)) k = _; exact (putH_0 (N := 6) (f := Ki) (show k < 6 by omega)).trans (h3 k hk).1
  · show putH 6 So 0 (fun j => So (6 + j)) k = _; exact (putH_0 (N := 6) (f := So) (show k < 6 by omega)).trans (h3 k hk).2.1
  · show putH 6 St 0 (fun j => St (6 + j)) k = _; exact (putH_0 (N := 6) (f := St) (show k < 6 by omega)).trans (h3 k hk).2.2.1
  · show putH 6 Pr 0 (fun j => Pr (6 + j)) k = _; exact (putH_0 (N := 6) (f := Pr) (show k < 6 by omega)).trans (h3 k hk).2.2.2
  · exact (put00 (f := Sh)).trans h4
  · exact (put00 (f := Wa)).trans h5
  · exact (put00 (f := Pu)).trans h6
end
def rdF (x : Nat ⊕ List CLA) (s : LST) (A0 A : MAR) (bg wr cl : Int32) : Prop := MH1 A0 A ∧ match x with
  | .inl p => wr = 1 ∧ bg = nI p
  | .inr cs => wr = 0 ∧ cl = nI cs.length ∧ MH2 A (lanesG s cs)
def rdM (x : Nat ⊕ List CLA) (s : LST) (A0 A : MAR) (cl rt : Int32) : Prop := MH1 A0 A ∧ match x with
  | .inl p => rt = nI p
  | .inr cs => rt = -1 ∧ cl = nI cs.length ∧ MH2 A (lanesG s cs)
theorem lanes_app (s : LST) (cs : List CLA) (q : CLA) : lanesG s (cs ++ [q]) = tellG (lanesG s cs) q := by
  rw [lanesG, List.foldl_append]
  rfl
theorem here_neg {F : Nat → Int32} {n t : Nat} (hF : ∀ j, j < n → ¬ F j < 0) (h : hereW F n t < 0) : n ≤ frT F n t := by
  by_cases h1 : frT F n t < n
  · rw [hereW, if_pos h1] at h
    exact absurd h (hF _ h1)
  · omega
theorem here_pos {F : Nat → Int32} {n t : Nat} (h : ¬ hereW F n t < 0) : frT F n t < n := by
  by_cases h1 : frT F n t < n
  · exact h1
  · rw [hereW, if_neg h1] at h
    exact absurd (by decide : (-1 : Int32) < 0) h
def idP (k : Nat) (pl : Nat → Int32) : Nat → Int32 := fun j => if j < k then nI j else pl j
theorem idP_s (k : Nat) (pl : Nat → Int32) (j : Nat) : upd (idP k pl) k (nI k) j = idP (k + 1) pl j := by
  by_cases h : j = k
  · rw [h, pk_us, idP, if_pos (Nat.lt_succ_self _)]
  · rw [pk_un h, idP, idP]
    by_cases h2 : j < k
    · rw [if_pos h2, if_pos (by omega)]
    · rw [if_neg h2, if_neg (by omega)]
theorem lanesG_m {s : LST} {cs : List CLA} (h : okC s.2.2.1 cs) (hm : s.2.2.1 ≤ 6) : (lanesG s cs).2.2.1 ≤ 6 := by
  induction cs generalizing s with
  | nil => exact hm
  | cons q cs ih =>
    obtain ⟨h1, h2, h3, h4, h5⟩ := h
    have e := tell_room (s := s) h1
    show (lanesG (tellG s q) cs).2.2.1 ≤ 6
    exact ih (by rw [e]; exact h5) (by rw [e]; exact h4)
