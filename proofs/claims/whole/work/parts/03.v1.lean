/-! THE JUDGEMENT: a method's walk over a heap that is told as a function of its addresses (L: those that are ours), with a short list 'vw' of the cells that the walk looks at ahead of a heap 'h' of which nothing is asked -/
def ov : List (Nat × va_E) → (Nat → va_E) → Nat → va_E
  | [], h => h
  | q :: t, h => va_up (ov t h) q.1 q.2
def VK (L : List Nat) (vw : List (Nat × va_E)) : Prop := (∀ q ∈ vw, q.1 ∈ L) ∧ (vw.map Prod.fst).Nodup
theorem ov_out {h : Nat → va_E} {a : Nat} : ∀ {vw : List (Nat × va_E)}, a ∉ vw.map Prod.fst → ov vw h a = h a
  | [], _ => rfl
  | q :: t, n => by
    simp only [List.map_cons, List.mem_cons, not_or] at n
    rw [ov, va_up_ne _ _ n.1, ov_out n.2]
theorem ov_mem {h : Nat → va_E} : ∀ {vw : List (Nat × va_E)}, (vw.map Prod.fst).Nodup → ∀ q ∈ vw, ov vw h q.1 = q.2
  | [], _, q, hq => by cases hq
  | x :: t, n, q, hq => by
    simp only [List.map_cons, List.nodup_cons] at n
    rcases List.mem_cons.mp hq with rfl | hq
    · exact va_up_self _ _ _
    · have hne : q.1 ≠ x.1 := fun e => n.1 (e ▸ List.mem_map.mpr ⟨q, hq, rfl⟩)
      rw [ov, va_up_ne _ _ hne]
      exact ov_mem n.2 q hq
theorem ov_get {h : Nat → va_E} {vw : List (Nat × va_E)} (n : (vw.map Prod.fst).Nodup) {p : Nat} {a : Nat} {e : va_E} (hp : vw[p]? = some (a, e)) : ov vw h a = e := ov_mem n (a, e) (List.mem_of_getElem? hp)
theorem ov_set {h : Nat → va_E} {a : Nat} {e e0 : va_E} : ∀ {vw : List (Nat × va_E)} {p : Nat}, (vw.map Prod.fst).Nodup → vw[p]? = some (a, e0) → va_up (ov vw h) a e = ov (vw.set p (a, e)) h
  | [], p, _, hp => by simp at hp
  | x :: t, 0, n, hp => by
    simp only [List.getElem?_cons_zero, Option.some.injEq] at hp
    subst hp
    funext j
    simp only [ov, List.set_cons_zero, va_up]
    by_cases hj : j = a <;> simp [hj]
  | x :: t, p + 1, n, hp => by
    simp only [List.getElem?_cons_succ] at hp
    simp only [List.map_cons, List.nodup_cons] at n
    have hne : x.1 ≠ a := fun e1 => n.1 (e1 ▸ List.mem_map.mpr ⟨(a, e0), List.mem_of_getElem? hp, rfl⟩)
    have ih := ov_set (h := h) (e := e) n.2 hp
    funext j
    simp only [ov, List.set_cons_succ]
    rw [← ih]
    simp only [va_up]
    by_cases h1 : j = a
    · subst h1
      simp [Ne.symm hne]
    · by_cases h2 : j = x.1 <;> simp [h1, h2, hne]
theorem keys_set {vw : List (Nat × va_E)} {p a : Nat} {e e0 : va_E} (hp : vw[p]? = some (a, e0)) : (vw.set p (a, e)).map Prod.fst = vw.map Prod.fst := by
  rw [List.map_set]
  have h1 : (vw.map Prod.fst)[p]? = some a := by rw [List.getElem?_map, hp]; rfl
  apply List.ext_getElem?
  intro j
  by_cases hj : j = p
  · subst hj
    have hl : j < (vw.map Prod.fst).length := (List.getElem?_eq_some_iff.mp h1).1
    rw [List.getElem?_set_self hl, h1]
  · rw [List.getElem?_set_ne (Ne.symm hj)]
theorem VK.keys {L : List Nat} {vw vw2 : List (Nat × va_E)} (h : VK L vw) (e : vw2.map Prod.fst = vw.map Prod.fst) : VK L vw2 := by
  refine ⟨fun q hq => ?_, e ▸ h.2⟩
  have h1 : q.1 ∈ vw.map Prod.fst := e ▸ List.mem_map.mpr ⟨q, hq, rfl⟩
  obtain ⟨x, hx, hxe⟩ := List.mem_map.mp h1
  exact hxe ▸ h.1 x hx
theorem VK.set {L : List Nat} {vw : List (Nat × va_E)} {p a : Nat} {e e0 : va_E} (h : VK L vw) (hp : vw[p]? = some (a, e0)) : VK L (vw.set p (a, e)) := h.keys (keys_set hp)
theorem VK.sub {L : List Nat} {vw vwc : List (Nat × va_E)} (h : VK L vw) (is : List Nat) (hn : is.Nodup) (hC : is.map (fun i => vw[i]?) = vwc.map some) : VK L vwc := by
  have key : ∀ q ∈ vwc, ∃ i ∈ is, vw[i]? = some q := by
    intro q hq
    have h1 : some q ∈ is.map (fun i => vw[i]?) := hC ▸ List.mem_map.mpr ⟨q, hq, rfl⟩
    obtain ⟨i, hi, he⟩ := List.mem_map.mp h1
    exact ⟨i, hi, he⟩
  refine ⟨fun q hq => ?_, ?_⟩
  · obtain ⟨i, -, he⟩ := key q hq
    exact h.1 q (List.mem_of_getElem? he)
  · clear key
    induction is generalizing vwc with
    | nil =>
      cases vwc with
      | nil => exact List.nodup_nil
      | cons q t => simp at hC
    | cons i is ih =>
      cases vwc with
      | nil => simp at hC
      | cons q t =>
        simp only [List.map_cons, List.cons.injEq] at hC
        simp only [List.nodup_cons] at hn
        rw [List.map_cons, List.nodup_cons]
        refine ⟨fun hm => ?_, ih hn.2 hC.2⟩
        obtain ⟨x, hx, hxe⟩ := List.mem_map.mp hm
        have h1 : some x ∈ is.map (fun i => vw[i]?) := hC.2 ▸ List.mem_map.mpr ⟨x, hx, rfl⟩
        obtain ⟨j, hj, hje⟩ := List.mem_map.mp h1
        have hi2 : (vw.map Prod.fst)[i]? = some q.1 := by rw [List.getElem?_map, hC.1]; rfl
        have hj2 : (vw.map Prod.fst)[j]? = some q.1 := by rw [List.getElem?_map, hje, ← hxe]; rfl
        have hij : i = j := by
          have hl := (List.getElem?_eq_some_iff.mp hi2).1
          exact (List.getElem?_inj hl h.2).mp (hi2.trans hj2.symm)
        subst hij
        exact hn.1 hj
theorem ov_same {h : Nat → va_E} {g : Nat → va_E} : ∀ {vwc : List (Nat × va_E)}, (∀ q ∈ vwc, g q.1 = q.2) → ov vwc g = g
  | [], _ => rfl
  | q :: t, hh => by
    rw [ov, ov_same (h := h) (fun x hx => hh x (List.mem_cons_of_mem _ hx)), ← hh q List.mem_cons_self]
    funext j
    simp only [va_up]
    by_cases hj : j = q.1 <;> simp [hj]
theorem ov_places {h : Nat → va_E} {vw vwc : List (Nat × va_E)} (n : (vw.map Prod.fst).Nodup) (is : List Nat) (hC : is.map (fun i => vw[i]?) = vwc.map some) : ov vwc (ov vw h) = ov vw h := by
  refine ov_same (h := h) fun q hq => ?_
  have h1 : some q ∈ is.map (fun i => vw[i]?) := hC ▸ List.mem_map.mpr ⟨q, hq, rfl⟩
  obtain ⟨i, -, he⟩ := List.mem_map.mp h1
  exact ov_get n he
/-- what a call leaves, put into the caller's list by places -/
def ovset (vw : List (Nat × va_E)) : List Nat → List (Nat × va_E) → List (Nat × va_E)
  | i :: is, q :: qs => (ovset vw is qs).set i q
  | _, _ => vw
theorem ovset_keys {vw : List (Nat × va_E)} : ∀ {is : List Nat} {qs : List (Nat × va_E)}, is.map (fun i => (vw[i]?).map Prod.fst) = qs.map (fun q => some q.1) → (ovset vw is qs).map Prod.fst = vw.map Prod.fst
  | [], [], _ => rfl
  | [], q :: qs, h => by simp at h
  | i :: is, [], h => by simp at h
  | i :: is, q :: qs, h => by
    simp only [List.map_cons, List.cons.injEq] at h
    have ih := ovset_keys h.2
    have h1 : ((ovset vw is qs).map Prod.fst)[i]? = some q.1 := by rw [ih, List.getElem?_map]; exact h.1
    rw [List.getElem?_map] at h1
    cases hx : (ovset vw is qs)[i]? with
    | none => rw [hx] at h1; cases h1
    | some x =>
      rw [hx] at h1
      obtain ⟨x1, x2⟩ := x
      have hxq : x1 = q.1 := Option.some.inj h1
      subst hxq
      rw [ovset, show q = (q.1, q.2) from rfl, keys_set hx, ih]
theorem ov_put {h : Nat → va_E} {vw : List (Nat × va_E)} (n : (vw.map Prod.fst).Nodup) : ∀ {is : List Nat} {qs : List (Nat × va_E)}, is.map (fun i => (vw[i]?).map Prod.fst) = qs.map (fun q => some q.1) → ov qs (ov vw h) = ov (ovset vw is qs) h
  | [], [], _ => rfl
  | [], q :: qs, h => by simp at h
  | i :: is, [], h => by simp at h
  | i :: is, q :: qs, hh => by
    simp only [List.map_cons, List.cons.injEq] at hh
    have ih := ov_put (h := h) n hh.2
    have hk := ovset_keys hh.2
    have h1 : ((ovset vw is qs).map Prod.fst)[i]? = some q.1 := by rw [hk, List.getElem?_map]; exact hh.1
    rw [List.getElem?_map] at h1
    cases hx : (ovset vw is qs)[i]? with
    | none => rw [hx] at h1; cases h1
    | some x =>
      rw [hx] at h1
      obtain ⟨x1, x2⟩ := x
      have hxq : x1 = q.1 := Option.some.inj h1
      subst hxq
      rw [ov, ih, ovset]
      exact ov_set (hk ▸ n) hx
theorem ov_app {h : Nat → va_E} {vw : List (Nat × va_E)} {a : Nat} {e : va_E} (hn : a ∉ vw.map Prod.fst) : ov (vw ++ [(a, e)]) h = va_up (ov vw h) a e := by
  induction vw with
  | nil => rfl
  | cons q t ih =>
    simp only [List.map_cons, List.mem_cons, not_or] at hn
    simp only [List.cons_append, ov]
    rw [ih hn.2]
    funext j
    simp only [va_up]
    by_cases h1 : j = a
    · subst h1
      simp [hn.1]
    · have hne : ¬ q.1 = a := fun e => hn.1 e.symm
      by_cases h2 : j = q.1 <;> simp [h1, h2, hne]
theorem VK.app {L : List Nat} {vw : List (Nat × va_E)} {a : Nat} {e : va_E} (h : VK L vw) (ha : a ∈ L) (hn : a ∉ vw.map Prod.fst) : VK L (vw ++ [(a, e)]) := by
  refine ⟨fun q hq => ?_, ?_⟩
  · rcases List.mem_append.mp hq with hq | hq
    · exact h.1 q hq
    · rw [List.mem_singleton.mp hq]; exact ha
  · rw [List.map_append, List.nodup_append]
    refine ⟨h.2, by simp, fun x hx y hy => ?_⟩
    simp at hy
    rw [hy]
    exact fun e => hn (e ▸ hx)
theorem VK.more {L L2 : List Nat} {vw : List (Nat × va_E)} (h : VK L vw) (hL : ∀ a ∈ L, a ∈ L2) : VK L2 vw := ⟨fun q hq => hL _ (h.1 q hq), h.2⟩
