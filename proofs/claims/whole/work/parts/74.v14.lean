/-! the law's start: cells told in another order, and some left to the base -/
section
variable {E : vEnv} {l : Launch} {y : MethodName} {cc : ByteArray} {nL : Nat} {ret : Option FieldType} {R : Room} {Z : List Frame → Array Value → State → State → Prop} {L : List Nat} {h : Nat → va_E} {k n : Nat} {vw : List (Nat × va_E)} {pc : Nat} {lv : List (Nat × Value)} {st : List Value}
theorem V.perm {vw2 : List (Nat × va_E)} (is : List Nat) (hn : is.Nodup) (hC : is.map (fun i => vw[i]?) = vw2.map some) (hall : ∀ i, i < vw.length → i ∈ is) (kk : V E l y cc nL ret R Z L h k n vw2 pc lv st) : V E l y cc nL ret R Z L h k n vw pc lv st := by
  refine V.withVK fun hv => V.over (hv.sub is hn hC) ?_ kk
  have e1 : ov vw2 (ov vw h) = ov vw h := ov_places hv.2 is hC
  have hk : ∀ q ∈ vw.map Prod.fst, q ∈ vw2.map Prod.fst := fun q hq => by
    obtain ⟨c, hc, rfl⟩ := List.mem_map.mp hq
    obtain ⟨i, hi⟩ := List.getElem?_of_mem hc
    have h1 : vw[i]? ∈ is.map (fun i => vw[i]?) := List.mem_map.mpr ⟨i, hall i (List.getElem?_eq_some_iff.mp hi).1, rfl⟩
    rw [hC, hi] at h1
    obtain ⟨d, hd, hde⟩ := List.mem_map.mp h1
    cases hde
    exact List.mem_map.mpr ⟨c, hd, rfl⟩
  rw [← e1]
  have hv2 := hv.sub is hn hC
  funext j
  by_cases hj : j ∈ vw2.map Prod.fst
  · obtain ⟨c, hc, rfl⟩ := List.mem_map.mp hj
    rw [ov_mem hv2.2 c hc, ov_mem hv2.2 c hc]
  · rw [ov_out hj, ov_out hj, ov_out fun hq => hj (hk j hq)]
theorem V.part {vw2 rest : List (Nat × va_E)} (kk : V E l y cc nL ret R Z L (ov rest h) k n vw2 pc lv st) : V E l y cc nL ret R Z L h k n (vw2 ++ rest) pc lv st := by
  refine V.withVK fun hv => V.over ⟨fun q hq => hv.1 q (List.mem_append_left _ hq), ?_⟩ ov_app2 kk
  have h1 := hv.2
  rw [List.map_append] at h1
  exact (List.nodup_append.mp h1).1
end
theorem law_in {L i : Nat} (hL : L ≤ 2048) (hi : i ≤ L) (h : ¬ nI L - 4 < nI i) : i + 4 ≤ L := by
  have h1 : (nI L - nI 4).toInt = (L : Int) - (4 : Nat) := pk_sub_toInt (by omega) (by omega)
  have h2 : (nI i).toInt = (i : Int) := nI_toInt (by omega)
  have h3 : ¬ (nI L - nI 4).toInt < (nI i).toInt := fun hh => h (Int32.lt_iff_toInt_lt.mpr hh)
  rw [h1, h2] at h3
  omega
/-- cells of a family out of a row of addresses -/
theorem fam_of {x : Nat → Nat} {c N b : Nat} (h : inF (fun i => x (c + 2 * i)) (fun i => x (c + 1 + 2 * i)) N b) : ∃ i, c ≤ i ∧ i < c + 2 * N ∧ b = x i := by
  obtain ⟨i, hi, rfl | rfl⟩ := h
  · exact ⟨c + 2 * i, by omega, by omega, rfl⟩
  · exact ⟨c + 1 + 2 * i, by omega, by omega, rfl⟩
theorem fam_FD {x : Nat → Nat} {L : List Nat} {K : Nat → Prop} {c N : Nat} (hx : ∀ i j, i < 60 → j < 60 → x i = x j → i = j) (hL : ∀ i, i < 60 → x i ∈ L) (hK : ∀ i, c ≤ i → i < c + 2 * N → ¬ K (x i)) (hc : c + 2 * N ≤ 60) : FD L K (fun i => x (c + 2 * i)) (fun i => x (c + 1 + 2 * i)) N := by
  refine ⟨fun i j hi hj e => ?_, fun i j hi hj e => ?_, fun i j hi hj e => ?_, fun i hi => ⟨hL _ (by omega), hL _ (by omega), hK _ (by omega) (by omega), hK _ (by omega) (by omega)⟩⟩
  · have := hx _ _ (by omega) (by omega) e; omega
  · have := hx _ _ (by omega) (by omega) e; omega
  · have := hx _ _ (by omega) (by omega) e; omega
theorem fam_dis {x : Nat → Nat} {c N d M : Nat} (hx : ∀ i j, i < 60 → j < 60 → x i = x j → i = j) (h1 : c + 2 * N ≤ 60) (h2 : d + 2 * M ≤ 60) (h3 : c + 2 * N ≤ d ∨ d + 2 * M ≤ c) : ∀ b, inF (fun i => x (c + 2 * i)) (fun i => x (c + 1 + 2 * i)) N b → ¬ inF (fun i => x (d + 2 * i)) (fun i => x (d + 1 + 2 * i)) M b := fun b ha hb => by
  obtain ⟨i, i1, i2, rfl⟩ := fam_of ha
  obtain ⟨j, j1, j2, e⟩ := fam_of hb
  have := hx _ _ (by omega) (by omega) e
  omega
theorem inj_of {x : Nat → Nat} {N : Nat} (h : ((List.range N).map x).Nodup) : ∀ i j, i < N → j < N → x i = x j → i = j := fun i j hi hj e => by
  have h1 : ((List.range N).map x)[i]? = some (x i) := by simp [hi]
  have h2 : ((List.range N).map x)[j]? = some (x j) := by simp [hj]
  exact (List.getElem?_inj (by simp [hi]) h).mp (h1.trans (e ▸ h2.symm))
theorem mem_of {x : Nat → Nat} {N i : Nat} (hi : i < N) : x i ∈ (List.range N).map x := List.mem_map.mpr ⟨i, List.mem_range.mpr hi, rfl⟩
def zNS : NS := (fun _ => 0, 0, 0, 0, 0, 0, 0, 0)
