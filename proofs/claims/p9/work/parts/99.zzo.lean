/-! for the reading of the reference: a row of bytes, frozen fields, what holds of boxes -/
section
variable {X : Option (Nat × (Nat → Int32))} {d : Nat} {cd : qm_Cd} {Z : Option Value → qm_H → Prop} {pc np a b o : Nat} {ls r : List Value} {h : qm_H} {k : Nat} {q : Nat × Nat}
theorem hk_bas1 {n : Nat} {i x : Int32} (hf : qm_fetch cd pc = some (pc, np, .bastore, a, b, .null)) (hs : h.1[o]? = some (1, n)) (h0 : 0 ≤ i.toInt) (h1 : i.toInt < (n : Int)) (kk : qm_Ru X d cd (np, ls, r, (h.1, qm_up h.2.1 o i.toInt.toNat (vp_nar .byte x), h.2.2.1, h.2.2.2)) Z) : qm_Ru X d cd (pc, ls, .int x :: .int i :: .ref o :: r, h) Z := by
  refine qm_Ru.nx ?_ kk
  rw [hk_st (c := (pc, ls, .int x :: .int i :: .ref o :: r, h)) hf]
  show (match h.1[o]? with
    | some (1, n) => bif qm_in i n then qm_nx (np, ls, r, (h.1, qm_up h.2.1 o i.toInt.toNat (vp_nar .byte x), h.2.2.1, h.2.2.2)) else none
    | some (2, n) => bif qm_in i n then qm_nx (np, ls, r, (h.1, qm_up h.2.1 o i.toInt.toNat (vp_nar .boolean x), h.2.2.1, h.2.2.2)) else none
    | _ => none) = _
  rw [hs]
  show (bif qm_in i n then qm_nx (np, ls, r, (h.1, qm_up h.2.1 o i.toInt.toNat (vp_nar .byte x), h.2.2.1, h.2.2.2)) else none) = _
  rw [hk_in h0 h1]
  rfl
end
noncomputable def qc_S8 (h : qm_H) (mod fld : List Nat) (h' : qm_H) : Prop := h'.1 = h.1 ∧ h'.2.2.2 = h.2.2.2 ∧ (∀ o, mod.contains o = false → ∀ i, h'.2.1 o i = h.2.1 o i) ∧ ∀ i, (fld.contains i || Nat.ble 105 i) = false → h'.2.1 118 i = h.2.1 118 i
noncomputable def qc_foot8 (mod fld : List Nat) : List Nat := qc_foot mod ++ ((List.range 105).filter fun i => !fld.contains i).map fun i => 1118000 + i
theorem qc_loc8 {h : qm_H} {mod fld : List Nat} : qa_loc (qa_P0 (qc_foot8 mod fld)) (qc_S8 h mod fld) := by
  intro h' I J e hS
  obtain ⟨s1, s2, s3, s4⟩ := hS
  refine ⟨s1, s2, fun o ho i => ?_, fun i hi => ?_⟩
  · rw [← s3 o ho i]
    refine e o i ?_
    by_cases c : o < 192
    · refine Or.inl (List.contains_iff_mem.mpr (List.mem_append.mpr (Or.inl (List.mem_filter.mpr ⟨List.mem_range.mpr c, ?_⟩))))
      rw [ho]
      rfl
    · exact Or.inr (Or.inl (qa_Psh_no (by omega)))
  · rw [← s4 i hi]
    rw [Bool.or_eq_false_iff] at hi
    have hlt : i < 105 := Nat.lt_of_not_le (fun z => by rw [Nat.ble_eq_true_of_le z] at hi; exact absurd hi.2 (by decide))
    refine e 118 i (Or.inr (Or.inr ⟨?_, (17, 105), rfl, by decide⟩))
    refine List.contains_iff_mem.mpr (List.mem_append.mpr (Or.inr (List.mem_map.mpr ⟨i, List.mem_filter.mpr ⟨List.mem_range.mpr hlt, ?_⟩, ?_⟩)))
    · rw [hi.1]
      rfl
    · omega
theorem v_R_cg3 {I I' : Nat → Nat → Int32} (h : v_R I) (g : ∀ o ∈ [150, 151, 152, 153, 154, 11, 12, 13, 14], pI I' o = pI I o) (e44 : I' 118 44 = I 118 44) : v_R I' := by
  refine ⟨?_, ?_⟩
  · show sr (pI I' 150) (pI I' 151) (pI I' 152) (pI I' 153) (pI I' 154) (I' 118 44).toInt
    rw [g 150 (by decide), g 151 (by decide), g 152 (by decide), g 153 (by decide), g 154 (by decide), e44]
    exact h.1
  · show sf_R (pI I' 11) (pI I' 12) (pI I' 13) (pI I' 14)
    rw [g 11 (by decide), g 12 (by decide), g 13 (by decide), g 14 (by decide)]
    exact h.2
