/-! jobs' cells alone are touched; work of both sides -/
variable {tb : Int}
theorem gS4_j {tb2 : Int} {h : qm_H} {I : Nat → Nat → Int32} {J : Nat → Nat → Int64} (hS : (gS4B tb) h) (e : ∀ o, (o < 51 ∨ 97 < o) → o ≠ 118 → (o < 168 ∨ 181 < o) → ∀ i, I o i = h.2.1 o i) (f8 : ∀ i, [75, 85, 91, 92, 93, 94].contains i = false → I 118 i = h.2.1 118 i) (kk : kJ kwF (h.1, I, J, h.2.2.2)) (hj : gJ tb2 I) : gS4B tb2 (h.1, I, J, h.2.2.2) := by
  obtain ⟨⟨⟨s, r⟩, x⟩, hm, hc, hk, -⟩ := hS
  have g : ∀ o ∈ [1, 3, 6, 11, 12, 13, 14, 16, 17, 28, 29, 36, 42, 111, 150, 151, 158] ++ q_objs ++ r_objs ++ x_objs ++ zc_objs ++ [127, 128, 129, 131, 132], ∀ i, I o i = h.2.1 o i := fun o ho i => by
    have k := (show ∀ o ∈ [1, 3, 6, 11, 12, 13, 14, 16, 17, 28, 29, 36, 42, 111, 150, 151, 158] ++ q_objs ++ r_objs ++ x_objs ++ zc_objs ++ [127, 128, 129, 131, 132], (o < 51 ∨ 97 < o) ∧ o ≠ 118 ∧ (o < 168 ∨ 181 < o) from by decide) o ho
    exact e o k.1 k.2.1 k.2.2 i
  have g0 : ∀ o ∈ [1, 3, 6, 11, 12, 13, 14, 16, 17, 28, 29, 36, 42, 111, 150, 151, 158], ∀ i, I o i = h.2.1 o i := fun o ho => g o (List.mem_append_left _ (List.mem_append_left _ (List.mem_append_left _ (List.mem_append_left _ (List.mem_append_left _ ho)))))
  have gq : ∀ o ∈ q_objs, ∀ i, I o i = h.2.1 o i := fun o ho => g o (List.mem_append_left _ (List.mem_append_left _ (List.mem_append_left _ (List.mem_append_left _ (List.mem_append_right _ ho)))))
  have gr : ∀ o ∈ r_objs, ∀ i, I o i = h.2.1 o i := fun o ho => g o (List.mem_append_left _ (List.mem_append_left _ (List.mem_append_left _ (List.mem_append_right _ ho))))
  have gx : ∀ o ∈ x_objs, ∀ i, I o i = h.2.1 o i := fun o ho => g o (List.mem_append_left _ (List.mem_append_left _ (List.mem_append_right _ ho)))
  have gz : ∀ o ∈ zc_objs, ∀ i, I o i = h.2.1 o i := fun o ho => g o (List.mem_append_left _ (List.mem_append_right _ ho))
  have gm : ∀ o ∈ [127, 128, 129, 131, 132], ∀ i, I o i = h.2.1 o i := fun o ho => g o (List.mem_append_right _ ho)
  have n := zCK_cg hc hk gz (f8 44 rfl) (f8 54 rfl)
  refine ⟨⟨⟨⟨v_C_cg9 s.1 (fun o ho i => g0 o ((show ∀ o ∈ [6, 11, 12, 13, 14, 16, 17, 36, 150, 151], o ∈ [1, 3, 6, 11, 12, 13, 14, 16, 17, 28, 29, 36, 42, 111, 150, 151, 158] from by decide) o (List.contains_iff_mem.mp ho)) i), v_S_sm s.2.1 gq (g0 158 (by decide)) (f8 18 rfl) (f8 44 rfl) (f8 59 rfl), wI_same s.2.2 rfl rfl⟩, gR_cg r gr (g0 1 (by decide) 1) (g0 6 (by decide) 0) (g0 42 (by decide) 7) (f8 2 rfl) (f8 44 rfl) (f8 70 rfl)⟩, ⟨gP_cg x.1 gx (g0 1 (by decide) 1) (g0 3 (by decide) 4) (f8 17 rfl), kk⟩⟩, hm.elim (fun z => Or.inl ⟨z.1, zM_end z.2 (g0 29 (by decide)) gm (f8 18 rfl)⟩) (fun z => Or.inr ⟨z.1, zM_end z.2 (g0 111 (by decide)) gm (f8 18 rfl)⟩), n.1, n.2, hj⟩
/-- what work starts from -/
theorem jP_of {s t : Nat} {h : qm_H} (hi : zI s (pI h.2.1)) (hm : zM t s (pI h.2.1) h.2.1) (hZ : (gZB tb) h) : jP s (pI h.2.1, h.2.1) := ⟨hi, hZ.2.2.1, hm.1, hZ.2.2.2.2.1, hZ.2.2.2.2.2.1⟩
theorem jWk_P {s : Nat} {p : (Nat → Nat → Int) × (Nat → Nat → Int32)} {n : Int32} (h : jP s p) (ht : (p.2 118 85).toInt ≤ 900000000) : jP s (jWk s p n) ∧ ((jWk s p n).2 118 85).toInt ≤ (p.2 118 85).toInt + 200 := by
  by_cases q : 0 ≤ n.toInt ∧ n.toInt ≤ 200
  · rw [jWk_1 q]
    have r := jRn_P (s := s) (m := n.toInt.toNat) h (by omega)
    exact ⟨r.1, by omega⟩
  · rw [jWk_0 q]
    exact ⟨h, by omega⟩
theorem zR_k {A : Nat → Nat → Int} {I I2 : Nat → Nat → Int32} (hr : zR A I) (e : ∀ o, (o < 51 ∨ 97 < o) → [11, 12, 13, 14, 16, 17, 28, 36, 37].contains o = false → ∀ i, I2 o i = I o i) : zR A I2 := zR_cg hr (fun o ho => Or.inr ⟨funext fun i => congrArg Int32.toInt (e o ((show ∀ o ∈ [127, 128, 129, 131, 132, 146, 147, 148, 149, 150, 151, 152, 153, 154], (o < 51 ∨ 97 < o) from by decide) o ho) ((show ∀ o ∈ [127, 128, 129, 131, 132, 146, 147, 148, 149, 150, 151, 152, 153, 154], [11, 12, 13, 14, 16, 17, 28, 36, 37].contains o = false from by decide) o ho) i), rfl⟩) (Or.inr ⟨e 118 (by decide) rfl 44, rfl⟩) (Or.inr ⟨e 118 (by decide) rfl 54, rfl⟩) ⟨e 118 (by decide) rfl 18, rfl⟩
theorem jEq_k {K I2 : Nat → Nat → Int32} (e : ∀ o, (o < 51 ∨ 97 < o) → [11, 12, 13, 14, 16, 17, 28, 36, 37].contains o = false → ∀ i, I2 o i = K o i) : jEq K I2 := ⟨fun o h1 h2 => funext fun i => (e o (by omega) ((show ∀ o, o < 182 → 168 ≤ o → [11, 12, 13, 14, 16, 17, 28, 36, 37].contains o = false from by decide +kernel) o (by omega) h1) i).symm, fun f _ => (e 118 (by decide) rfl f).symm⟩
/-- jobs and cranes behind both works -/
theorem gJ_work {tb : Int} {K2 I1 I2 : Nat → Nat → Int32} (zj : zJ K2 I1) (je : jEq K2 I2) (hI : jI K2) (ht : 0 ≤ (K2 118 85).toInt ∧ (K2 118 85).toInt ≤ tb) (e : ∀ o, [118, 150, 151, 152, 153, 154, 155, 156, 172, 173, 174, 175, 176, 177, 178, 179, 180, 181].contains o = false → ∀ i, I2 o i = I1 o i) : gJ tb I2 := by
  have n : ∀ o, o < 98 → [118, 150, 151, 152, 153, 154, 155, 156, 172, 173, 174, 175, 176, 177, 178, 179, 180, 181].contains o = false := by decide +kernel
  refine ⟨zJ_k (zJ_c zj hI.1.1.2 (fun i _ => e 51 rfl i) (fun o _ h2 => funext fun i => e o (n o (by omega)) i)) je, jEq_I hI je, ?_⟩
  unfold jB
  rw [← je.2 85 (by decide)]
  exact ht
