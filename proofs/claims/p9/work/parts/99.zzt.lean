/-! what holds between calls, kept by either side's moves -/
theorem gS_c {h : qm_H} {I : Nat → Nat → Int32} {J : Nat → Nat → Int64} {mod : List Nat} (hS : gS h) (hV : v_C I) (e : ∀ o, mod.contains o = false → ∀ i, I o i = h.2.1 o i) (hm : ∀ o ∈ [118, 131, 132, 133, 134, 138, 139, 140, 141, 142, 150, 151, 152, 153, 154, 158], mod.contains o = false) : gS (h.1, I, J, h.2.2.2) := by
  obtain ⟨_, hq, hw⟩ := hS
  have g : ∀ o ∈ [118, 131, 132, 133, 134, 138, 139, 140, 141, 142, 150, 151, 152, 153, 154, 158], pI I o = pI h.2.1 o := fun o ho => funext fun i => congrArg Int32.toInt (e o (hm o ho) i)
  have e8 : ∀ i, I 118 i = h.2.1 118 i := e 118 (hm 118 (by decide))
  refine ⟨hV, ⟨⟨⟨?_, hV.1.1.2.2.2⟩, s_P_cg3 hq.1.2 (g 131 (by decide)) (g 132 (by decide)) (g 133 (by decide)) (g 134 (by decide)) (g 138 (by decide)) (g 139 (by decide)) (g 140 (by decide)) (g 141 (by decide)) (g 142 (by decide)) (e8 18)⟩, s_L_cg hq.2 (g 158 (by decide)) (e8 59)⟩, wI_same hw rfl rfl⟩
  show sr (pI I 150) (pI I 151) (pI I 152) (pI I 153) (pI I 154) (I 118 44).toInt
  rw [g 150 (by decide), g 151 (by decide), g 152 (by decide), g 153 (by decide), g 154 (by decide), e8 44]
  exact hq.1.1.1
theorem gS_r {h : qm_H} {I : Nat → Nat → Int32} {J : Nat → Nat → Int64} {mod : List Nat} (hS : gS h) (hV : v_S I) (e : ∀ o, mod.contains o = false → ∀ i, I o i = h.2.1 o i) (hm : ∀ o ∈ [6, 11, 12, 13, 14, 16, 17, 36], mod.contains o = false) : gS (h.1, I, J, h.2.2.2) := by
  obtain ⟨hc, _, hw⟩ := hS
  have g : ∀ o ∈ [6, 11, 12, 13, 14, 16, 17, 36], (fun i => (I o i).toInt) = fun i => (h.2.1 o i).toInt := fun o ho => funext fun i => congrArg Int32.toInt (e o (hm o ho) i)
  refine ⟨⟨⟨?_, ?_⟩, v_R_rr hV.1.1.1⟩, hV, wI_same hw rfl rfl⟩
  · show sf (fun i => (I 11 i).toInt) (fun i => (I 12 i).toInt) (fun i => (I 13 i).toInt) (fun i => (I 14 i).toInt) (fun i => (I 36 i).toInt) (fun i => (I 16 i).toInt) (fun i => (I 17 i).toInt) (I 6 0).toInt
    rw [g 11 (by decide), g 12 (by decide), g 13 (by decide), g 14 (by decide), g 36 (by decide), g 16 (by decide), g 17 (by decide), e 6 (hm 6 (by decide)) 0]
    exact hc.1.1
  · show sf_B (fun i => (I 36 i).toInt)
    rw [g 36 (by decide)]
    exact hc.1.2
/-- the engine keeps it -/
theorem gS_loc {t1 t2 : Nat} : qa_loc (qa_PC t1 t2 qa_foot) gS := by
  intro h I J e hS
  have e' : ∀ o, qa_foot.contains o = true → ∀ i, I o i = h.2.1 o i := fun o ho i => e o i (Or.inl ho)
  have f : ∀ i, qa_foot.contains (1000000 + 1000 * 118 + i) = true → I 118 i = h.2.1 118 i := fun i hi => e 118 i (Or.inr (Or.inr ⟨hi, (17, 105), rfl, by decide⟩))
  have hq : ∀ o ∈ q_objs, qa_foot.contains o = true := by decide
  refine ⟨v_C_cg9 hS.1 (fun o ho i => ?_), v_S_sm hS.2.1 (fun o ho i => e' o (hq o ho) i) (e' 158 (by decide)) (f 18 (by decide)) (f 44 (by decide)) (f 59 (by decide)), wI_same hS.2.2 rfl rfl⟩
  have hx : ∀ o ∈ [6, 11, 12, 13, 14, 16, 17, 36, 150, 151], qa_foot.contains o = true := by decide
  exact e' o (hx o (List.contains_iff_mem.mp ho)) i
