/-! what class and reference have in common, with boxes, ship and yard -/
variable {tb : Int}
noncomputable def gZB (tb : Int) (h : qm_H) : Prop := ((h.2.2.2 28 2 = some 29 ∧ zM 29 0 (pI h.2.1) h.2.1) ∨ (h.2.2.2 28 2 = some 111 ∧ zM 111 1 (pI h.2.1) h.2.1)) ∧ zC (pI h.2.1) h.2.1 ∧ zK (pI h.2.1) ∧ gJ tb h.2.1
noncomputable def gS4B (tb : Int) (h : qm_H) : Prop := gS3 h ∧ gZB tb h
theorem gZ_a {h : qm_H} (hZ : (gZB tb) h) (t : h.2.2.2 28 2 = some 29) : zM 29 0 (pI h.2.1) h.2.1 := hZ.1.elim (fun z => z.2) (fun z => by
  have e := t.symm.trans z.1
  cases e)
theorem gZ_b {h : qm_H} (hZ : (gZB tb) h) (t : h.2.2.2 28 2 = some 111) : zM 111 1 (pI h.2.1) h.2.1 := hZ.1.elim (fun z => by
  have e := t.symm.trans z.1
  cases e) (fun z => z.2)
theorem zI_of {h : qm_H} {t s : Nat} (ht : (t = 29 ∧ s = 0) ∨ (t = 111 ∧ s = 1)) (hB : hk_B h.2.1) (hS : gS h) (hc : zC (pI h.2.1) h.2.1) (hm : zM t s (pI h.2.1) h.2.1) : zI s (pI h.2.1) := by
  refine ⟨⟨hS.2.1.1.1.1, ?_⟩, ⟨fun b => hB 146 b, fun b => hB 150 b, fun b => hB 151 b, fun b => hB 152 b, fun b => hB 153 b, fun b => hB 154 b⟩, hB 118 44, ?_⟩
  · rw [← hc.1.2.2.2.2.2.1]
    exact hS.1.1.2
  · rw [← hm.2.1]
    rcases ht with ⟨rfl, rfl⟩ | ⟨rfl, rfl⟩
    · have b : 2 ≤ (h.2.1 29 0).toInt ∧ (h.2.1 29 0).toInt ≤ 5 := hB 29 0
      omega
    · have b : 2 ≤ (h.2.1 111 0).toInt ∧ (h.2.1 111 0).toInt ≤ 5 := hB 111 0
      omega
/-- the reference's run leaves the class's cells: what A tells of both is what they are -/
theorem zC_end {A : Nat → Nat → Int} {I1 I2 : Nat → Nat → Int32} (hc : zC A I1) (e : ∀ o ∈ [7, 8, 9, 10, 11, 12, 13, 14, 16, 17, 28, 36, 37, 6], ∀ i, I2 o i = I1 o i) (hr : zR A I2) : zC (pI I2) I2 := by
  obtain ⟨⟨c1, c2, c3, c4, c5, c6, c7, c8⟩, ⟨c9, c10⟩, hp, hs⟩ := hc
  obtain ⟨⟨r46, r47, r48, r49, r50, r51, r52, r53, r54⟩, ⟨n1, n2, n3⟩, -⟩ := hr
  have f : ∀ o ∈ [7, 8, 9, 10, 11, 12, 13, 14, 16, 17, 28, 36, 37, 6], pI I2 o = pI I1 o := fun o ho => funext fun i => congrArg Int32.toInt (e o ho i)
  have k44 : pI I2 118 44 = A 118 44 := n1
  refine ⟨⟨(f 7 (by decide)).trans (c1.trans r46.symm), (f 8 (by decide)).trans (c2.trans r47.symm), (f 9 (by decide)).trans (c3.trans r48.symm), (f 10 (by decide)).trans (c4.trans r49.symm), (f 11 (by decide)).trans (c5.trans r50.symm), (f 36 (by decide)).trans (c6.trans r52.symm), (f 16 (by decide)).trans (c7.trans r53.symm), (f 17 (by decide)).trans (c8.trans r54.symm)⟩, ⟨by rw [e 28 (by decide) 4]; exact c9.trans n2.symm, by rw [e 6 (by decide) 0]; exact c10.trans n1.symm⟩, ?_, ?_⟩
  · rw [r50, r51, f 12 (by decide), f 13 (by decide), f 14 (by decide), k44]
    exact hp
  · rw [r46, r50, r51, f 37 (by decide), e 28 (by decide) 5, e 28 (by decide) 6, k44]
    exact hs
theorem zK_end {A : Nat → Nat → Int} {I2 : Nat → Nat → Int32} (hk : zK A) (hr : zR A I2) : zK (pI I2) := by
  obtain ⟨⟨r46, r47, r48, r49, r50, r51, r52, r53, r54⟩, ⟨n1, n2, n3⟩, -⟩ := hr
  have k44 : pI I2 118 44 = A 118 44 := n1
  exact ⟨fun b hb => by rw [r49]; rw [k44] at hb; exact hk.1 b hb, fun b hb => by rw [r46]; rw [k44] at hb; exact hk.2.1 b hb, by rw [r50, r51, r52]; exact hk.2.2⟩
theorem zM_end {t s : Nat} {I I2 : Nat → Nat → Int32} (hm : zM t s (pI I) I) (et : ∀ i, I2 t i = I t i) (e : ∀ o ∈ [127, 128, 129, 131, 132], ∀ i, I2 o i = I o i) (e18 : I2 118 18 = I 118 18) : zM t s (pI I2) I2 := by
  obtain ⟨ms, m0, m1, m2, m3, m4, m6, m7⟩ := hm
  have f : ∀ o ∈ [127, 128, 129, 131, 132], pI I2 o = pI I o := fun o ho => funext fun i => congrArg Int32.toInt (e o ho i)
  refine ⟨?_, ?_, ?_, ?_, ?_, ?_, ?_, ?_⟩
  · show (I2 118 18).toInt = _
    rw [e18]
    exact ms
  · rw [et 0, f 127 (by decide)]
    exact m0
  · rw [et 1, f 128 (by decide)]
    exact m1
  · rw [et 2, f 128 (by decide)]
    exact m2
  · rw [et 3, f 128 (by decide)]
    exact m3
  · rw [et 4, f 129 (by decide)]
    exact m4
  · rw [et 6, f 131 (by decide)]
    exact m6
  · rw [et 7, f 132 (by decide)]
    exact m7
/-- all that is kept, behind a move of the class and the same of the reference -/
theorem gz_fin {h : qm_H} {I1 I2 : Nat → Nat → Int32} {A : Nat → Nat → Int} (h3 : gS3 h) (hZ : (gZB tb) h) (v1 : v_C I1) (f1 : ∀ o, [6, 7, 8, 9, 10, 11, 12, 13, 14, 16, 17, 28, 36, 37].contains o = false → ∀ i, I1 o i = h.2.1 o i) (v2 : v_S I2) (f2 : ∀ o, [118, 146, 147, 148, 149, 150, 151, 152, 153, 154, 155, 156].contains o = false → ∀ i, I2 o i = I1 o i) (f8 : ∀ i, [44, 54].contains i = false → I2 118 i = I1 118 i) (zc : zC A I1) (zr : zR A I2) (zk : zK A) : (gS4B tb) (h.1, I2, h.2.2.1, h.2.2.2) := by
  have g : ∀ o, ([6, 7, 8, 9, 10, 11, 12, 13, 14, 16, 17, 28, 36, 37] ++ [118, 146, 147, 148, 149, 150, 151, 152, 153, 154, 155, 156]).contains o = false → ∀ i, I2 o i = h.2.1 o i := fun o ho i => (f2 o (hk_ms (m2 := [6, 7, 8, 9, 10, 11, 12, 13, 14, 16, 17, 28, 36, 37] ++ [118, 146, 147, 148, 149, 150, 151, 152, 153, 154, 155, 156]) rfl ho) i).trans (f1 o (hk_ms (m2 := [6, 7, 8, 9, 10, 11, 12, 13, 14, 16, 17, 28, 36, 37] ++ [118, 146, 147, 148, 149, 150, 151, 152, 153, 154, 155, 156]) rfl ho) i)
  have g8 : ∀ i, [44, 54].contains i = false → I2 118 i = h.2.1 118 i := fun i hi => (f8 i hi).trans (f1 118 rfl i)
  have s1 : gS (h.1, I1, h.2.2.1, h.2.2.2) := gS_c h3.1.1 v1 f1 (by decide)
  have s2 : gS (h.1, I2, h.2.2.1, h.2.2.2) := gS_r (h := (h.1, I1, h.2.2.1, h.2.2.2)) (mod := [118, 146, 147, 148, 149, 150, 151, 152, 153, 154, 155, 156]) s1 v2 f2 (by decide)
  have zc2 := zC_end zc (fun o ho i => f2 o ((show ∀ o ∈ [7, 8, 9, 10, 11, 12, 13, 14, 16, 17, 28, 36, 37, 6], [118, 146, 147, 148, 149, 150, 151, 152, 153, 154, 155, 156].contains o = false from by decide) o ho) i) zr
  have e60 : I2 6 0 = I2 118 44 := hk_eqi.mpr zc2.2.1.2
  have hR := h3.1.2
  have sub : ∀ o ∈ r_objs, ([6, 7, 8, 9, 10, 11, 12, 13, 14, 16, 17, 28, 36, 37] ++ [118, 146, 147, 148, 149, 150, 151, 152, 153, 154, 155, 156]).contains o = false := by decide
  have r2 : gR I2 := by
    obtain ⟨a, b, c, d, f, y⟩ := hR
    have e : ∀ o ∈ r_objs, ∀ i, I2 o i = h.2.1 o i := fun o ho i => g o (sub o ho) i
    exact ⟨by rw [g 1 rfl 1, g8 2 rfl]; exact a, e60, by rw [g 42 rfl 7, g8 70 rfl]; exact c, fun k => by rw [e 99 (by decide), e 182 (by decide)]; exact d k, gF_cg f e (g 42 rfl 7), gY_cg y e⟩
  have x2 : gX (h.1, I2, h.2.2.1, h.2.2.2) := ⟨gP_cg h3.2.1 (fun o ho i => g o ((show ∀ o ∈ x_objs, ([6, 7, 8, 9, 10, 11, 12, 13, 14, 16, 17, 28, 36, 37] ++ [118, 146, 147, 148, 149, 150, 151, 152, 153, 154, 155, 156]).contains o = false from by decide) o ho) i) (g 1 rfl 1) (g 3 rfl 4) (g8 17 rfl), h3.2.2⟩
  have em : ∀ o ∈ [127, 128, 129, 131, 132], ∀ i, I2 o i = h.2.1 o i := fun o ho i => g o ((show ∀ o ∈ [127, 128, 129, 131, 132], ([6, 7, 8, 9, 10, 11, 12, 13, 14, 16, 17, 28, 36, 37] ++ [118, 146, 147, 148, 149, 150, 151, 152, 153, 154, 155, 156]).contains o = false from by decide) o ho) i
  exact ⟨⟨⟨s2, r2⟩, x2⟩, hZ.1.elim (fun z => Or.inl ⟨z.1, zM_end z.2 (g 29 rfl) em (g8 18 rfl)⟩) (fun z => Or.inr ⟨z.1, zM_end z.2 (g 111 rfl) em (g8 18 rfl)⟩), zc2, zK_end zk zr, gJ_cg hZ.2.2.2 (fun o ho i => g o ((show ∀ o ∈ j_objs, ([6, 7, 8, 9, 10, 11, 12, 13, 14, 16, 17, 28, 36, 37] ++ [118, 146, 147, 148, 149, 150, 151, 152, 153, 154, 155, 156]).contains o = false from by decide) o ho) i) (fun i _ => g 51 rfl i) (fun i hi => g8 i ((show ∀ i ∈ [75, 85, 91, 92, 93, 94], [44, 54].contains i = false from by decide) i hi))⟩
/-- the same behind work: jobs and cranes, too -/
theorem gz_work {tb2 : Int} {h : qm_H} {I1 I2 : Nat → Nat → Int32} {J : Nat → Nat → Int64} {A : Nat → Nat → Int} (h3 : gS3 h) (hZ : (gZB tb) h) (s2 : gS (h.1, I2, J, h.2.2.2)) (kk : kJ kwF (h.1, I2, J, h.2.2.2)) (f1 : ∀ o, (o < 51 ∨ 97 < o) → [11, 12, 13, 14, 16, 17, 28, 36, 37].contains o = false → ∀ i, I1 o i = h.2.1 o i) (f2 : ∀ o, [118, 150, 151, 152, 153, 154, 155, 156, 172, 173, 174, 175, 176, 177, 178, 179, 180, 181].contains o = false → ∀ i, I2 o i = I1 o i) (f8 : ∀ i, [85].contains i = false → I2 118 i = I1 118 i) (zc : zC A I1) (zr : zR A I2) (zk : zK A) (hj : gJ tb2 I2) : gS4B tb2 (h.1, I2, J, h.2.2.2) := by
  have g : ∀ o, (o < 51 ∨ 97 < o) → ([11, 12, 13, 14, 16, 17, 28, 36, 37] ++ [118, 150, 151, 152, 153, 154, 155, 156, 172, 173, 174, 175, 176, 177, 178, 179, 180, 181]).contains o = false → ∀ i, I2 o i = h.2.1 o i := fun o h9 ho i => (f2 o (hk_ms (m2 := [11, 12, 13, 14, 16, 17, 28, 36, 37] ++ [118, 150, 151, 152, 153, 154, 155, 156, 172, 173, 174, 175, 176, 177, 178, 179, 180, 181]) rfl ho) i).trans (f1 o h9 (hk_ms (m2 := [11, 12, 13, 14, 16, 17, 28, 36, 37] ++ [118, 150, 151, 152, 153, 154, 155, 156, 172, 173, 174, 175, 176, 177, 178, 179, 180, 181]) rfl ho) i)
  have g8 : ∀ i, [85].contains i = false → I2 118 i = h.2.1 118 i := fun i hi => (f8 i hi).trans (f1 118 (by decide) rfl i)
  have zc2 := zC_end zc (fun o ho i => f2 o ((show ∀ o ∈ [7, 8, 9, 10, 11, 12, 13, 14, 16, 17, 28, 36, 37, 6], [118, 150, 151, 152, 153, 154, 155, 156, 172, 173, 174, 175, 176, 177, 178, 179, 180, 181].contains o = false from by decide) o ho) i) zr
  have hR := h3.1.2
  have sub : ∀ o ∈ r_objs, (o < 51 ∨ 97 < o) ∧ ([11, 12, 13, 14, 16, 17, 28, 36, 37] ++ [118, 150, 151, 152, 153, 154, 155, 156, 172, 173, 174, 175, 176, 177, 178, 179, 180, 181]).contains o = false := by decide
  have subx : ∀ o ∈ x_objs, (o < 51 ∨ 97 < o) ∧ ([11, 12, 13, 14, 16, 17, 28, 36, 37] ++ [118, 150, 151, 152, 153, 154, 155, 156, 172, 173, 174, 175, 176, 177, 178, 179, 180, 181]).contains o = false := by decide
  have em : ∀ o ∈ [127, 128, 129, 131, 132], ∀ i, I2 o i = h.2.1 o i := fun o ho i => g o ((show ∀ o ∈ [127, 128, 129, 131, 132], (o < 51 ∨ 97 < o) from by decide) o ho) ((show ∀ o ∈ [127, 128, 129, 131, 132], ([11, 12, 13, 14, 16, 17, 28, 36, 37] ++ [118, 150, 151, 152, 153, 154, 155, 156, 172, 173, 174, 175, 176, 177, 178, 179, 180, 181]).contains o = false from by decide) o ho) i
  have r2 : gR I2 := gR_cg hR (fun o ho i => g o (sub o ho).1 (sub o ho).2 i) (g 1 (by decide) rfl 1) (g 6 (by decide) rfl 0) (g 42 (by decide) rfl 7) (g8 2 rfl) (g8 44 rfl) (g8 70 rfl)
  have x2 : gX (h.1, I2, J, h.2.2.2) := ⟨gP_cg h3.2.1 (fun o ho i => g o (subx o ho).1 (subx o ho).2 i) (g 1 (by decide) rfl 1) (g 3 (by decide) rfl 4) (g8 17 rfl), kk⟩
  exact ⟨⟨⟨s2, r2⟩, x2⟩, hZ.1.elim (fun z => Or.inl ⟨z.1, zM_end z.2 (g 29 (by decide) rfl) em (g8 18 rfl)⟩) (fun z => Or.inr ⟨z.1, zM_end z.2 (g 111 (by decide) rfl) em (g8 18 rfl)⟩), zc2, zK_end zk zr, hj⟩
