/-! the engine with boxes, ship and yard alike -/
variable {tb : Int}
noncomputable def z_objs : List Nat := [7, 8, 9, 10, 11, 12, 13, 14, 16, 17, 36, 37, 127, 128, 129, 131, 132, 146, 147, 148, 149, 150, 151, 152, 153, 154, 53, 54, 55, 56, 57, 58, 59, 60, 61, 62, 63, 64, 65, 66, 67, 68, 69, 70, 71, 72, 73, 74, 75, 76, 77, 78, 79, 80, 81, 82, 83, 84, 85, 86, 87, 88, 89, 90, 91, 92, 93, 94, 95, 96, 97, 168, 169, 170, 171, 172, 173, 174, 175, 176, 177, 178, 179, 180, 181]
theorem jz_sub : ∀ o ∈ j_objs, o ∈ z_objs := by decide
theorem zM_cg {t s : Nat} {I I2 : Nat → Nat → Int32} (hm : zM t s (pI I) I) (et : ∀ i ∈ [0, 1, 2, 3, 4, 6, 7], I2 t i = I t i) (e : ∀ o ∈ z_objs, ∀ i, I2 o i = I o i) (e18 : I2 118 18 = I 118 18) : zM t s (pI I2) I2 := by
  obtain ⟨ms, m0, m1, m2, m3, m4, m6, m7⟩ := hm
  have f : ∀ o ∈ z_objs, pI I2 o = pI I o := fun o ho => funext fun i => congrArg Int32.toInt (e o ho i)
  refine ⟨?_, ?_, ?_, ?_, ?_, ?_, ?_, ?_⟩
  · show (I2 118 18).toInt = _
    rw [e18]
    exact ms
  · rw [et 0 (by decide), f 127 (by decide)]
    exact m0
  · rw [et 1 (by decide), f 128 (by decide)]
    exact m1
  · rw [et 2 (by decide), f 128 (by decide)]
    exact m2
  · rw [et 3 (by decide), f 128 (by decide)]
    exact m3
  · rw [et 4 (by decide), f 129 (by decide)]
    exact m4
  · rw [et 6 (by decide), f 131 (by decide)]
    exact m6
  · rw [et 7 (by decide), f 132 (by decide)]
    exact m7
theorem gZ_cg {h h2 : qm_H} (hZ : (gZB tb) h) (e : ∀ o ∈ z_objs, ∀ i, h2.2.1 o i = h.2.1 o i) (e6 : h2.2.1 6 0 = h.2.1 6 0) (f28 : ∀ i ∈ [4, 5, 6], h2.2.1 28 i = h.2.1 28 i) (f29 : ∀ i ∈ [0, 1, 2, 3, 4, 6, 7], h2.2.1 29 i = h.2.1 29 i) (f111 : ∀ i ∈ [0, 1, 2, 3, 4, 6, 7], h2.2.1 111 i = h.2.1 111 i) (f51 : ∀ i ∈ [2, 8, 9, 10, 11, 12], h2.2.1 51 i = h.2.1 51 i) (f118 : ∀ i ∈ [18, 44, 54, 75, 85, 91, 92, 93, 94], h2.2.1 118 i = h.2.1 118 i) (er : h2.2.2.2 28 2 = h.2.2.2 28 2) : (gZB tb) h2 := by
  obtain ⟨hm, hc, hk, hj⟩ := hZ
  have f : ∀ o ∈ z_objs, pI h2.2.1 o = pI h.2.1 o := fun o ho => funext fun i => congrArg Int32.toInt (e o ho i)
  have g : ∀ i ∈ [18, 44, 54, 75, 85, 91, 92, 93, 94], pI h2.2.1 118 i = pI h.2.1 118 i := fun i hi => congrArg Int32.toInt (f118 i hi)
  refine ⟨?_, ?_, ?_, ?_⟩
  · rcases hm with ⟨t, m⟩ | ⟨t, m⟩
    · exact Or.inl ⟨er.trans t, zM_cg m f29 e (f118 18 (by decide))⟩
    · exact Or.inr ⟨er.trans t, zM_cg m f111 e (f118 18 (by decide))⟩
  · obtain ⟨⟨c1, c2, c3, c4, c5, c6, c7, c8⟩, ⟨c9, c10⟩, hp, hs⟩ := hc
    refine ⟨⟨?_, ?_, ?_, ?_, ?_, ?_, ?_, ?_⟩, ⟨?_, ?_⟩, ?_, ?_⟩
    · rw [f 7 (by decide), f 146 (by decide)]; exact c1
    · rw [f 8 (by decide), f 147 (by decide)]; exact c2
    · rw [f 9 (by decide), f 148 (by decide)]; exact c3
    · rw [f 10 (by decide), f 149 (by decide)]; exact c4
    · rw [f 11 (by decide), f 150 (by decide)]; exact c5
    · rw [f 36 (by decide), f 152 (by decide)]; exact c6
    · rw [f 16 (by decide), f 153 (by decide)]; exact c7
    · rw [f 17 (by decide), f 154 (by decide)]; exact c8
    · rw [f28 4 (by decide), g 54 (by decide)]; exact c9
    · rw [e6, g 44 (by decide)]; exact c10
    · rw [f 150 (by decide), f 151 (by decide), f 12 (by decide), f 13 (by decide), f 14 (by decide), g 44 (by decide)]; exact hp
    · rw [f 146 (by decide), f 150 (by decide), f 151 (by decide), f 37 (by decide), f28 5 (by decide), f28 6 (by decide), g 44 (by decide)]; exact hs
  · exact ⟨fun b hb => by rw [f 149 (by decide)]; rw [g 44 (by decide)] at hb; exact hk.1 b hb, fun b hb => by rw [f 146 (by decide)]; rw [g 44 (by decide)] at hb; exact hk.2.1 b hb, by rw [f 150 (by decide), f 151 (by decide), f 152 (by decide)]; exact hk.2.2⟩
  · exact gJ_cg hj (fun o ho i => e o (jz_sub o ho) i) f51 (fun i hi => f118 i ((show ∀ i ∈ [75, 85, 91, 92, 93, 94], i ∈ [18, 44, 54, 75, 85, 91, 92, 93, 94] from by decide) i hi))
noncomputable def qa_foot4 : List Nat := qa_foot3 ++ (z_objs ++ [1028004, 1028005, 1028006, 1029000, 1029001, 1029002, 1029003, 1029004, 1029006, 1029007, 1111000, 1111001, 1111002, 1111003, 1111004, 1111006, 1111007, 1051002, 1051008, 1051009, 1051010, 1051011, 1051012, 1118018, 1118054, 1118075, 1118085, 1118091, 1118092, 1118093, 1118094])
theorem gS4_ru {h : qm_H} (hS : (gS4B tb) h) : hk_ru h.2.1 := gS3_ru hS.1
theorem gS4_loc {t1 t2 : Nat} : qa_locK (qa_PC t1 t2 qa_foot4) (gS4B tb) := by
  intro h I J e hK hS
  have sub : ∀ n, qa_foot3.contains n = true → qa_foot4.contains n = true := fun n hn => List.contains_iff_mem.mpr (List.mem_append_left _ (List.contains_iff_mem.mp hn))
  have sf : ∀ o i, qa_foot4.contains (1000000 + 1000 * o + i) = true → (∃ q, qa_Psh o = some q ∧ 5 ≤ q.1) → I o i = h.2.1 o i := fun o i hi hq => e o i (Or.inr (Or.inr ⟨hi, hq⟩))
  refine ⟨gS3_loc (t1 := t1) (t2 := t2) h I J (fun o i hf => e o i ?_) hK hS.1, gZ_cg hS.2 (fun o ho i => e o i (Or.inl ((show ∀ o ∈ z_objs, qa_foot4.contains o = true from by decide +kernel) o ho))) (e 6 0 (Or.inl (show qa_foot4.contains 6 = true from by decide +kernel))) (fun i hi => sf 28 i ((show ∀ i ∈ [4, 5, 6], qa_foot4.contains (1000000 + 1000 * 28 + i) = true from by decide +kernel) i hi) ⟨(9, 8), rfl, by decide⟩) (fun i hi => sf 29 i ((show ∀ i ∈ [0, 1, 2, 3, 4, 6, 7], qa_foot4.contains (1000000 + 1000 * 29 + i) = true from by decide +kernel) i hi) ⟨(11, 16), rfl, by decide⟩) (fun i hi => sf 111 i ((show ∀ i ∈ [0, 1, 2, 3, 4, 6, 7], qa_foot4.contains (1000000 + 1000 * 111 + i) = true from by decide +kernel) i hi) ⟨(11, 16), rfl, by decide⟩) (fun i hi => sf 51 i ((show ∀ i ∈ [2, 8, 9, 10, 11, 12], qa_foot4.contains (1000000 + 1000 * 51 + i) = true from by decide +kernel) i hi) ⟨(14, 13), rfl, by decide⟩) (fun i hi => sf 118 i ((show ∀ i ∈ [18, 44, 54, 75, 85, 91, 92, 93, 94], qa_foot4.contains (1000000 + 1000 * 118 + i) = true from by decide +kernel) i hi) ⟨(17, 105), rfl, by decide⟩) rfl⟩
  rcases hf with z | z | ⟨z, q⟩
  · exact Or.inl (sub _ z)
  · exact Or.inr (Or.inl z)
  · exact Or.inr (Or.inr ⟨sub _ z, q⟩)
theorem hc4_rwould_R : hk_ct v_R (fun _ => True) (fun as I => ∃ b y r w : Int32, as = [.ref 118, .int b, .int y, .int r, .int w]) 302 (some (-2147483648, 2147483647)) [155] 60 := by
  intro L xs d Z h as h6 hH hT hB hV hp hd k
  obtain ⟨b, y, r, w, rfl⟩ := hp
  obtain ⟨d, rfl⟩ : ∃ e, d = e + 60 := ⟨d - 60, by omega⟩
  show qm_Ru (some (L, xs)) (d + 60) cd_302 (qm_ent 8 [.ref 118, .int b, .int y, .int r, .int w] h) Z
  refine qm_Ru.go 2 (c' := (2, [.ref 118, .int b, .int y, .int r, .int w, .float 0, .float 0, .float 0], [.int b, .ref 118], h)) rfl ?_
  refine hk_inv (o := 118) (r := []) (as := [.ref 118, .int b]) rfl rfl (hH.1 118 (17, 105) rfl) rfl rfl rfl rfl ?_
  refine qm_Ru.go 3 (c' := (3, [.ref 118, .int b], [.ref 118, .int 0, .int b], h)) rfl ?_
  obtain ⟨v1, q_v1⟩ : ∃ v, h.2.1 118 44 = v := ⟨_, rfl⟩
  have b_v1 : (0 : Int) ≤ v1.toInt ∧ v1.toInt ≤ 30 := by rw [← q_v1]; exact hB 118 44
  refine hk_geti (v := v1) rfl (hH.1 118 (17, 105) rfl) rfl q_v1 ?_
  refine qm_Ru.go 2 (c' := (8, [.ref 118, .int b], [.int (v1 - 1), .int 0, .int b], h)) rfl ?_
  obtain ⟨v2, q_v2, e_v2⟩ := hk_sub (x := v1) (y := 1) (a := v1.toInt) (b := 1) rfl rfl (by omega) (by omega)
  rw [q_v2]
  refine qm_Ru.call (j := 270) (as := [.int b, .int 0, .int v2]) (c' := (11, [.ref 118, .int b], [], h)) rfl rfl rfl ?_
  refine qm_Ru.go 2 (c' := (2, [.int b, .int 0, .int v2], [.int 0, .int b], h)) rfl ?_
  refine hk_clt (ix := b.toInt) (iy := 0) rfl rfl rfl (fun z3 => ?_) (fun z3 => ?_)
  · refine qm_Ru.go 1 (c' := (15, [.int b, .int 0, .int v2], [.int 0], h)) rfl ?_
    refine qm_Ru.rt (v := (some (.int 0))) (h' := h) rfl ?_
    refine qm_Ru.go 0 (c' := (11, [.ref 118, .int b], [.int 0], h)) rfl ?_
    refine qm_Ru.rt (v := (some (.int 0))) (h' := h) rfl ?_
    refine qm_Ru.go 2 (c' := (46, [.ref 118, .int b, .int y, .int r, .int w, .float 0, .float 0, .float 0], [.int (-1000000)], h)) rfl ?_
    refine qm_Ru.rt (v := (some (.int (-1000000)))) (h' := h) rfl ?_
    exact k (some (.int (-1000000))) (h.2.1) (h.2.2.1) ⟨_, rfl, ⟨by decide, by decide⟩⟩ hB hV (fun _ _ _ => rfl)
  · refine qm_Ru.go 2 (c' := (7, [.int b, .int 0, .int v2], [.int v2, .int b], h)) rfl ?_
    refine hk_cgt (ix := b.toInt) (iy := v2.toInt) rfl rfl rfl (fun z4 => ?_) (fun z4 => ?_)
    · refine qm_Ru.go 1 (c' := (15, [.int b, .int 0, .int v2], [.int 0], h)) rfl ?_
      refine qm_Ru.rt (v := (some (.int 0))) (h' := h) rfl ?_
      refine qm_Ru.go 0 (c' := (11, [.ref 118, .int b], [.int 0], h)) rfl ?_
      refine qm_Ru.rt (v := (some (.int 0))) (h' := h) rfl ?_
      refine qm_Ru.go 2 (c' := (46, [.ref 118, .int b, .int y, .int r, .int w, .float 0, .float 0, .float 0], [.int (-1000000)], h)) rfl ?_
      refine qm_Ru.rt (v := (some (.int (-1000000)))) (h' := h) rfl ?_
      exact k (some (.int (-1000000))) (h.2.1) (h.2.2.1) ⟨_, rfl, ⟨by decide, by decide⟩⟩ hB hV (fun _ _ _ => rfl)
    · refine qm_Ru.go 2 (c' := (15, [.int b, .int 0, .int v2], [.int 1], h)) rfl ?_
      refine qm_Ru.rt (v := (some (.int 1))) (h' := h) rfl ?_
      refine qm_Ru.go 0 (c' := (11, [.ref 118, .int b], [.int 1], h)) rfl ?_
      refine qm_Ru.rt (v := (some (.int 1))) (h' := h) rfl ?_
      refine qm_Ru.go 2 (c' := (9, [.ref 118, .int b, .int y, .int r, .int w, .float 0, .float 0, .float 0], [.ref 118], h)) rfl ?_
      refine hk_getr rfl (hH.1 118 (17, 105) rfl) rfl (hH.2 118 49 (some 150) rfl) ?_
      refine qm_Ru.go 1 (c' := (13, [.ref 118, .int b, .int y, .int r, .int w, .float 0, .float 0, .float 0], [.int b, .ref 150], h)) rfl ?_
      obtain ⟨v5, q_v5⟩ : ∃ v, h.2.1 150 (b.toInt.toNat) = v := ⟨_, rfl⟩
      have b_v5 : (0 : Int) ≤ v5.toInt ∧ v5.toInt ≤ 2 := by rw [← q_v5]; exact hB 150 (b.toInt.toNat)
      refine hk_ial (v := v5) rfl (hH.1 150 (0, 30) rfl) (by omega) (by omega) q_v5 ?_
      refine qm_Ru.go 1 (c' := (15, [.ref 118, .int b, .int y, .int r, .int w, .float 0, .float 0, .float 0], [.int 1, .int v5], h)) rfl ?_
      refine hk_ceq (ix := v5.toInt) (iy := 1) rfl rfl rfl (fun z6 => ?_) (fun z6 => ?_)
      · refine qm_Ru.go 1 (c' := (46, [.ref 118, .int b, .int y, .int r, .int w, .float 0, .float 0, .float 0], [.int (-1000000)], h)) rfl ?_
        refine qm_Ru.rt (v := (some (.int (-1000000)))) (h' := h) rfl ?_
        exact k (some (.int (-1000000))) (h.2.1) (h.2.2.1) ⟨_, rfl, ⟨by decide, by decide⟩⟩ hB hV (fun _ _ _ => rfl)
      · refine qm_Ru.go 2 (c' := (20, [.ref 118, .int b, .int y, .int r, .int w, .float 0, .float 0, .float 0], [.int y, .ref 118], h)) rfl ?_
        refine hk_inv (o := 118) (r := []) (as := [.ref 118, .int y]) rfl rfl (hH.1 118 (17, 105) rfl) rfl rfl rfl rfl ?_
        refine qm_Ru.go 3 (c' := (3, [.ref 118, .int y], [.ref 118, .int 0, .int y], h)) rfl ?_
        refine hk_getr rfl (hH.1 118 (17, 105) rfl) rfl (hH.2 118 22 (some 127) rfl) ?_
        refine qm_Ru.go 1 (c' := (7, [.ref 118, .int y], [.ref 118, .ref 127, .int 0, .int y], h)) rfl ?_
        obtain ⟨v7, q_v7⟩ : ∃ v, h.2.1 118 18 = v := ⟨_, rfl⟩
        have b_v7 : (0 : Int) ≤ v7.toInt ∧ v7.toInt ≤ 1 := by rw [← q_v7]; exact hB 118 18
        refine hk_geti (v := v7) rfl (hH.1 118 (17, 105) rfl) rfl q_v7 ?_
        refine qm_Ru.go 0 (c' := (10, [.ref 118, .int y], [.int v7, .ref 127, .int 0, .int y], h)) rfl ?_
        obtain ⟨v8, q_v8⟩ : ∃ v, h.2.1 127 (v7.toInt.toNat) = v := ⟨_, rfl⟩
        have b_v8 : (0 : Int) ≤ v8.toInt ∧ v8.toInt ≤ 5 := by rw [← q_v8]; exact hB 127 (v7.toInt.toNat)
        refine hk_ial (v := v8) rfl (hH.1 127 (0, 2) rfl) (by omega) (by omega) q_v8 ?_
        refine qm_Ru.go 2 (c' := (13, [.ref 118, .int y], [.int (v8 - 1), .int 0, .int y], h)) rfl ?_
        obtain ⟨v9, q_v9, e_v9⟩ := hk_sub (x := v8) (y := 1) (a := v8.toInt) (b := 1) rfl rfl (by omega) (by omega)
        rw [q_v9]
        refine qm_Ru.call (j := 270) (as := [.int y, .int 0, .int v9]) (c' := (16, [.ref 118, .int y], [], h)) rfl rfl rfl ?_
        refine qm_Ru.go 2 (c' := (2, [.int y, .int 0, .int v9], [.int 0, .int y], h)) rfl ?_
        refine hk_clt (ix := y.toInt) (iy := 0) rfl rfl rfl (fun z10 => ?_) (fun z10 => ?_)
        · refine qm_Ru.go 1 (c' := (15, [.int y, .int 0, .int v9], [.int 0], h)) rfl ?_
          refine qm_Ru.rt (v := (some (.int 0))) (h' := h) rfl ?_
          refine qm_Ru.go 0 (c' := (16, [.ref 118, .int y], [.int 0], h)) rfl ?_
          refine qm_Ru.rt (v := (some (.int 0))) (h' := h) rfl ?_
          refine qm_Ru.go 2 (c' := (46, [.ref 118, .int b, .int y, .int r, .int w, .float 0, .float 0, .float 0], [.int (-1000000)], h)) rfl ?_
          refine qm_Ru.rt (v := (some (.int (-1000000)))) (h' := h) rfl ?_
          exact k (some (.int (-1000000))) (h.2.1) (h.2.2.1) ⟨_, rfl, ⟨by decide, by decide⟩⟩ hB hV (fun _ _ _ => rfl)
        · refine qm_Ru.go 2 (c' := (7, [.int y, .int 0, .int v9], [.int v9, .int y], h)) rfl ?_
          refine hk_cgt (ix := y.toInt) (iy := v9.toInt) rfl rfl rfl (fun z11 => ?_) (fun z11 => ?_)
          · refine qm_Ru.go 1 (c' := (15, [.int y, .int 0, .int v9], [.int 0], h)) rfl ?_
            refine qm_Ru.rt (v := (some (.int 0))) (h' := h) rfl ?_
            refine qm_Ru.go 0 (c' := (16, [.ref 118, .int y], [.int 0], h)) rfl ?_
            refine qm_Ru.rt (v := (some (.int 0))) (h' := h) rfl ?_
            refine qm_Ru.go 2 (c' := (46, [.ref 118, .int b, .int y, .int r, .int w, .float 0, .float 0, .float 0], [.int (-1000000)], h)) rfl ?_
            refine qm_Ru.rt (v := (some (.int (-1000000)))) (h' := h) rfl ?_
            exact k (some (.int (-1000000))) (h.2.1) (h.2.2.1) ⟨_, rfl, ⟨by decide, by decide⟩⟩ hB hV (fun _ _ _ => rfl)
          · refine qm_Ru.go 2 (c' := (15, [.int y, .int 0, .int v9], [.int 1], h)) rfl ?_
            refine qm_Ru.rt (v := (some (.int 1))) (h' := h) rfl ?_
            refine qm_Ru.go 0 (c' := (16, [.ref 118, .int y], [.int 1], h)) rfl ?_
            refine qm_Ru.rt (v := (some (.int 1))) (h' := h) rfl ?_
            refine qm_Ru.go 2 (c' := (27, [.ref 118, .int b, .int y, .int r, .int w, .float 0, .float 0, .float 0], [.int r], h)) rfl ?_
            refine qm_Ru.call (j := 278) (as := [.int r]) (c' := (30, [.ref 118, .int b, .int y, .int r, .int w, .float 0, .float 0, .float 0], [], h)) rfl rfl rfl ?_
            refine qm_Ru.go 3 (c' := (3, [.int r], [.int 3, .int 0, .int r], h)) rfl ?_
            refine qm_Ru.call (j := 270) (as := [.int r, .int 0, .int 3]) (c' := (6, [.int r], [], h)) rfl rfl rfl ?_
            refine qm_Ru.go 2 (c' := (2, [.int r, .int 0, .int 3], [.int 0, .int r], h)) rfl ?_
            refine hk_clt (ix := r.toInt) (iy := 0) rfl rfl rfl (fun z12 => ?_) (fun z12 => ?_)
            · refine qm_Ru.go 1 (c' := (15, [.int r, .int 0, .int 3], [.int 0], h)) rfl ?_
              refine qm_Ru.rt (v := (some (.int 0))) (h' := h) rfl ?_
              refine qm_Ru.go 0 (c' := (6, [.int r], [.int 0], h)) rfl ?_
              refine qm_Ru.rt (v := (some (.int 0))) (h' := h) rfl ?_
              refine qm_Ru.go 2 (c' := (46, [.ref 118, .int b, .int y, .int r, .int w, .float 0, .float 0, .float 0], [.int (-1000000)], h)) rfl ?_
              refine qm_Ru.rt (v := (some (.int (-1000000)))) (h' := h) rfl ?_
              exact k (some (.int (-1000000))) (h.2.1) (h.2.2.1) ⟨_, rfl, ⟨by decide, by decide⟩⟩ hB hV (fun _ _ _ => rfl)
            · refine qm_Ru.go 2 (c' := (7, [.int r, .int 0, .int 3], [.int 3, .int r], h)) rfl ?_
              refine hk_cgt (ix := r.toInt) (iy := 3) rfl rfl rfl (fun z13 => ?_) (fun z13 => ?_)
              · refine qm_Ru.go 1 (c' := (15, [.int r, .int 0, .int 3], [.int 0], h)) rfl ?_
                refine qm_Ru.rt (v := (some (.int 0))) (h' := h) rfl ?_
                refine qm_Ru.go 0 (c' := (6, [.int r], [.int 0], h)) rfl ?_
                refine qm_Ru.rt (v := (some (.int 0))) (h' := h) rfl ?_
                refine qm_Ru.go 2 (c' := (46, [.ref 118, .int b, .int y, .int r, .int w, .float 0, .float 0, .float 0], [.int (-1000000)], h)) rfl ?_
                refine qm_Ru.rt (v := (some (.int (-1000000)))) (h' := h) rfl ?_
                exact k (some (.int (-1000000))) (h.2.1) (h.2.2.1) ⟨_, rfl, ⟨by decide, by decide⟩⟩ hB hV (fun _ _ _ => rfl)
              · refine qm_Ru.go 2 (c' := (15, [.int r, .int 0, .int 3], [.int 1], h)) rfl ?_
                refine qm_Ru.rt (v := (some (.int 1))) (h' := h) rfl ?_
                refine qm_Ru.go 0 (c' := (6, [.int r], [.int 1], h)) rfl ?_
                refine qm_Ru.rt (v := (some (.int 1))) (h' := h) rfl ?_
                refine qm_Ru.go 4 (c' := (37, [.ref 118, .int b, .int y, .int r, .int w, .float 0, .float 0, .float 0], [.int 2, .int 0, .int w], h)) rfl ?_
                refine qm_Ru.call (j := 270) (as := [.int w, .int 0, .int 2]) (c' := (40, [.ref 118, .int b, .int y, .int r, .int w, .float 0, .float 0, .float 0], [], h)) rfl rfl rfl ?_
                refine qm_Ru.go 2 (c' := (2, [.int w, .int 0, .int 2], [.int 0, .int w], h)) rfl ?_
                refine hk_clt (ix := w.toInt) (iy := 0) rfl rfl rfl (fun z14 => ?_) (fun z14 => ?_)
                · refine qm_Ru.go 1 (c' := (15, [.int w, .int 0, .int 2], [.int 0], h)) rfl ?_
                  refine qm_Ru.rt (v := (some (.int 0))) (h' := h) rfl ?_
                  refine qm_Ru.go 2 (c' := (46, [.ref 118, .int b, .int y, .int r, .int w, .float 0, .float 0, .float 0], [.int (-1000000)], h)) rfl ?_
                  refine qm_Ru.rt (v := (some (.int (-1000000)))) (h' := h) rfl ?_
                  exact k (some (.int (-1000000))) (h.2.1) (h.2.2.1) ⟨_, rfl, ⟨by decide, by decide⟩⟩ hB hV (fun _ _ _ => rfl)
                · refine qm_Ru.go 2 (c' := (7, [.int w, .int 0, .int 2], [.int 2, .int w], h)) rfl ?_
                  refine hk_cgt (ix := w.toInt) (iy := 2) rfl rfl rfl (fun z15 => ?_) (fun z15 => ?_)
                  · refine qm_Ru.go 1 (c' := (15, [.int w, .int 0, .int 2], [.int 0], h)) rfl ?_
                    refine qm_Ru.rt (v := (some (.int 0))) (h' := h) rfl ?_
                    refine qm_Ru.go 2 (c' := (46, [.ref 118, .int b, .int y, .int r, .int w, .float 0, .float 0, .float 0], [.int (-1000000)], h)) rfl ?_
                    refine qm_Ru.rt (v := (some (.int (-1000000)))) (h' := h) rfl ?_
                    exact k (some (.int (-1000000))) (h.2.1) (h.2.2.1) ⟨_, rfl, ⟨by decide, by decide⟩⟩ hB hV (fun _ _ _ => rfl)
                  · refine qm_Ru.go 2 (c' := (15, [.int w, .int 0, .int 2], [.int 1], h)) rfl ?_
                    refine qm_Ru.rt (v := (some (.int 1))) (h' := h) rfl ?_
                    refine qm_Ru.go 2 (c' := (48, [.ref 118, .int b, .int y, .int r, .int w, .float 0, .float 0, .float 0], [.ref 118], h)) rfl ?_
                    refine hk_getr rfl (hH.1 118 (17, 105) rfl) rfl (hH.2 118 49 (some 150) rfl) ?_
                    refine qm_Ru.go 1 (c' := (52, [.ref 118, .int b, .int y, .int r, .int w, .float 0, .float 0, .float 0], [.int b, .ref 150], h)) rfl ?_
                    refine hk_ial (v := v5) rfl (hH.1 150 (0, 30) rfl) (by omega) (by omega) q_v5 ?_
                    refine qm_Ru.go 2 (c' := (56, [.ref 118, .int b, .int y, .int r, .int w, .int v5, .float 0, .float 0], [.ref 118], h)) rfl ?_
                    refine hk_getr rfl (hH.1 118 (17, 105) rfl) rfl (hH.2 118 50 (some 151) rfl) ?_
                    refine qm_Ru.go 1 (c' := (60, [.ref 118, .int b, .int y, .int r, .int w, .int v5, .float 0, .float 0], [.int b, .ref 151], h)) rfl ?_
                    obtain ⟨v16, q_v16⟩ : ∃ v, h.2.1 151 (b.toInt.toNat) = v := ⟨_, rfl⟩
                    have b_v16 : (0 : Int) ≤ v16.toInt ∧ v16.toInt ≤ 79 := by rw [← q_v16]; exact hB 151 (b.toInt.toNat)
                    refine hk_ial (v := v16) rfl (hH.1 151 (0, 30) rfl) (by omega) (by omega) q_v16 ?_
                    refine qm_Ru.go 2 (c' := (64, [.ref 118, .int b, .int y, .int r, .int w, .int v5, .int v16, .float 0], [.ref 118], h)) rfl ?_
                    refine hk_getr rfl (hH.1 118 (17, 105) rfl) rfl (hH.2 118 49 (some 150) rfl) ?_
                    refine qm_Ru.go 2 (c' := (69, [.ref 118, .int b, .int y, .int r, .int w, .int v5, .int v16, .float 0], [.int 1, .int b, .ref 150], h)) rfl ?_
                    refine hk_ias rfl (hH.1 150 (0, 30) rfl) (by omega) (by omega) ?_
                    refine qm_Ru.go 1 (c' := (71, [.ref 118, .int b, .int y, .int r, .int w, .int v5, .int v16, .float 0], [.ref 118], (h.1, qm_up h.2.1 150 (b.toInt.toNat) 1, h.2.2.1, h.2.2.2))) rfl ?_
                    refine hk_getr rfl (hH.1 118 (17, 105) rfl) rfl (hH.2 118 50 (some 151) rfl) ?_
                    refine qm_Ru.go 4 (c' := (79, [.ref 118, .int b, .int y, .int r, .int w, .int v5, .int v16, .float 0], [.int (16 * y), .int b, .ref 151], (h.1, qm_up h.2.1 150 (b.toInt.toNat) 1, h.2.2.1, h.2.2.2))) rfl ?_
                    obtain ⟨v17, q_v17, e_v17⟩ := hk_mul (x := 16) (y := y) (a := 16) (b := y.toInt) rfl rfl (by omega) (by omega)
                    rw [q_v17]
                    refine qm_Ru.go 3 (c' := (82, [.ref 118, .int b, .int y, .int r, .int w, .int v5, .int v16, .float 0], [.int (4 * r), .int v17, .int b, .ref 151], (h.1, qm_up h.2.1 150 (b.toInt.toNat) 1, h.2.2.1, h.2.2.2))) rfl ?_
                    obtain ⟨v18, q_v18, e_v18⟩ := hk_mul (x := 4) (y := r) (a := 4) (b := r.toInt) rfl rfl (by omega) (by omega)
                    rw [q_v18]
                    refine qm_Ru.go 1 (c' := (83, [.ref 118, .int b, .int y, .int r, .int w, .int v5, .int v16, .float 0], [.int (v17 + v18), .int b, .ref 151], (h.1, qm_up h.2.1 150 (b.toInt.toNat) 1, h.2.2.1, h.2.2.2))) rfl ?_
                    obtain ⟨v19, q_v19, e_v19⟩ := hk_add (x := v17) (y := v18) (a := v17.toInt) (b := v18.toInt) rfl rfl (by omega) (by omega)
                    rw [q_v19]
                    refine hk_ias rfl (hH.1 151 (0, 30) rfl) (by omega) (by omega) ?_
                    refine qm_Ru.go 2 (c' := (87, [.ref 118, .int b, .int y, .int r, .int w, .int v5, .int v16, .float 0], [.int w, .ref 118], (h.1, qm_up (qm_up h.2.1 150 (b.toInt.toNat) 1) 151 (b.toInt.toNat) v19, h.2.2.1, h.2.2.2))) rfl ?_
                    refine hk_inv (o := 118) (r := []) (as := [.ref 118, .int w]) rfl rfl (hH.1 118 (17, 105) rfl) rfl rfl rfl rfl (hs_rship (h := (h.1, qm_up (qm_up h.2.1 150 (b.toInt.toNat) 1) 151 (b.toInt.toNat) v19, h.2.2.1, h.2.2.2)) h6 hH (hb_up (o := 151) (k := b.toInt.toNat) (x := v19) (hb_up (o := 150) (k := b.toInt.toNat) (x := 1) hB ⟨(show (0 : Int) ≤ 1 from by decide), (show (1 : Int) ≤ 2 from by decide)⟩) ⟨by show (0 : Int) ≤ v19.toInt; omega, by show v19.toInt ≤ (79 : Int); omega⟩) (ru_would hV) ⟨by show (0 : Int) ≤ w.toInt; omega, by show w.toInt ≤ (2 : Int); omega⟩ (by omega) (fun v22 I20 J21 c_v22 hB_I20 e_I20 => ?_))
                    have b_v22 : (-2147483648 : Int) ≤ v22.toInt ∧ v22.toInt ≤ 2147483647 := c_v22
                    refine qm_Ru.go 2 (c' := (93, [.ref 118, .int b, .int y, .int r, .int w, .int v5, .int v16, .int v22], [.ref 118], (h.1, I20, J21, h.2.2.2))) rfl ?_
                    refine hk_getr rfl (hH.1 118 (17, 105) rfl) rfl (hH.2 118 49 (some 150) rfl) ?_
                    refine qm_Ru.go 2 (c' := (99, [.ref 118, .int b, .int y, .int r, .int w, .int v5, .int v16, .int v22], [.int v5, .int b, .ref 150], (h.1, I20, J21, h.2.2.2))) rfl ?_
                    refine hk_ias rfl (hH.1 150 (0, 30) rfl) (by omega) (by omega) ?_
                    refine qm_Ru.go 1 (c' := (101, [.ref 118, .int b, .int y, .int r, .int w, .int v5, .int v16, .int v22], [.ref 118], (h.1, qm_up I20 150 (b.toInt.toNat) v5, J21, h.2.2.2))) rfl ?_
                    refine hk_getr rfl (hH.1 118 (17, 105) rfl) rfl (hH.2 118 50 (some 151) rfl) ?_
                    refine qm_Ru.go 2 (c' := (107, [.ref 118, .int b, .int y, .int r, .int w, .int v5, .int v16, .int v22], [.int v16, .int b, .ref 151], (h.1, qm_up I20 150 (b.toInt.toNat) v5, J21, h.2.2.2))) rfl ?_
                    refine hk_ias rfl (hH.1 151 (0, 30) rfl) (by omega) (by omega) ?_
                    refine qm_Ru.go 1 (c' := (110, [.ref 118, .int b, .int y, .int r, .int w, .int v5, .int v16, .int v22], [.int v22], (h.1, qm_up (qm_up I20 150 (b.toInt.toNat) v5) 151 (b.toInt.toNat) v16, J21, h.2.2.2))) rfl ?_
                    refine qm_Ru.rt (v := (some (.int v22))) (h' := (h.1, qm_up (qm_up I20 150 (b.toInt.toNat) v5) 151 (b.toInt.toNat) v16, J21, h.2.2.2)) rfl ?_
                    exact k (some (.int v22)) (qm_up (qm_up I20 150 (b.toInt.toNat) v5) 151 (b.toInt.toNat) v16) (J21) ⟨_, rfl, qa_in_full _⟩ (hb_up (o := 151) (k := b.toInt.toNat) (x := v16) (hb_up (o := 150) (k := b.toInt.toNat) (x := v5) hB_I20 ⟨by show (0 : Int) ≤ v5.toInt; omega, by show v5.toInt ≤ (2 : Int); omega⟩) ⟨by show (0 : Int) ≤ v16.toInt; omega, by show v16.toInt ≤ (79 : Int); omega⟩) (v_R_cg hV (would_back e_I20 q_v5 q_v16) rfl) (fun o ho i => (would_back e_I20 q_v5 q_v16) o (hk_ms rfl ho) i)
theorem hc4_rwould : hk_ct v_S (fun _ => True) (fun as I => ∃ b y r w : Int32, as = [.ref 118, .int b, .int y, .int r, .int w]) 302 (some (-2147483648, 2147483647)) [155] 60 := ct_S (ct_Q hc4_rwould_R rfl) ⟨rfl, rfl⟩
theorem hc4_rbreaks : hk_ct v_S (fun _ => True) (fun as I => ∃ b y r : Int32, as = [.ref 118, .int b, .int y, .int r]) 315 (some (-2147483648, 2147483647)) [118, 144, 145] 90 := by
  intro L xs d Z h as h6 hH hT hB hV hp hd k
  obtain ⟨b, y, r, rfl⟩ := hp
  obtain ⟨d, rfl⟩ : ∃ e, d = e + 90 := ⟨d - 90, by omega⟩
  show qm_Ru (some (L, xs)) (d + 90) cd_315 (qm_ent 9 [.ref 118, .int b, .int y, .int r] h) Z
  refine qm_Ru.go 2 (c' := (2, [.ref 118, .int b, .int y, .int r, .float 0, .float 0, .float 0, .float 0, .float 0], [.int b, .ref 118], h)) rfl ?_
  refine hk_inv (o := 118) (r := []) (as := [.ref 118, .int b]) rfl rfl (hH.1 118 (17, 105) rfl) rfl rfl rfl rfl ?_
  refine qm_Ru.go 3 (c' := (3, [.ref 118, .int b], [.ref 118, .int 0, .int b], h)) rfl ?_
  obtain ⟨v1, q_v1⟩ : ∃ v, h.2.1 118 44 = v := ⟨_, rfl⟩
  have b_v1 : (0 : Int) ≤ v1.toInt ∧ v1.toInt ≤ 30 := by rw [← q_v1]; exact hB 118 44
  refine hk_geti (v := v1) rfl (hH.1 118 (17, 105) rfl) rfl q_v1 ?_
  refine qm_Ru.go 2 (c' := (8, [.ref 118, .int b], [.int (v1 - 1), .int 0, .int b], h)) rfl ?_
  obtain ⟨v2, q_v2, e_v2⟩ := hk_sub (x := v1) (y := 1) (a := v1.toInt) (b := 1) rfl rfl (by omega) (by omega)
  rw [q_v2]
  refine qm_Ru.call (j := 270) (as := [.int b, .int 0, .int v2]) (c' := (11, [.ref 118, .int b], [], h)) rfl rfl rfl ?_
  refine qm_Ru.go 2 (c' := (2, [.int b, .int 0, .int v2], [.int 0, .int b], h)) rfl ?_
  refine hk_clt (ix := b.toInt) (iy := 0) rfl rfl rfl (fun z3 => ?_) (fun z3 => ?_)
  · refine qm_Ru.go 1 (c' := (15, [.int b, .int 0, .int v2], [.int 0], h)) rfl ?_
    refine qm_Ru.rt (v := (some (.int 0))) (h' := h) rfl ?_
    refine qm_Ru.go 0 (c' := (11, [.ref 118, .int b], [.int 0], h)) rfl ?_
    refine qm_Ru.rt (v := (some (.int 0))) (h' := h) rfl ?_
    refine qm_Ru.go 2 (c' := (34, [.ref 118, .int b, .int y, .int r, .float 0, .float 0, .float 0, .float 0, .float 0], [.int (-1)], h)) rfl ?_
    refine qm_Ru.rt (v := (some (.int (-1)))) (h' := h) rfl ?_
    exact k (some (.int (-1))) (h.2.1) (h.2.2.1) ⟨_, rfl, ⟨by decide, by decide⟩⟩ hB hV (fun _ _ _ => rfl)
  · refine qm_Ru.go 2 (c' := (7, [.int b, .int 0, .int v2], [.int v2, .int b], h)) rfl ?_
    refine hk_cgt (ix := b.toInt) (iy := v2.toInt) rfl rfl rfl (fun z4 => ?_) (fun z4 => ?_)
    · refine qm_Ru.go 1 (c' := (15, [.int b, .int 0, .int v2], [.int 0], h)) rfl ?_
      refine qm_Ru.rt (v := (some (.int 0))) (h' := h) rfl ?_
      refine qm_Ru.go 0 (c' := (11, [.ref 118, .int b], [.int 0], h)) rfl ?_
      refine qm_Ru.rt (v := (some (.int 0))) (h' := h) rfl ?_
      refine qm_Ru.go 2 (c' := (34, [.ref 118, .int b, .int y, .int r, .float 0, .float 0, .float 0, .float 0, .float 0], [.int (-1)], h)) rfl ?_
      refine qm_Ru.rt (v := (some (.int (-1)))) (h' := h) rfl ?_
      exact k (some (.int (-1))) (h.2.1) (h.2.2.1) ⟨_, rfl, ⟨by decide, by decide⟩⟩ hB hV (fun _ _ _ => rfl)
    · refine qm_Ru.go 2 (c' := (15, [.int b, .int 0, .int v2], [.int 1], h)) rfl ?_
      refine qm_Ru.rt (v := (some (.int 1))) (h' := h) rfl ?_
      refine qm_Ru.go 0 (c' := (11, [.ref 118, .int b], [.int 1], h)) rfl ?_
      refine qm_Ru.rt (v := (some (.int 1))) (h' := h) rfl ?_
      refine qm_Ru.go 2 (c' := (9, [.ref 118, .int b, .int y, .int r, .float 0, .float 0, .float 0, .float 0, .float 0], [.ref 118], h)) rfl ?_
      refine hk_getr rfl (hH.1 118 (17, 105) rfl) rfl (hH.2 118 49 (some 150) rfl) ?_
      refine qm_Ru.go 1 (c' := (13, [.ref 118, .int b, .int y, .int r, .float 0, .float 0, .float 0, .float 0, .float 0], [.int b, .ref 150], h)) rfl ?_
      obtain ⟨v5, q_v5⟩ : ∃ v, h.2.1 150 (b.toInt.toNat) = v := ⟨_, rfl⟩
      have b_v5 : (0 : Int) ≤ v5.toInt ∧ v5.toInt ≤ 2 := by rw [← q_v5]; exact hB 150 (b.toInt.toNat)
      refine hk_ial (v := v5) rfl (hH.1 150 (0, 30) rfl) (by omega) (by omega) q_v5 ?_
      refine qm_Ru.go 1 (c' := (15, [.ref 118, .int b, .int y, .int r, .float 0, .float 0, .float 0, .float 0, .float 0], [.int 1, .int v5], h)) rfl ?_
      refine hk_ceq (ix := v5.toInt) (iy := 1) rfl rfl rfl (fun z6 => ?_) (fun z6 => ?_)
      · refine qm_Ru.go 1 (c' := (34, [.ref 118, .int b, .int y, .int r, .float 0, .float 0, .float 0, .float 0, .float 0], [.int (-1)], h)) rfl ?_
        refine qm_Ru.rt (v := (some (.int (-1)))) (h' := h) rfl ?_
        exact k (some (.int (-1))) (h.2.1) (h.2.2.1) ⟨_, rfl, ⟨by decide, by decide⟩⟩ hB hV (fun _ _ _ => rfl)
      · refine qm_Ru.go 2 (c' := (20, [.ref 118, .int b, .int y, .int r, .float 0, .float 0, .float 0, .float 0, .float 0], [.int y, .ref 118], h)) rfl ?_
        refine hk_inv (o := 118) (r := []) (as := [.ref 118, .int y]) rfl rfl (hH.1 118 (17, 105) rfl) rfl rfl rfl rfl ?_
        refine qm_Ru.go 3 (c' := (3, [.ref 118, .int y], [.ref 118, .int 0, .int y], h)) rfl ?_
        refine hk_getr rfl (hH.1 118 (17, 105) rfl) rfl (hH.2 118 22 (some 127) rfl) ?_
        refine qm_Ru.go 1 (c' := (7, [.ref 118, .int y], [.ref 118, .ref 127, .int 0, .int y], h)) rfl ?_
        obtain ⟨v7, q_v7⟩ : ∃ v, h.2.1 118 18 = v := ⟨_, rfl⟩
        have b_v7 : (0 : Int) ≤ v7.toInt ∧ v7.toInt ≤ 1 := by rw [← q_v7]; exact hB 118 18
        refine hk_geti (v := v7) rfl (hH.1 118 (17, 105) rfl) rfl q_v7 ?_
        refine qm_Ru.go 0 (c' := (10, [.ref 118, .int y], [.int v7, .ref 127, .int 0, .int y], h)) rfl ?_
        obtain ⟨v8, q_v8⟩ : ∃ v, h.2.1 127 (v7.toInt.toNat) = v := ⟨_, rfl⟩
        have b_v8 : (0 : Int) ≤ v8.toInt ∧ v8.toInt ≤ 5 := by rw [← q_v8]; exact hB 127 (v7.toInt.toNat)
        refine hk_ial (v := v8) rfl (hH.1 127 (0, 2) rfl) (by omega) (by omega) q_v8 ?_
        refine qm_Ru.go 2 (c' := (13, [.ref 118, .int y], [.int (v8 - 1), .int 0, .int y], h)) rfl ?_
        obtain ⟨v9, q_v9, e_v9⟩ := hk_sub (x := v8) (y := 1) (a := v8.toInt) (b := 1) rfl rfl (by omega) (by omega)
        rw [q_v9]
        refine qm_Ru.call (j := 270) (as := [.int y, .int 0, .int v9]) (c' := (16, [.ref 118, .int y], [], h)) rfl rfl rfl ?_
        refine qm_Ru.go 2 (c' := (2, [.int y, .int 0, .int v9], [.int 0, .int y], h)) rfl ?_
        refine hk_clt (ix := y.toInt) (iy := 0) rfl rfl rfl (fun z10 => ?_) (fun z10 => ?_)
        · refine qm_Ru.go 1 (c' := (15, [.int y, .int 0, .int v9], [.int 0], h)) rfl ?_
          refine qm_Ru.rt (v := (some (.int 0))) (h' := h) rfl ?_
          refine qm_Ru.go 0 (c' := (16, [.ref 118, .int y], [.int 0], h)) rfl ?_
          refine qm_Ru.rt (v := (some (.int 0))) (h' := h) rfl ?_
          refine qm_Ru.go 2 (c' := (34, [.ref 118, .int b, .int y, .int r, .float 0, .float 0, .float 0, .float 0, .float 0], [.int (-1)], h)) rfl ?_
          refine qm_Ru.rt (v := (some (.int (-1)))) (h' := h) rfl ?_
          exact k (some (.int (-1))) (h.2.1) (h.2.2.1) ⟨_, rfl, ⟨by decide, by decide⟩⟩ hB hV (fun _ _ _ => rfl)
        · refine qm_Ru.go 2 (c' := (7, [.int y, .int 0, .int v9], [.int v9, .int y], h)) rfl ?_
          refine hk_cgt (ix := y.toInt) (iy := v9.toInt) rfl rfl rfl (fun z11 => ?_) (fun z11 => ?_)
          · refine qm_Ru.go 1 (c' := (15, [.int y, .int 0, .int v9], [.int 0], h)) rfl ?_
            refine qm_Ru.rt (v := (some (.int 0))) (h' := h) rfl ?_
            refine qm_Ru.go 0 (c' := (16, [.ref 118, .int y], [.int 0], h)) rfl ?_
            refine qm_Ru.rt (v := (some (.int 0))) (h' := h) rfl ?_
            refine qm_Ru.go 2 (c' := (34, [.ref 118, .int b, .int y, .int r, .float 0, .float 0, .float 0, .float 0, .float 0], [.int (-1)], h)) rfl ?_
            refine qm_Ru.rt (v := (some (.int (-1)))) (h' := h) rfl ?_
            exact k (some (.int (-1))) (h.2.1) (h.2.2.1) ⟨_, rfl, ⟨by decide, by decide⟩⟩ hB hV (fun _ _ _ => rfl)
          · refine qm_Ru.go 2 (c' := (15, [.int y, .int 0, .int v9], [.int 1], h)) rfl ?_
            refine qm_Ru.rt (v := (some (.int 1))) (h' := h) rfl ?_
            refine qm_Ru.go 0 (c' := (16, [.ref 118, .int y], [.int 1], h)) rfl ?_
            refine qm_Ru.rt (v := (some (.int 1))) (h' := h) rfl ?_
            refine qm_Ru.go 2 (c' := (27, [.ref 118, .int b, .int y, .int r, .float 0, .float 0, .float 0, .float 0, .float 0], [.int r], h)) rfl ?_
            refine qm_Ru.call (j := 278) (as := [.int r]) (c' := (30, [.ref 118, .int b, .int y, .int r, .float 0, .float 0, .float 0, .float 0, .float 0], [], h)) rfl rfl rfl ?_
            refine qm_Ru.go 3 (c' := (3, [.int r], [.int 3, .int 0, .int r], h)) rfl ?_
            refine qm_Ru.call (j := 270) (as := [.int r, .int 0, .int 3]) (c' := (6, [.int r], [], h)) rfl rfl rfl ?_
            refine qm_Ru.go 2 (c' := (2, [.int r, .int 0, .int 3], [.int 0, .int r], h)) rfl ?_
            refine hk_clt (ix := r.toInt) (iy := 0) rfl rfl rfl (fun z12 => ?_) (fun z12 => ?_)
            · refine qm_Ru.go 1 (c' := (15, [.int r, .int 0, .int 3], [.int 0], h)) rfl ?_
              refine qm_Ru.rt (v := (some (.int 0))) (h' := h) rfl ?_
              refine qm_Ru.go 0 (c' := (6, [.int r], [.int 0], h)) rfl ?_
              refine qm_Ru.rt (v := (some (.int 0))) (h' := h) rfl ?_
              refine qm_Ru.go 2 (c' := (34, [.ref 118, .int b, .int y, .int r, .float 0, .float 0, .float 0, .float 0, .float 0], [.int (-1)], h)) rfl ?_
              refine qm_Ru.rt (v := (some (.int (-1)))) (h' := h) rfl ?_
              exact k (some (.int (-1))) (h.2.1) (h.2.2.1) ⟨_, rfl, ⟨by decide, by decide⟩⟩ hB hV (fun _ _ _ => rfl)
            · refine qm_Ru.go 2 (c' := (7, [.int r, .int 0, .int 3], [.int 3, .int r], h)) rfl ?_
              refine hk_cgt (ix := r.toInt) (iy := 3) rfl rfl rfl (fun z13 => ?_) (fun z13 => ?_)
              · refine qm_Ru.go 1 (c' := (15, [.int r, .int 0, .int 3], [.int 0], h)) rfl ?_
                refine qm_Ru.rt (v := (some (.int 0))) (h' := h) rfl ?_
                refine qm_Ru.go 0 (c' := (6, [.int r], [.int 0], h)) rfl ?_
                refine qm_Ru.rt (v := (some (.int 0))) (h' := h) rfl ?_
                refine qm_Ru.go 2 (c' := (34, [.ref 118, .int b, .int y, .int r, .float 0, .float 0, .float 0, .float 0, .float 0], [.int (-1)], h)) rfl ?_
                refine qm_Ru.rt (v := (some (.int (-1)))) (h' := h) rfl ?_
                exact k (some (.int (-1))) (h.2.1) (h.2.2.1) ⟨_, rfl, ⟨by decide, by decide⟩⟩ hB hV (fun _ _ _ => rfl)
              · refine qm_Ru.go 2 (c' := (15, [.int r, .int 0, .int 3], [.int 1], h)) rfl ?_
                refine qm_Ru.rt (v := (some (.int 1))) (h' := h) rfl ?_
                refine qm_Ru.go 0 (c' := (6, [.int r], [.int 1], h)) rfl ?_
                refine qm_Ru.rt (v := (some (.int 1))) (h' := h) rfl ?_
                refine qm_Ru.go 4 (c' := (38, [.ref 118, .int b, .int y, .int r, .float 0, .float 0, .float 0, .float 0, .float 0], [.int r, .int y, .ref 118], h)) rfl ?_
                refine hk_inv (o := 118) (r := []) (as := [.ref 118, .int y, .int r]) rfl rfl (hH.1 118 (17, 105) rfl) rfl rfl rfl rfl ?_
                refine qm_Ru.go 3 (c' := (4, [.ref 118, .int y, .int r, .float 0], [.int (16 * y)], h)) rfl ?_
                obtain ⟨v14, q_v14, e_v14⟩ := hk_mul (x := 16) (y := y) (a := 16) (b := y.toInt) rfl rfl (by omega) (by omega)
                rw [q_v14]
                refine qm_Ru.go 3 (c' := (7, [.ref 118, .int y, .int r, .float 0], [.int (4 * r), .int v14], h)) rfl ?_
                obtain ⟨v15, q_v15, e_v15⟩ := hk_mul (x := 4) (y := r) (a := 4) (b := r.toInt) rfl rfl (by omega) (by omega)
                rw [q_v15]
                refine qm_Ru.go 1 (c' := (8, [.ref 118, .int y, .int r, .float 0], [.int (v14 + v15)], h)) rfl ?_
                obtain ⟨v16, q_v16, e_v16⟩ := hk_add (x := v14) (y := v15) (a := v14.toInt) (b := v15.toInt) rfl rfl (by omega) (by omega)
                rw [q_v16]
                refine qm_Ru.go 2 (c' := (10, [.ref 118, .int y, .int r, .float 0], [.int y, .ref 118, .int v16], h)) rfl ?_
                refine hk_inv (o := 118) (r := [.int v16]) (as := [.ref 118, .int y]) rfl rfl (hH.1 118 (17, 105) rfl) rfl rfl rfl rfl ?_
                refine qm_Ru.go 1 (c' := (1, [.ref 118, .int y], [.ref 118], h)) rfl ?_
                obtain ⟨v17, q_v17⟩ : ∃ v, h.2.1 118 54 = v := ⟨_, rfl⟩
                refine hk_geti (v := v17) rfl (hH.1 118 (17, 105) rfl) rfl q_v17 ?_
                refine qm_Ru.go 2 (c' := (6, [.ref 118, .int y], [.int (v17 >>> (y &&& 31))], h)) rfl ?_
                obtain ⟨v18, q_v18⟩ : ∃ v, (v17 >>> (y &&& 31)) = v := ⟨_, rfl⟩
                rw [q_v18]
                refine qm_Ru.go 2 (c' := (8, [.ref 118, .int y], [.int (v18 &&& 1)], h)) rfl ?_
                obtain ⟨v19, q_v19⟩ : ∃ v, (v18 &&& 1) = v := ⟨_, rfl⟩
                rw [q_v19]
                refine qm_Ru.go 1 (c' := (9, [.ref 118, .int y], [.int 1, .int v19], h)) rfl ?_
                refine hk_cne (ix := v19.toInt) (iy := 1) rfl rfl rfl (fun z20 => ?_) (fun z20 => ?_)
                · refine qm_Ru.go 1 (c' := (17, [.ref 118, .int y], [.int 0], h)) rfl ?_
                  refine qm_Ru.rt (v := (some (.int 0))) (h' := h) rfl ?_
                  refine qm_Ru.go 3 (c' := (22, [.ref 118, .int y, .int r, .float 0], [.int (v16 + 0)], h)) rfl ?_
                  obtain ⟨v21, q_v21, e_v21⟩ := hk_add (x := v16) (y := 0) (a := v16.toInt) (b := 0) rfl rfl (by omega) (by omega)
                  rw [q_v21]
                  refine qm_Ru.go 2 (c' := (24, [.ref 118, .int y, .int r, .int v21], [.ref 118], h)) rfl ?_
                  refine hk_getr rfl (hH.1 118 (17, 105) rfl) rfl (hH.2 118 51 (some 152) rfl) ?_
                  refine qm_Ru.go 1 (c' := (28, [.ref 118, .int y, .int r, .int v21], [.int v21, .ref 152], h)) rfl ?_
                  obtain ⟨v22, q_v22⟩ : ∃ v, h.2.1 152 (v21.toInt.toNat) = v := ⟨_, rfl⟩
                  have b_v22 : (-1 : Int) ≤ v22.toInt ∧ v22.toInt ≤ 29 := by rw [← q_v22]; exact hB 152 (v21.toInt.toNat)
                  refine hk_ial (v := v22) rfl (hH.1 152 (0, 80) rfl) (by omega) (by omega) q_v22 ?_
                  refine qm_Ru.go 1 (c' := (30, [.ref 118, .int y, .int r, .int v21], [.int (-1), .int v22], h)) rfl ?_
                  refine hk_cne (ix := v22.toInt) (iy := (-1)) rfl rfl rfl (fun z23 => ?_) (fun z23 => ?_)
                  · refine qm_Ru.go 1 (c' := (38, [.ref 118, .int y, .int r, .int v21], [.ref 118], h)) rfl ?_
                    refine hk_getr rfl (hH.1 118 (17, 105) rfl) rfl (hH.2 118 51 (some 152) rfl) ?_
                    refine qm_Ru.go 3 (c' := (44, [.ref 118, .int y, .int r, .int v21], [.int (v21 + 1), .ref 152], h)) rfl ?_
                    obtain ⟨v24, q_v24, e_v24⟩ := hk_add (x := v21) (y := 1) (a := v21.toInt) (b := 1) rfl rfl (by omega) (by omega)
                    rw [q_v24]
                    obtain ⟨v25, q_v25⟩ : ∃ v, h.2.1 152 (v24.toInt.toNat) = v := ⟨_, rfl⟩
                    have b_v25 : (-1 : Int) ≤ v25.toInt ∧ v25.toInt ≤ 29 := by rw [← q_v25]; exact hB 152 (v24.toInt.toNat)
                    refine hk_ial (v := v25) rfl (hH.1 152 (0, 80) rfl) (by omega) (by omega) q_v25 ?_
                    refine qm_Ru.go 1 (c' := (46, [.ref 118, .int y, .int r, .int v21], [.int (-1), .int v25], h)) rfl ?_
                    refine hk_cne (ix := v25.toInt) (iy := (-1)) rfl rfl rfl (fun z26 => ?_) (fun z26 => ?_)
                    · refine qm_Ru.go 1 (c' := (56, [.ref 118, .int y, .int r, .int v21], [.int (-1)], h)) rfl ?_
                      refine qm_Ru.rt (v := (some (.int (-1)))) (h' := h) rfl ?_
                      refine qm_Ru.go 5 (c' := (50, [.ref 118, .int b, .int y, .int r, .int (-1), .float 0, .float 0, .float 0, .float 0], [.int (-1)], h)) rfl ?_
                      refine qm_Ru.rt (v := (some (.int (-1)))) (h' := h) rfl ?_
                      exact k (some (.int (-1))) (h.2.1) (h.2.2.1) ⟨_, rfl, ⟨by decide, by decide⟩⟩ hB hV (fun _ _ _ => rfl)
                    · refine qm_Ru.go 3 (c' := (52, [.ref 118, .int y, .int r, .int v21], [.int (v21 + 1)], h)) rfl ?_
                      rw [q_v24]
                      refine qm_Ru.go 1 (c' := (56, [.ref 118, .int y, .int r, .int v21], [.int v24], h)) rfl ?_
                      refine qm_Ru.rt (v := (some (.int v24))) (h' := h) rfl ?_
                      refine qm_Ru.go 3 (c' := (46, [.ref 118, .int b, .int y, .int r, .int v24, .float 0, .float 0, .float 0, .float 0], [.int (-1), .int v24], h)) rfl ?_
                      refine hk_cne (ix := v24.toInt) (iy := (-1)) rfl rfl rfl (fun z28 => ?_) (fun z28 => by exfalso; omega)
                      refine qm_Ru.go 1 (c' := (52, [.ref 118, .int b, .int y, .int r, .int v24, .float 0, .float 0, .float 0, .float 0], [.ref 118], h)) rfl ?_
                      refine hk_inv (o := 118) (r := []) (as := [.ref 118]) rfl rfl (hH.1 118 (17, 105) rfl) rfl rfl rfl rfl (hs_broken (h := h) h6 hH hB  (show s_P (h.2.1) from (s_P_cg3 hV.1.2 rfl rfl rfl rfl rfl rfl rfl rfl rfl rfl)) (fun v31 I29 J30 hB_I29 e_I29 e8_I29 => ?_))
                      refine qm_Ru.go 2 (c' := (58, [.ref 118, .int b, .int y, .int r, .int v24, .int v31, .float 0, .float 0, .float 0], [.ref 118], (h.1, I29, J30, h.2.2.2))) rfl ?_
                      refine hk_getr rfl (hH.1 118 (17, 105) rfl) rfl (hH.2 118 49 (some 150) rfl) ?_
                      refine qm_Ru.go 1 (c' := (62, [.ref 118, .int b, .int y, .int r, .int v24, .int v31, .float 0, .float 0, .float 0], [.int b, .ref 150], (h.1, I29, J30, h.2.2.2))) rfl ?_
                      refine hk_ial (v := v5) rfl (hH.1 150 (0, 30) rfl) (by omega) (by omega) (show (I29) 150 (b.toInt.toNat) = _ from ((e_I29 150 rfl (b.toInt.toNat)).trans q_v5)) ?_
                      refine qm_Ru.go 2 (c' := (66, [.ref 118, .int b, .int y, .int r, .int v24, .int v31, .int v5, .float 0, .float 0], [.ref 118], (h.1, I29, J30, h.2.2.2))) rfl ?_
                      refine hk_getr rfl (hH.1 118 (17, 105) rfl) rfl (hH.2 118 50 (some 151) rfl) ?_
                      refine qm_Ru.go 1 (c' := (70, [.ref 118, .int b, .int y, .int r, .int v24, .int v31, .int v5, .float 0, .float 0], [.int b, .ref 151], (h.1, I29, J30, h.2.2.2))) rfl ?_
                      obtain ⟨v32, q_v32⟩ : ∃ v, h.2.1 151 (b.toInt.toNat) = v := ⟨_, rfl⟩
                      have b_v32 : (0 : Int) ≤ v32.toInt ∧ v32.toInt ≤ 79 := by rw [← q_v32]; exact hB 151 (b.toInt.toNat)
                      refine hk_ial (v := v32) rfl (hH.1 151 (0, 30) rfl) (by omega) (by omega) (show (I29) 151 (b.toInt.toNat) = _ from ((e_I29 151 rfl (b.toInt.toNat)).trans q_v32)) ?_
                      refine qm_Ru.go 2 (c' := (74, [.ref 118, .int b, .int y, .int r, .int v24, .int v31, .int v5, .int v32, .float 0], [.ref 118], (h.1, I29, J30, h.2.2.2))) rfl ?_
                      refine hk_getr rfl (hH.1 118 (17, 105) rfl) rfl (hH.2 118 49 (some 150) rfl) ?_
                      refine qm_Ru.go 2 (c' := (79, [.ref 118, .int b, .int y, .int r, .int v24, .int v31, .int v5, .int v32, .float 0], [.int 1, .int b, .ref 150], (h.1, I29, J30, h.2.2.2))) rfl ?_
                      refine hk_ias rfl (hH.1 150 (0, 30) rfl) (by omega) (by omega) ?_
                      refine qm_Ru.go 1 (c' := (81, [.ref 118, .int b, .int y, .int r, .int v24, .int v31, .int v5, .int v32, .float 0], [.ref 118], (h.1, qm_up I29 150 (b.toInt.toNat) 1, J30, h.2.2.2))) rfl ?_
                      refine hk_getr rfl (hH.1 118 (17, 105) rfl) rfl (hH.2 118 50 (some 151) rfl) ?_
                      refine qm_Ru.go 2 (c' := (87, [.ref 118, .int b, .int y, .int r, .int v24, .int v31, .int v5, .int v32, .float 0], [.int v24, .int b, .ref 151], (h.1, qm_up I29 150 (b.toInt.toNat) 1, J30, h.2.2.2))) rfl ?_
                      refine hk_ias rfl (hH.1 151 (0, 30) rfl) (by omega) (by omega) ?_
                      refine qm_Ru.go 1 (c' := (89, [.ref 118, .int b, .int y, .int r, .int v24, .int v31, .int v5, .int v32, .float 0], [.ref 118], (h.1, qm_up (qm_up I29 150 (b.toInt.toNat) 1) 151 (b.toInt.toNat) v24, J30, h.2.2.2))) rfl ?_
                      refine hk_inv (o := 118) (r := []) (as := [.ref 118]) rfl rfl (hH.1 118 (17, 105) rfl) rfl rfl rfl rfl (hs_broken (h := (h.1, qm_up (qm_up I29 150 (b.toInt.toNat) 1) 151 (b.toInt.toNat) v24, J30, h.2.2.2)) h6 hH (hb_up (o := 151) (k := b.toInt.toNat) (x := v24) (hb_up (o := 150) (k := b.toInt.toNat) (x := 1) hB_I29 ⟨(show (0 : Int) ≤ 1 from by decide), (show (1 : Int) ≤ 2 from by decide)⟩) ⟨by show (0 : Int) ≤ v24.toInt; omega, by show v24.toInt ≤ (79 : Int); omega⟩)  (show s_P (qm_up (qm_up I29 150 (b.toInt.toNat) 1) 151 (b.toInt.toNat) v24) from (s_P_cg3 hV.1.2 ((pI_sk rfl).trans ((pI_sk rfl).trans ((funext fun i => congrArg Int32.toInt (e_I29 131 rfl i)).trans rfl))) ((pI_sk rfl).trans ((pI_sk rfl).trans ((funext fun i => congrArg Int32.toInt (e_I29 132 rfl i)).trans rfl))) ((pI_sk rfl).trans ((pI_sk rfl).trans ((funext fun i => congrArg Int32.toInt (e_I29 133 rfl i)).trans rfl))) ((pI_sk rfl).trans ((pI_sk rfl).trans ((funext fun i => congrArg Int32.toInt (e_I29 134 rfl i)).trans rfl))) ((pI_sk rfl).trans ((pI_sk rfl).trans ((funext fun i => congrArg Int32.toInt (e_I29 138 rfl i)).trans rfl))) ((pI_sk rfl).trans ((pI_sk rfl).trans ((funext fun i => congrArg Int32.toInt (e_I29 139 rfl i)).trans rfl))) ((pI_sk rfl).trans ((pI_sk rfl).trans ((funext fun i => congrArg Int32.toInt (e_I29 140 rfl i)).trans rfl))) ((pI_sk rfl).trans ((pI_sk rfl).trans ((funext fun i => congrArg Int32.toInt (e_I29 141 rfl i)).trans rfl))) ((pI_sk rfl).trans ((pI_sk rfl).trans ((funext fun i => congrArg Int32.toInt (e_I29 142 rfl i)).trans rfl))) ((hk_ot rfl).trans ((hk_ot rfl).trans ((e8_I29 18 (by decide)).trans rfl))))) (fun v35 I33 J34 hB_I33 e_I33 e8_I33 => ?_))
                      have e_I33 : ∀ o, [118, 144, 145].contains o = false → ∀ i, I33 o i = (qm_up (qm_up I29 150 (b.toInt.toNat) 1) 151 (b.toInt.toNat) v24) o i := e_I33
                      have e8_I33 : ∀ i, i ≠ 57 → I33 118 i = (qm_up (qm_up I29 150 (b.toInt.toNat) 1) 151 (b.toInt.toNat) v24) 118 i := e8_I33
                      refine qm_Ru.go 2 (c' := (95, [.ref 118, .int b, .int y, .int r, .int v24, .int v31, .int v5, .int v32, .int v35], [.ref 118], (h.1, I33, J34, h.2.2.2))) rfl ?_
                      refine hk_getr rfl (hH.1 118 (17, 105) rfl) rfl (hH.2 118 49 (some 150) rfl) ?_
                      refine qm_Ru.go 2 (c' := (101, [.ref 118, .int b, .int y, .int r, .int v24, .int v31, .int v5, .int v32, .int v35], [.int v5, .int b, .ref 150], (h.1, I33, J34, h.2.2.2))) rfl ?_
                      refine hk_ias rfl (hH.1 150 (0, 30) rfl) (by omega) (by omega) ?_
                      refine qm_Ru.go 1 (c' := (103, [.ref 118, .int b, .int y, .int r, .int v24, .int v31, .int v5, .int v32, .int v35], [.ref 118], (h.1, qm_up I33 150 (b.toInt.toNat) v5, J34, h.2.2.2))) rfl ?_
                      refine hk_getr rfl (hH.1 118 (17, 105) rfl) rfl (hH.2 118 50 (some 151) rfl) ?_
                      refine qm_Ru.go 2 (c' := (109, [.ref 118, .int b, .int y, .int r, .int v24, .int v31, .int v5, .int v32, .int v35], [.int v32, .int b, .ref 151], (h.1, qm_up I33 150 (b.toInt.toNat) v5, J34, h.2.2.2))) rfl ?_
                      refine hk_ias rfl (hH.1 151 (0, 30) rfl) (by omega) (by omega) ?_
                      refine qm_Ru.go 3 (c' := (115, [.ref 118, .int b, .int y, .int r, .int v24, .int v31, .int v5, .int v32, .int v35], [.int (v35 - v31)], (h.1, qm_up (qm_up I33 150 (b.toInt.toNat) v5) 151 (b.toInt.toNat) v32, J34, h.2.2.2))) rfl ?_
                      obtain ⟨v36, q_v36⟩ : ∃ v, (v35 - v31) = v := ⟨_, rfl⟩
                      rw [q_v36]
                      refine qm_Ru.rt (v := (some (.int v36))) (h' := (h.1, qm_up (qm_up I33 150 (b.toInt.toNat) v5) 151 (b.toInt.toNat) v32, J34, h.2.2.2)) rfl ?_
                      exact k (some (.int v36)) (qm_up (qm_up I33 150 (b.toInt.toNat) v5) 151 (b.toInt.toNat) v32) (J34) ⟨_, rfl, qa_in_full _⟩ (hb_up (o := 151) (k := b.toInt.toNat) (x := v32) (hb_up (o := 150) (k := b.toInt.toNat) (x := v5) hB_I33 ⟨by show (0 : Int) ≤ v5.toInt; omega, by show v5.toInt ≤ (2 : Int); omega⟩) ⟨by show (0 : Int) ≤ v32.toInt; omega, by show v32.toInt ≤ (79 : Int); omega⟩) (v_S_cg8 (mod := [118, 144, 145]) hV (fun o ho i => (would_back e_I33 ((e_I29 150 rfl (b.toInt.toNat)).trans q_v5) ((e_I29 151 rfl (b.toInt.toNat)).trans q_v32) o ho i).trans (e_I29 o ho i)) (fun i hi => (hk_ot rfl).trans ((hk_ot rfl).trans ((e8_I33 i hi).trans ((hk_ot rfl).trans ((hk_ot rfl).trans (e8_I29 i hi)))))) rfl) (fun o ho i => (fun o ho i => (would_back e_I33 ((e_I29 150 rfl (b.toInt.toNat)).trans q_v5) ((e_I29 151 rfl (b.toInt.toNat)).trans q_v32) o ho i).trans (e_I29 o ho i)) o (hk_ms rfl ho) i)
                  · refine qm_Ru.go 2 (c' := (56, [.ref 118, .int y, .int r, .int v21], [.int v21], h)) rfl ?_
                    refine qm_Ru.rt (v := (some (.int v21))) (h' := h) rfl ?_
                    refine qm_Ru.go 3 (c' := (46, [.ref 118, .int b, .int y, .int r, .int v21, .float 0, .float 0, .float 0, .float 0], [.int (-1), .int v21], h)) rfl ?_
                    refine hk_cne (ix := v21.toInt) (iy := (-1)) rfl rfl rfl (fun z37 => ?_) (fun z37 => by exfalso; omega)
                    refine qm_Ru.go 1 (c' := (52, [.ref 118, .int b, .int y, .int r, .int v21, .float 0, .float 0, .float 0, .float 0], [.ref 118], h)) rfl ?_
                    refine hk_inv (o := 118) (r := []) (as := [.ref 118]) rfl rfl (hH.1 118 (17, 105) rfl) rfl rfl rfl rfl (hs_broken (h := h) h6 hH hB  (show s_P (h.2.1) from (s_P_cg3 hV.1.2 rfl rfl rfl rfl rfl rfl rfl rfl rfl rfl)) (fun v40 I38 J39 hB_I38 e_I38 e8_I38 => ?_))
                    refine qm_Ru.go 2 (c' := (58, [.ref 118, .int b, .int y, .int r, .int v21, .int v40, .float 0, .float 0, .float 0], [.ref 118], (h.1, I38, J39, h.2.2.2))) rfl ?_
                    refine hk_getr rfl (hH.1 118 (17, 105) rfl) rfl (hH.2 118 49 (some 150) rfl) ?_
                    refine qm_Ru.go 1 (c' := (62, [.ref 118, .int b, .int y, .int r, .int v21, .int v40, .float 0, .float 0, .float 0], [.int b, .ref 150], (h.1, I38, J39, h.2.2.2))) rfl ?_
                    refine hk_ial (v := v5) rfl (hH.1 150 (0, 30) rfl) (by omega) (by omega) (show (I38) 150 (b.toInt.toNat) = _ from ((e_I38 150 rfl (b.toInt.toNat)).trans q_v5)) ?_
                    refine qm_Ru.go 2 (c' := (66, [.ref 118, .int b, .int y, .int r, .int v21, .int v40, .int v5, .float 0, .float 0], [.ref 118], (h.1, I38, J39, h.2.2.2))) rfl ?_
                    refine hk_getr rfl (hH.1 118 (17, 105) rfl) rfl (hH.2 118 50 (some 151) rfl) ?_
                    refine qm_Ru.go 1 (c' := (70, [.ref 118, .int b, .int y, .int r, .int v21, .int v40, .int v5, .float 0, .float 0], [.int b, .ref 151], (h.1, I38, J39, h.2.2.2))) rfl ?_
                    obtain ⟨v41, q_v41⟩ : ∃ v, h.2.1 151 (b.toInt.toNat) = v := ⟨_, rfl⟩
                    have b_v41 : (0 : Int) ≤ v41.toInt ∧ v41.toInt ≤ 79 := by rw [← q_v41]; exact hB 151 (b.toInt.toNat)
                    refine hk_ial (v := v41) rfl (hH.1 151 (0, 30) rfl) (by omega) (by omega) (show (I38) 151 (b.toInt.toNat) = _ from ((e_I38 151 rfl (b.toInt.toNat)).trans q_v41)) ?_
                    refine qm_Ru.go 2 (c' := (74, [.ref 118, .int b, .int y, .int r, .int v21, .int v40, .int v5, .int v41, .float 0], [.ref 118], (h.1, I38, J39, h.2.2.2))) rfl ?_
                    refine hk_getr rfl (hH.1 118 (17, 105) rfl) rfl (hH.2 118 49 (some 150) rfl) ?_
                    refine qm_Ru.go 2 (c' := (79, [.ref 118, .int b, .int y, .int r, .int v21, .int v40, .int v5, .int v41, .float 0], [.int 1, .int b, .ref 150], (h.1, I38, J39, h.2.2.2))) rfl ?_
                    refine hk_ias rfl (hH.1 150 (0, 30) rfl) (by omega) (by omega) ?_
                    refine qm_Ru.go 1 (c' := (81, [.ref 118, .int b, .int y, .int r, .int v21, .int v40, .int v5, .int v41, .float 0], [.ref 118], (h.1, qm_up I38 150 (b.toInt.toNat) 1, J39, h.2.2.2))) rfl ?_
                    refine hk_getr rfl (hH.1 118 (17, 105) rfl) rfl (hH.2 118 50 (some 151) rfl) ?_
                    refine qm_Ru.go 2 (c' := (87, [.ref 118, .int b, .int y, .int r, .int v21, .int v40, .int v5, .int v41, .float 0], [.int v21, .int b, .ref 151], (h.1, qm_up I38 150 (b.toInt.toNat) 1, J39, h.2.2.2))) rfl ?_
                    refine hk_ias rfl (hH.1 151 (0, 30) rfl) (by omega) (by omega) ?_
                    refine qm_Ru.go 1 (c' := (89, [.ref 118, .int b, .int y, .int r, .int v21, .int v40, .int v5, .int v41, .float 0], [.ref 118], (h.1, qm_up (qm_up I38 150 (b.toInt.toNat) 1) 151 (b.toInt.toNat) v21, J39, h.2.2.2))) rfl ?_
                    refine hk_inv (o := 118) (r := []) (as := [.ref 118]) rfl rfl (hH.1 118 (17, 105) rfl) rfl rfl rfl rfl (hs_broken (h := (h.1, qm_up (qm_up I38 150 (b.toInt.toNat) 1) 151 (b.toInt.toNat) v21, J39, h.2.2.2)) h6 hH (hb_up (o := 151) (k := b.toInt.toNat) (x := v21) (hb_up (o := 150) (k := b.toInt.toNat) (x := 1) hB_I38 ⟨(show (0 : Int) ≤ 1 from by decide), (show (1 : Int) ≤ 2 from by decide)⟩) ⟨by show (0 : Int) ≤ v21.toInt; omega, by show v21.toInt ≤ (79 : Int); omega⟩)  (show s_P (qm_up (qm_up I38 150 (b.toInt.toNat) 1) 151 (b.toInt.toNat) v21) from (s_P_cg3 hV.1.2 ((pI_sk rfl).trans ((pI_sk rfl).trans ((funext fun i => congrArg Int32.toInt (e_I38 131 rfl i)).trans rfl))) ((pI_sk rfl).trans ((pI_sk rfl).trans ((funext fun i => congrArg Int32.toInt (e_I38 132 rfl i)).trans rfl))) ((pI_sk rfl).trans ((pI_sk rfl).trans ((funext fun i => congrArg Int32.toInt (e_I38 133 rfl i)).trans rfl))) ((pI_sk rfl).trans ((pI_sk rfl).trans ((funext fun i => congrArg Int32.toInt (e_I38 134 rfl i)).trans rfl))) ((pI_sk rfl).trans ((pI_sk rfl).trans ((funext fun i => congrArg Int32.toInt (e_I38 138 rfl i)).trans rfl))) ((pI_sk rfl).trans ((pI_sk rfl).trans ((funext fun i => congrArg Int32.toInt (e_I38 139 rfl i)).trans rfl))) ((pI_sk rfl).trans ((pI_sk rfl).trans ((funext fun i => congrArg Int32.toInt (e_I38 140 rfl i)).trans rfl))) ((pI_sk rfl).trans ((pI_sk rfl).trans ((funext fun i => congrArg Int32.toInt (e_I38 141 rfl i)).trans rfl))) ((pI_sk rfl).trans ((pI_sk rfl).trans ((funext fun i => congrArg Int32.toInt (e_I38 142 rfl i)).trans rfl))) ((hk_ot rfl).trans ((hk_ot rfl).trans ((e8_I38 18 (by decide)).trans rfl))))) (fun v44 I42 J43 hB_I42 e_I42 e8_I42 => ?_))
                    have e_I42 : ∀ o, [118, 144, 145].contains o = false → ∀ i, I42 o i = (qm_up (qm_up I38 150 (b.toInt.toNat) 1) 151 (b.toInt.toNat) v21) o i := e_I42
                    have e8_I42 : ∀ i, i ≠ 57 → I42 118 i = (qm_up (qm_up I38 150 (b.toInt.toNat) 1) 151 (b.toInt.toNat) v21) 118 i := e8_I42
                    refine qm_Ru.go 2 (c' := (95, [.ref 118, .int b, .int y, .int r, .int v21, .int v40, .int v5, .int v41, .int v44], [.ref 118], (h.1, I42, J43, h.2.2.2))) rfl ?_
                    refine hk_getr rfl (hH.1 118 (17, 105) rfl) rfl (hH.2 118 49 (some 150) rfl) ?_
                    refine qm_Ru.go 2 (c' := (101, [.ref 118, .int b, .int y, .int r, .int v21, .int v40, .int v5, .int v41, .int v44], [.int v5, .int b, .ref 150], (h.1, I42, J43, h.2.2.2))) rfl ?_
                    refine hk_ias rfl (hH.1 150 (0, 30) rfl) (by omega) (by omega) ?_
                    refine qm_Ru.go 1 (c' := (103, [.ref 118, .int b, .int y, .int r, .int v21, .int v40, .int v5, .int v41, .int v44], [.ref 118], (h.1, qm_up I42 150 (b.toInt.toNat) v5, J43, h.2.2.2))) rfl ?_
                    refine hk_getr rfl (hH.1 118 (17, 105) rfl) rfl (hH.2 118 50 (some 151) rfl) ?_
                    refine qm_Ru.go 2 (c' := (109, [.ref 118, .int b, .int y, .int r, .int v21, .int v40, .int v5, .int v41, .int v44], [.int v41, .int b, .ref 151], (h.1, qm_up I42 150 (b.toInt.toNat) v5, J43, h.2.2.2))) rfl ?_
                    refine hk_ias rfl (hH.1 151 (0, 30) rfl) (by omega) (by omega) ?_
                    refine qm_Ru.go 3 (c' := (115, [.ref 118, .int b, .int y, .int r, .int v21, .int v40, .int v5, .int v41, .int v44], [.int (v44 - v40)], (h.1, qm_up (qm_up I42 150 (b.toInt.toNat) v5) 151 (b.toInt.toNat) v41, J43, h.2.2.2))) rfl ?_
                    obtain ⟨v45, q_v45⟩ : ∃ v, (v44 - v40) = v := ⟨_, rfl⟩
                    rw [q_v45]
                    refine qm_Ru.rt (v := (some (.int v45))) (h' := (h.1, qm_up (qm_up I42 150 (b.toInt.toNat) v5) 151 (b.toInt.toNat) v41, J43, h.2.2.2)) rfl ?_
                    exact k (some (.int v45)) (qm_up (qm_up I42 150 (b.toInt.toNat) v5) 151 (b.toInt.toNat) v41) (J43) ⟨_, rfl, qa_in_full _⟩ (hb_up (o := 151) (k := b.toInt.toNat) (x := v41) (hb_up (o := 150) (k := b.toInt.toNat) (x := v5) hB_I42 ⟨by show (0 : Int) ≤ v5.toInt; omega, by show v5.toInt ≤ (2 : Int); omega⟩) ⟨by show (0 : Int) ≤ v41.toInt; omega, by show v41.toInt ≤ (79 : Int); omega⟩) (v_S_cg8 (mod := [118, 144, 145]) hV (fun o ho i => (would_back e_I42 ((e_I38 150 rfl (b.toInt.toNat)).trans q_v5) ((e_I38 151 rfl (b.toInt.toNat)).trans q_v41) o ho i).trans (e_I38 o ho i)) (fun i hi => (hk_ot rfl).trans ((hk_ot rfl).trans ((e8_I42 i hi).trans ((hk_ot rfl).trans ((hk_ot rfl).trans (e8_I38 i hi)))))) rfl) (fun o ho i => (fun o ho i => (would_back e_I42 ((e_I38 150 rfl (b.toInt.toNat)).trans q_v5) ((e_I38 151 rfl (b.toInt.toNat)).trans q_v41) o ho i).trans (e_I38 o ho i)) o (hk_ms rfl ho) i)
                · refine qm_Ru.go 2 (c' := (17, [.ref 118, .int y], [.int 1], h)) rfl ?_
                  refine qm_Ru.rt (v := (some (.int 1))) (h' := h) rfl ?_
                  refine qm_Ru.go 4 (c' := (22, [.ref 118, .int y, .int r, .float 0], [.int (v16 + 2)], h)) rfl ?_
                  obtain ⟨v46, q_v46, e_v46⟩ := hk_add (x := v16) (y := 2) (a := v16.toInt) (b := 2) rfl rfl (by omega) (by omega)
                  rw [q_v46]
                  refine qm_Ru.go 2 (c' := (24, [.ref 118, .int y, .int r, .int v46], [.ref 118], h)) rfl ?_
                  refine hk_getr rfl (hH.1 118 (17, 105) rfl) rfl (hH.2 118 51 (some 152) rfl) ?_
                  refine qm_Ru.go 1 (c' := (28, [.ref 118, .int y, .int r, .int v46], [.int v46, .ref 152], h)) rfl ?_
                  obtain ⟨v47, q_v47⟩ : ∃ v, h.2.1 152 (v46.toInt.toNat) = v := ⟨_, rfl⟩
                  have b_v47 : (-1 : Int) ≤ v47.toInt ∧ v47.toInt ≤ 29 := by rw [← q_v47]; exact hB 152 (v46.toInt.toNat)
                  refine hk_ial (v := v47) rfl (hH.1 152 (0, 80) rfl) (by omega) (by omega) q_v47 ?_
                  refine qm_Ru.go 1 (c' := (30, [.ref 118, .int y, .int r, .int v46], [.int (-1), .int v47], h)) rfl ?_
                  refine hk_cne (ix := v47.toInt) (iy := (-1)) rfl rfl rfl (fun z48 => ?_) (fun z48 => ?_)
                  · refine qm_Ru.go 1 (c' := (38, [.ref 118, .int y, .int r, .int v46], [.ref 118], h)) rfl ?_
                    refine hk_getr rfl (hH.1 118 (17, 105) rfl) rfl (hH.2 118 51 (some 152) rfl) ?_
                    refine qm_Ru.go 3 (c' := (44, [.ref 118, .int y, .int r, .int v46], [.int (v46 + 1), .ref 152], h)) rfl ?_
                    obtain ⟨v49, q_v49, e_v49⟩ := hk_add (x := v46) (y := 1) (a := v46.toInt) (b := 1) rfl rfl (by omega) (by omega)
                    rw [q_v49]
                    obtain ⟨v50, q_v50⟩ : ∃ v, h.2.1 152 (v49.toInt.toNat) = v := ⟨_, rfl⟩
                    have b_v50 : (-1 : Int) ≤ v50.toInt ∧ v50.toInt ≤ 29 := by rw [← q_v50]; exact hB 152 (v49.toInt.toNat)
                    refine hk_ial (v := v50) rfl (hH.1 152 (0, 80) rfl) (by omega) (by omega) q_v50 ?_
                    refine qm_Ru.go 1 (c' := (46, [.ref 118, .int y, .int r, .int v46], [.int (-1), .int v50], h)) rfl ?_
                    refine hk_cne (ix := v50.toInt) (iy := (-1)) rfl rfl rfl (fun z51 => ?_) (fun z51 => ?_)
                    · refine qm_Ru.go 1 (c' := (56, [.ref 118, .int y, .int r, .int v46], [.int (-1)], h)) rfl ?_
                      refine qm_Ru.rt (v := (some (.int (-1)))) (h' := h) rfl ?_
                      refine qm_Ru.go 5 (c' := (50, [.ref 118, .int b, .int y, .int r, .int (-1), .float 0, .float 0, .float 0, .float 0], [.int (-1)], h)) rfl ?_
                      refine qm_Ru.rt (v := (some (.int (-1)))) (h' := h) rfl ?_
                      exact k (some (.int (-1))) (h.2.1) (h.2.2.1) ⟨_, rfl, ⟨by decide, by decide⟩⟩ hB hV (fun _ _ _ => rfl)
                    · refine qm_Ru.go 3 (c' := (52, [.ref 118, .int y, .int r, .int v46], [.int (v46 + 1)], h)) rfl ?_
                      rw [q_v49]
                      refine qm_Ru.go 1 (c' := (56, [.ref 118, .int y, .int r, .int v46], [.int v49], h)) rfl ?_
                      refine qm_Ru.rt (v := (some (.int v49))) (h' := h) rfl ?_
                      refine qm_Ru.go 3 (c' := (46, [.ref 118, .int b, .int y, .int r, .int v49, .float 0, .float 0, .float 0, .float 0], [.int (-1), .int v49], h)) rfl ?_
                      refine hk_cne (ix := v49.toInt) (iy := (-1)) rfl rfl rfl (fun z53 => ?_) (fun z53 => by exfalso; omega)
                      refine qm_Ru.go 1 (c' := (52, [.ref 118, .int b, .int y, .int r, .int v49, .float 0, .float 0, .float 0, .float 0], [.ref 118], h)) rfl ?_
                      refine hk_inv (o := 118) (r := []) (as := [.ref 118]) rfl rfl (hH.1 118 (17, 105) rfl) rfl rfl rfl rfl (hs_broken (h := h) h6 hH hB  (show s_P (h.2.1) from (s_P_cg3 hV.1.2 rfl rfl rfl rfl rfl rfl rfl rfl rfl rfl)) (fun v56 I54 J55 hB_I54 e_I54 e8_I54 => ?_))
                      refine qm_Ru.go 2 (c' := (58, [.ref 118, .int b, .int y, .int r, .int v49, .int v56, .float 0, .float 0, .float 0], [.ref 118], (h.1, I54, J55, h.2.2.2))) rfl ?_
                      refine hk_getr rfl (hH.1 118 (17, 105) rfl) rfl (hH.2 118 49 (some 150) rfl) ?_
                      refine qm_Ru.go 1 (c' := (62, [.ref 118, .int b, .int y, .int r, .int v49, .int v56, .float 0, .float 0, .float 0], [.int b, .ref 150], (h.1, I54, J55, h.2.2.2))) rfl ?_
                      refine hk_ial (v := v5) rfl (hH.1 150 (0, 30) rfl) (by omega) (by omega) (show (I54) 150 (b.toInt.toNat) = _ from ((e_I54 150 rfl (b.toInt.toNat)).trans q_v5)) ?_
                      refine qm_Ru.go 2 (c' := (66, [.ref 118, .int b, .int y, .int r, .int v49, .int v56, .int v5, .float 0, .float 0], [.ref 118], (h.1, I54, J55, h.2.2.2))) rfl ?_
                      refine hk_getr rfl (hH.1 118 (17, 105) rfl) rfl (hH.2 118 50 (some 151) rfl) ?_
                      refine qm_Ru.go 1 (c' := (70, [.ref 118, .int b, .int y, .int r, .int v49, .int v56, .int v5, .float 0, .float 0], [.int b, .ref 151], (h.1, I54, J55, h.2.2.2))) rfl ?_
                      obtain ⟨v57, q_v57⟩ : ∃ v, h.2.1 151 (b.toInt.toNat) = v := ⟨_, rfl⟩
                      have b_v57 : (0 : Int) ≤ v57.toInt ∧ v57.toInt ≤ 79 := by rw [← q_v57]; exact hB 151 (b.toInt.toNat)
                      refine hk_ial (v := v57) rfl (hH.1 151 (0, 30) rfl) (by omega) (by omega) (show (I54) 151 (b.toInt.toNat) = _ from ((e_I54 151 rfl (b.toInt.toNat)).trans q_v57)) ?_
                      refine qm_Ru.go 2 (c' := (74, [.ref 118, .int b, .int y, .int r, .int v49, .int v56, .int v5, .int v57, .float 0], [.ref 118], (h.1, I54, J55, h.2.2.2))) rfl ?_
                      refine hk_getr rfl (hH.1 118 (17, 105) rfl) rfl (hH.2 118 49 (some 150) rfl) ?_
                      refine qm_Ru.go 2 (c' := (79, [.ref 118, .int b, .int y, .int r, .int v49, .int v56, .int v5, .int v57, .float 0], [.int 1, .int b, .ref 150], (h.1, I54, J55, h.2.2.2))) rfl ?_
                      refine hk_ias rfl (hH.1 150 (0, 30) rfl) (by omega) (by omega) ?_
                      refine qm_Ru.go 1 (c' := (81, [.ref 118, .int b, .int y, .int r, .int v49, .int v56, .int v5, .int v57, .float 0], [.ref 118], (h.1, qm_up I54 150 (b.toInt.toNat) 1, J55, h.2.2.2))) rfl ?_
                      refine hk_getr rfl (hH.1 118 (17, 105) rfl) rfl (hH.2 118 50 (some 151) rfl) ?_
                      refine qm_Ru.go 2 (c' := (87, [.ref 118, .int b, .int y, .int r, .int v49, .int v56, .int v5, .int v57, .float 0], [.int v49, .int b, .ref 151], (h.1, qm_up I54 150 (b.toInt.toNat) 1, J55, h.2.2.2))) rfl ?_
                      refine hk_ias rfl (hH.1 151 (0, 30) rfl) (by omega) (by omega) ?_
                      refine qm_Ru.go 1 (c' := (89, [.ref 118, .int b, .int y, .int r, .int v49, .int v56, .int v5, .int v57, .float 0], [.ref 118], (h.1, qm_up (qm_up I54 150 (b.toInt.toNat) 1) 151 (b.toInt.toNat) v49, J55, h.2.2.2))) rfl ?_
                      refine hk_inv (o := 118) (r := []) (as := [.ref 118]) rfl rfl (hH.1 118 (17, 105) rfl) rfl rfl rfl rfl (hs_broken (h := (h.1, qm_up (qm_up I54 150 (b.toInt.toNat) 1) 151 (b.toInt.toNat) v49, J55, h.2.2.2)) h6 hH (hb_up (o := 151) (k := b.toInt.toNat) (x := v49) (hb_up (o := 150) (k := b.toInt.toNat) (x := 1) hB_I54 ⟨(show (0 : Int) ≤ 1 from by decide), (show (1 : Int) ≤ 2 from by decide)⟩) ⟨by show (0 : Int) ≤ v49.toInt; omega, by show v49.toInt ≤ (79 : Int); omega⟩)  (show s_P (qm_up (qm_up I54 150 (b.toInt.toNat) 1) 151 (b.toInt.toNat) v49) from (s_P_cg3 hV.1.2 ((pI_sk rfl).trans ((pI_sk rfl).trans ((funext fun i => congrArg Int32.toInt (e_I54 131 rfl i)).trans rfl))) ((pI_sk rfl).trans ((pI_sk rfl).trans ((funext fun i => congrArg Int32.toInt (e_I54 132 rfl i)).trans rfl))) ((pI_sk rfl).trans ((pI_sk rfl).trans ((funext fun i => congrArg Int32.toInt (e_I54 133 rfl i)).trans rfl))) ((pI_sk rfl).trans ((pI_sk rfl).trans ((funext fun i => congrArg Int32.toInt (e_I54 134 rfl i)).trans rfl))) ((pI_sk rfl).trans ((pI_sk rfl).trans ((funext fun i => congrArg Int32.toInt (e_I54 138 rfl i)).trans rfl))) ((pI_sk rfl).trans ((pI_sk rfl).trans ((funext fun i => congrArg Int32.toInt (e_I54 139 rfl i)).trans rfl))) ((pI_sk rfl).trans ((pI_sk rfl).trans ((funext fun i => congrArg Int32.toInt (e_I54 140 rfl i)).trans rfl))) ((pI_sk rfl).trans ((pI_sk rfl).trans ((funext fun i => congrArg Int32.toInt (e_I54 141 rfl i)).trans rfl))) ((pI_sk rfl).trans ((pI_sk rfl).trans ((funext fun i => congrArg Int32.toInt (e_I54 142 rfl i)).trans rfl))) ((hk_ot rfl).trans ((hk_ot rfl).trans ((e8_I54 18 (by decide)).trans rfl))))) (fun v60 I58 J59 hB_I58 e_I58 e8_I58 => ?_))
                      have e_I58 : ∀ o, [118, 144, 145].contains o = false → ∀ i, I58 o i = (qm_up (qm_up I54 150 (b.toInt.toNat) 1) 151 (b.toInt.toNat) v49) o i := e_I58
                      have e8_I58 : ∀ i, i ≠ 57 → I58 118 i = (qm_up (qm_up I54 150 (b.toInt.toNat) 1) 151 (b.toInt.toNat) v49) 118 i := e8_I58
                      refine qm_Ru.go 2 (c' := (95, [.ref 118, .int b, .int y, .int r, .int v49, .int v56, .int v5, .int v57, .int v60], [.ref 118], (h.1, I58, J59, h.2.2.2))) rfl ?_
                      refine hk_getr rfl (hH.1 118 (17, 105) rfl) rfl (hH.2 118 49 (some 150) rfl) ?_
                      refine qm_Ru.go 2 (c' := (101, [.ref 118, .int b, .int y, .int r, .int v49, .int v56, .int v5, .int v57, .int v60], [.int v5, .int b, .ref 150], (h.1, I58, J59, h.2.2.2))) rfl ?_
                      refine hk_ias rfl (hH.1 150 (0, 30) rfl) (by omega) (by omega) ?_
                      refine qm_Ru.go 1 (c' := (103, [.ref 118, .int b, .int y, .int r, .int v49, .int v56, .int v5, .int v57, .int v60], [.ref 118], (h.1, qm_up I58 150 (b.toInt.toNat) v5, J59, h.2.2.2))) rfl ?_
                      refine hk_getr rfl (hH.1 118 (17, 105) rfl) rfl (hH.2 118 50 (some 151) rfl) ?_
                      refine qm_Ru.go 2 (c' := (109, [.ref 118, .int b, .int y, .int r, .int v49, .int v56, .int v5, .int v57, .int v60], [.int v57, .int b, .ref 151], (h.1, qm_up I58 150 (b.toInt.toNat) v5, J59, h.2.2.2))) rfl ?_
                      refine hk_ias rfl (hH.1 151 (0, 30) rfl) (by omega) (by omega) ?_
                      refine qm_Ru.go 3 (c' := (115, [.ref 118, .int b, .int y, .int r, .int v49, .int v56, .int v5, .int v57, .int v60], [.int (v60 - v56)], (h.1, qm_up (qm_up I58 150 (b.toInt.toNat) v5) 151 (b.toInt.toNat) v57, J59, h.2.2.2))) rfl ?_
                      obtain ⟨v61, q_v61⟩ : ∃ v, (v60 - v56) = v := ⟨_, rfl⟩
                      rw [q_v61]
                      refine qm_Ru.rt (v := (some (.int v61))) (h' := (h.1, qm_up (qm_up I58 150 (b.toInt.toNat) v5) 151 (b.toInt.toNat) v57, J59, h.2.2.2)) rfl ?_
                      exact k (some (.int v61)) (qm_up (qm_up I58 150 (b.toInt.toNat) v5) 151 (b.toInt.toNat) v57) (J59) ⟨_, rfl, qa_in_full _⟩ (hb_up (o := 151) (k := b.toInt.toNat) (x := v57) (hb_up (o := 150) (k := b.toInt.toNat) (x := v5) hB_I58 ⟨by show (0 : Int) ≤ v5.toInt; omega, by show v5.toInt ≤ (2 : Int); omega⟩) ⟨by show (0 : Int) ≤ v57.toInt; omega, by show v57.toInt ≤ (79 : Int); omega⟩) (v_S_cg8 (mod := [118, 144, 145]) hV (fun o ho i => (would_back e_I58 ((e_I54 150 rfl (b.toInt.toNat)).trans q_v5) ((e_I54 151 rfl (b.toInt.toNat)).trans q_v57) o ho i).trans (e_I54 o ho i)) (fun i hi => (hk_ot rfl).trans ((hk_ot rfl).trans ((e8_I58 i hi).trans ((hk_ot rfl).trans ((hk_ot rfl).trans (e8_I54 i hi)))))) rfl) (fun o ho i => (fun o ho i => (would_back e_I58 ((e_I54 150 rfl (b.toInt.toNat)).trans q_v5) ((e_I54 151 rfl (b.toInt.toNat)).trans q_v57) o ho i).trans (e_I54 o ho i)) o (hk_ms rfl ho) i)
                  · refine qm_Ru.go 2 (c' := (56, [.ref 118, .int y, .int r, .int v46], [.int v46], h)) rfl ?_
                    refine qm_Ru.rt (v := (some (.int v46))) (h' := h) rfl ?_
                    refine qm_Ru.go 3 (c' := (46, [.ref 118, .int b, .int y, .int r, .int v46, .float 0, .float 0, .float 0, .float 0], [.int (-1), .int v46], h)) rfl ?_
                    refine hk_cne (ix := v46.toInt) (iy := (-1)) rfl rfl rfl (fun z62 => ?_) (fun z62 => by exfalso; omega)
                    refine qm_Ru.go 1 (c' := (52, [.ref 118, .int b, .int y, .int r, .int v46, .float 0, .float 0, .float 0, .float 0], [.ref 118], h)) rfl ?_
                    refine hk_inv (o := 118) (r := []) (as := [.ref 118]) rfl rfl (hH.1 118 (17, 105) rfl) rfl rfl rfl rfl (hs_broken (h := h) h6 hH hB  (show s_P (h.2.1) from (s_P_cg3 hV.1.2 rfl rfl rfl rfl rfl rfl rfl rfl rfl rfl)) (fun v65 I63 J64 hB_I63 e_I63 e8_I63 => ?_))
                    refine qm_Ru.go 2 (c' := (58, [.ref 118, .int b, .int y, .int r, .int v46, .int v65, .float 0, .float 0, .float 0], [.ref 118], (h.1, I63, J64, h.2.2.2))) rfl ?_
                    refine hk_getr rfl (hH.1 118 (17, 105) rfl) rfl (hH.2 118 49 (some 150) rfl) ?_
                    refine qm_Ru.go 1 (c' := (62, [.ref 118, .int b, .int y, .int r, .int v46, .int v65, .float 0, .float 0, .float 0], [.int b, .ref 150], (h.1, I63, J64, h.2.2.2))) rfl ?_
                    refine hk_ial (v := v5) rfl (hH.1 150 (0, 30) rfl) (by omega) (by omega) (show (I63) 150 (b.toInt.toNat) = _ from ((e_I63 150 rfl (b.toInt.toNat)).trans q_v5)) ?_
                    refine qm_Ru.go 2 (c' := (66, [.ref 118, .int b, .int y, .int r, .int v46, .int v65, .int v5, .float 0, .float 0], [.ref 118], (h.1, I63, J64, h.2.2.2))) rfl ?_
                    refine hk_getr rfl (hH.1 118 (17, 105) rfl) rfl (hH.2 118 50 (some 151) rfl) ?_
                    refine qm_Ru.go 1 (c' := (70, [.ref 118, .int b, .int y, .int r, .int v46, .int v65, .int v5, .float 0, .float 0], [.int b, .ref 151], (h.1, I63, J64, h.2.2.2))) rfl ?_
                    obtain ⟨v66, q_v66⟩ : ∃ v, h.2.1 151 (b.toInt.toNat) = v := ⟨_, rfl⟩
                    have b_v66 : (0 : Int) ≤ v66.toInt ∧ v66.toInt ≤ 79 := by rw [← q_v66]; exact hB 151 (b.toInt.toNat)
                    refine hk_ial (v := v66) rfl (hH.1 151 (0, 30) rfl) (by omega) (by omega) (show (I63) 151 (b.toInt.toNat) = _ from ((e_I63 151 rfl (b.toInt.toNat)).trans q_v66)) ?_
                    refine qm_Ru.go 2 (c' := (74, [.ref 118, .int b, .int y, .int r, .int v46, .int v65, .int v5, .int v66, .float 0], [.ref 118], (h.1, I63, J64, h.2.2.2))) rfl ?_
                    refine hk_getr rfl (hH.1 118 (17, 105) rfl) rfl (hH.2 118 49 (some 150) rfl) ?_
                    refine qm_Ru.go 2 (c' := (79, [.ref 118, .int b, .int y, .int r, .int v46, .int v65, .int v5, .int v66, .float 0], [.int 1, .int b, .ref 150], (h.1, I63, J64, h.2.2.2))) rfl ?_
                    refine hk_ias rfl (hH.1 150 (0, 30) rfl) (by omega) (by omega) ?_
                    refine qm_Ru.go 1 (c' := (81, [.ref 118, .int b, .int y, .int r, .int v46, .int v65, .int v5, .int v66, .float 0], [.ref 118], (h.1, qm_up I63 150 (b.toInt.toNat) 1, J64, h.2.2.2))) rfl ?_
                    refine hk_getr rfl (hH.1 118 (17, 105) rfl) rfl (hH.2 118 50 (some 151) rfl) ?_
                    refine qm_Ru.go 2 (c' := (87, [.ref 118, .int b, .int y, .int r, .int v46, .int v65, .int v5, .int v66, .float 0], [.int v46, .int b, .ref 151], (h.1, qm_up I63 150 (b.toInt.toNat) 1, J64, h.2.2.2))) rfl ?_
                    refine hk_ias rfl (hH.1 151 (0, 30) rfl) (by omega) (by omega) ?_
                    refine qm_Ru.go 1 (c' := (89, [.ref 118, .int b, .int y, .int r, .int v46, .int v65, .int v5, .int v66, .float 0], [.ref 118], (h.1, qm_up (qm_up I63 150 (b.toInt.toNat) 1) 151 (b.toInt.toNat) v46, J64, h.2.2.2))) rfl ?_
                    refine hk_inv (o := 118) (r := []) (as := [.ref 118]) rfl rfl (hH.1 118 (17, 105) rfl) rfl rfl rfl rfl (hs_broken (h := (h.1, qm_up (qm_up I63 150 (b.toInt.toNat) 1) 151 (b.toInt.toNat) v46, J64, h.2.2.2)) h6 hH (hb_up (o := 151) (k := b.toInt.toNat) (x := v46) (hb_up (o := 150) (k := b.toInt.toNat) (x := 1) hB_I63 ⟨(show (0 : Int) ≤ 1 from by decide), (show (1 : Int) ≤ 2 from by decide)⟩) ⟨by show (0 : Int) ≤ v46.toInt; omega, by show v46.toInt ≤ (79 : Int); omega⟩)  (show s_P (qm_up (qm_up I63 150 (b.toInt.toNat) 1) 151 (b.toInt.toNat) v46) from (s_P_cg3 hV.1.2 ((pI_sk rfl).trans ((pI_sk rfl).trans ((funext fun i => congrArg Int32.toInt (e_I63 131 rfl i)).trans rfl))) ((pI_sk rfl).trans ((pI_sk rfl).trans ((funext fun i => congrArg Int32.toInt (e_I63 132 rfl i)).trans rfl))) ((pI_sk rfl).trans ((pI_sk rfl).trans ((funext fun i => congrArg Int32.toInt (e_I63 133 rfl i)).trans rfl))) ((pI_sk rfl).trans ((pI_sk rfl).trans ((funext fun i => congrArg Int32.toInt (e_I63 134 rfl i)).trans rfl))) ((pI_sk rfl).trans ((pI_sk rfl).trans ((funext fun i => congrArg Int32.toInt (e_I63 138 rfl i)).trans rfl))) ((pI_sk rfl).trans ((pI_sk rfl).trans ((funext fun i => congrArg Int32.toInt (e_I63 139 rfl i)).trans rfl))) ((pI_sk rfl).trans ((pI_sk rfl).trans ((funext fun i => congrArg Int32.toInt (e_I63 140 rfl i)).trans rfl))) ((pI_sk rfl).trans ((pI_sk rfl).trans ((funext fun i => congrArg Int32.toInt (e_I63 141 rfl i)).trans rfl))) ((pI_sk rfl).trans ((pI_sk rfl).trans ((funext fun i => congrArg Int32.toInt (e_I63 142 rfl i)).trans rfl))) ((hk_ot rfl).trans ((hk_ot rfl).trans ((e8_I63 18 (by decide)).trans rfl))))) (fun v69 I67 J68 hB_I67 e_I67 e8_I67 => ?_))
                    have e_I67 : ∀ o, [118, 144, 145].contains o = false → ∀ i, I67 o i = (qm_up (qm_up I63 150 (b.toInt.toNat) 1) 151 (b.toInt.toNat) v46) o i := e_I67
                    have e8_I67 : ∀ i, i ≠ 57 → I67 118 i = (qm_up (qm_up I63 150 (b.toInt.toNat) 1) 151 (b.toInt.toNat) v46) 118 i := e8_I67
                    refine qm_Ru.go 2 (c' := (95, [.ref 118, .int b, .int y, .int r, .int v46, .int v65, .int v5, .int v66, .int v69], [.ref 118], (h.1, I67, J68, h.2.2.2))) rfl ?_
                    refine hk_getr rfl (hH.1 118 (17, 105) rfl) rfl (hH.2 118 49 (some 150) rfl) ?_
                    refine qm_Ru.go 2 (c' := (101, [.ref 118, .int b, .int y, .int r, .int v46, .int v65, .int v5, .int v66, .int v69], [.int v5, .int b, .ref 150], (h.1, I67, J68, h.2.2.2))) rfl ?_
                    refine hk_ias rfl (hH.1 150 (0, 30) rfl) (by omega) (by omega) ?_
                    refine qm_Ru.go 1 (c' := (103, [.ref 118, .int b, .int y, .int r, .int v46, .int v65, .int v5, .int v66, .int v69], [.ref 118], (h.1, qm_up I67 150 (b.toInt.toNat) v5, J68, h.2.2.2))) rfl ?_
                    refine hk_getr rfl (hH.1 118 (17, 105) rfl) rfl (hH.2 118 50 (some 151) rfl) ?_
                    refine qm_Ru.go 2 (c' := (109, [.ref 118, .int b, .int y, .int r, .int v46, .int v65, .int v5, .int v66, .int v69], [.int v66, .int b, .ref 151], (h.1, qm_up I67 150 (b.toInt.toNat) v5, J68, h.2.2.2))) rfl ?_
                    refine hk_ias rfl (hH.1 151 (0, 30) rfl) (by omega) (by omega) ?_
                    refine qm_Ru.go 3 (c' := (115, [.ref 118, .int b, .int y, .int r, .int v46, .int v65, .int v5, .int v66, .int v69], [.int (v69 - v65)], (h.1, qm_up (qm_up I67 150 (b.toInt.toNat) v5) 151 (b.toInt.toNat) v66, J68, h.2.2.2))) rfl ?_
                    obtain ⟨v70, q_v70⟩ : ∃ v, (v69 - v65) = v := ⟨_, rfl⟩
                    rw [q_v70]
                    refine qm_Ru.rt (v := (some (.int v70))) (h' := (h.1, qm_up (qm_up I67 150 (b.toInt.toNat) v5) 151 (b.toInt.toNat) v66, J68, h.2.2.2)) rfl ?_
                    exact k (some (.int v70)) (qm_up (qm_up I67 150 (b.toInt.toNat) v5) 151 (b.toInt.toNat) v66) (J68) ⟨_, rfl, qa_in_full _⟩ (hb_up (o := 151) (k := b.toInt.toNat) (x := v66) (hb_up (o := 150) (k := b.toInt.toNat) (x := v5) hB_I67 ⟨by show (0 : Int) ≤ v5.toInt; omega, by show v5.toInt ≤ (2 : Int); omega⟩) ⟨by show (0 : Int) ≤ v66.toInt; omega, by show v66.toInt ≤ (79 : Int); omega⟩) (v_S_cg8 (mod := [118, 144, 145]) hV (fun o ho i => (would_back e_I67 ((e_I63 150 rfl (b.toInt.toNat)).trans q_v5) ((e_I63 151 rfl (b.toInt.toNat)).trans q_v66) o ho i).trans (e_I63 o ho i)) (fun i hi => (hk_ot rfl).trans ((hk_ot rfl).trans ((e8_I67 i hi).trans ((hk_ot rfl).trans ((hk_ot rfl).trans (e8_I63 i hi)))))) rfl) (fun o ho i => (fun o ho i => (would_back e_I67 ((e_I63 150 rfl (b.toInt.toNat)).trans q_v5) ((e_I63 151 rfl (b.toInt.toNat)).trans q_v66) o ho i).trans (e_I63 o ho i)) o (hk_ms rfl ho) i)
noncomputable def qa_k4a302 : qa_Ct := (302, qc_pre 118 [(-2147483648, 2147483647), (-2147483648, 2147483647), (-2147483648, 2147483647), (-2147483648, 2147483647)], some (-2147483648, 2147483647), [155], 60)
theorem qz_4a302 {L : Nat} {xs : Nat → Int32} (h6 : 6 ≤ L) : qa_hc qp_a gS (some (L, xs)) qa_k4a302 := by
  refine hc_lift hc4_rwould h6 (fun _ hS => hS.2.1) (fun _ _ _ => trivial) (fun h I J hS hV e => gS_r hS hV e (by decide)) (fun _ hS => gS_ru hS) (fun p K as as2 I hs hg hc => ?_)
  obtain ⟨t, t0, rfl, g, q⟩ := qc_pre_1 hg hc
  obtain ⟨x0, s0, t1, rfl, b0, g, q⟩ := qc_ints_1 hs g q
  obtain ⟨x1, s1, t2, rfl, b1, g, q⟩ := qc_ints_1 hs g q
  obtain ⟨x2, s2, t3, rfl, b2, g, q⟩ := qc_ints_1 hs g q
  obtain ⟨x3, s3, t4, rfl, b3, g, q⟩ := qc_ints_1 hs g q
  obtain rfl := qc_ints_0 g q
  exact ⟨x0, x1, x2, x3, rfl⟩
noncomputable def qa_k4a315 : qa_Ct := (315, qc_pre 118 [(-2147483648, 2147483647), (-2147483648, 2147483647), (-2147483648, 2147483647)], some (-2147483648, 2147483647), [118, 144, 145], 90)
theorem qz_4a315 {L : Nat} {xs : Nat → Int32} (h6 : 6 ≤ L) : qa_hc qp_a gS (some (L, xs)) qa_k4a315 := by
  refine hc_lift hc4_rbreaks h6 (fun _ hS => hS.2.1) (fun _ _ _ => trivial) (fun h I J hS hV e => gS_r hS hV e (by decide)) (fun _ hS => gS_ru hS) (fun p K as as2 I hs hg hc => ?_)
  obtain ⟨t, t0, rfl, g, q⟩ := qc_pre_1 hg hc
  obtain ⟨x0, s0, t1, rfl, b0, g, q⟩ := qc_ints_1 hs g q
  obtain ⟨x1, s1, t2, rfl, b1, g, q⟩ := qc_ints_1 hs g q
  obtain ⟨x2, s2, t3, rfl, b2, g, q⟩ := qc_ints_1 hs g q
  obtain rfl := qc_ints_0 g q
  exact ⟨x0, x1, x2, rfl⟩
noncomputable def qa_k4b302 : qa_Ct := (302, qc_pre 118 [(-2147483648, 2147483647), (-2147483648, 2147483647), (-2147483648, 2147483647), (-2147483648, 2147483647)], some (-2147483648, 2147483647), [155], 60)
theorem qz_4b302 {L : Nat} {xs : Nat → Int32} (h6 : 6 ≤ L) : qa_hc qp_b gS (some (L, xs)) qa_k4b302 := by
  refine hc_lift hc4_rwould h6 (fun _ hS => hS.2.1) (fun _ _ _ => trivial) (fun h I J hS hV e => gS_r hS hV e (by decide)) (fun _ hS => gS_ru hS) (fun p K as as2 I hs hg hc => ?_)
  obtain ⟨t, t0, rfl, g, q⟩ := qc_pre_1 hg hc
  obtain ⟨x0, s0, t1, rfl, b0, g, q⟩ := qc_ints_1 hs g q
  obtain ⟨x1, s1, t2, rfl, b1, g, q⟩ := qc_ints_1 hs g q
  obtain ⟨x2, s2, t3, rfl, b2, g, q⟩ := qc_ints_1 hs g q
  obtain ⟨x3, s3, t4, rfl, b3, g, q⟩ := qc_ints_1 hs g q
  obtain rfl := qc_ints_0 g q
  exact ⟨x0, x1, x2, x3, rfl⟩
noncomputable def qa_k4b315 : qa_Ct := (315, qc_pre 118 [(-2147483648, 2147483647), (-2147483648, 2147483647), (-2147483648, 2147483647)], some (-2147483648, 2147483647), [118, 144, 145], 90)
theorem qz_4b315 {L : Nat} {xs : Nat → Int32} (h6 : 6 ≤ L) : qa_hc qp_b gS (some (L, xs)) qa_k4b315 := by
  refine hc_lift hc4_rbreaks h6 (fun _ hS => hS.2.1) (fun _ _ _ => trivial) (fun h I J hS hV e => gS_r hS hV e (by decide)) (fun _ hS => gS_ru hS) (fun p K as as2 I hs hg hc => ?_)
  obtain ⟨t, t0, rfl, g, q⟩ := qc_pre_1 hg hc
  obtain ⟨x0, s0, t1, rfl, b0, g, q⟩ := qc_ints_1 hs g q
  obtain ⟨x1, s1, t2, rfl, b1, g, q⟩ := qc_ints_1 hs g q
  obtain ⟨x2, s2, t3, rfl, b2, g, q⟩ := qc_ints_1 hs g q
  obtain rfl := qc_ints_0 g q
  exact ⟨x0, x1, x2, rfl⟩
noncomputable def fr_FL4 : List (Nat × Nat) := [(6, 0), (9, 4), (9, 5), (9, 6), (11, 0), (11, 1), (11, 2), (11, 3), (11, 4), (11, 6), (11, 7), (14, 2), (14, 8), (14, 9), (14, 10), (14, 11), (14, 12), (17, 18), (17, 44), (17, 54), (17, 75), (17, 85), (17, 91), (17, 92), (17, 93), (17, 94)]
noncomputable def fr_Ms4 : List Nat := [8, 33, 58, 122, 123, 124, 125, 126, 127, 128, 129, 130, 131, 132, 160, 161, 162, 163, 164, 165, 166, 169, 170, 171, 172, 175, 270, 272, 274, 275, 278, 286, 288, 289, 290, 291, 292, 293, 294, 302, 303, 304, 305, 306, 307, 308, 309, 310, 311, 312, 313, 314, 315, 316, 328, 329, 331, 332, 333, 334, 335, 336, 337, 338, 340, 341, 342]
theorem fr_Mok4 : fr_M fr_FL4 fr_Ms4 = true := by decide +kernel
/-- a contract keeps what both have in common -/
theorem hc_R4 {t1 t2 L : Nat} {xs : Nat → Int32} {q : qa_Ct} (hc : qa_hc (qa_PC t1 t2 qa_foot3) gS3 (some (L, xs)) q) (hj : fr_Ms4.contains q.1 = true) (hm : ∀ o ∈ z_objs, q.2.2.2.1.contains o = false) : qa_hc (qa_PC t1 t2 qa_foot4) (gS4B tb) (some (L, xs)) q := by
  intro p K as as' h d Z hs hp hg hpre hI hd k
  have hH := (hk_H_in hI).1
  have hT := (hk_H_in hI).2
  obtain ⟨i1, i2, i3, i4, i5⟩ := hI
  have hI0 : qa_Inv (qa_PC t1 t2 qa_foot3) gS3 h := ⟨i1, i2, i3, i4.1, fun r hr1 _ _ i e => gS3_ru i4.1 r hr1 i e⟩
  have hcd : fr_cd fr_FL4 fr_Ms4 (qm_F q.1).2 = true := List.all_eq_true.mp fr_Mok4 q.1 (List.contains_iff_mem.mp hj)
  have w := hc p K as as' h d (fun r h' => ((∀ o, q.2.2.2.1.contains o = false → ∀ i, h'.2.1 o i = h.2.1 o i) ∧ h'.2.2.2 28 2 = h.2.2.2 28 2) ∧ ((gZB tb) h' → Z r h')) hs hp hg hpre hI0 hd (fun r h' a b c => ⟨⟨c, (hk_H_in b).2.2.trans hT.2.symm⟩, fun g => k r h' a ⟨b.1, b.2.1, b.2.2.1, ⟨b.2.2.2.1, g⟩, fun r hr1 _ _ i e => gS3_ru b.2.2.2.1 r hr1 i e⟩ c⟩)
  have w := fr_Ru (k0 := 9) (f := 4) (o0 := 28) (n0 := 8) (FL := fr_FL4) (M := fr_Ms4) (by decide) (by decide) fr_Mok4 hcd (hH.1 28 (9, 8) rfl) w
  have w := fr_Ru (k0 := 9) (f := 5) (o0 := 28) (n0 := 8) (FL := fr_FL4) (M := fr_Ms4) (by decide) (by decide) fr_Mok4 hcd (hH.1 28 (9, 8) rfl) w
  have w := fr_Ru (k0 := 9) (f := 6) (o0 := 28) (n0 := 8) (FL := fr_FL4) (M := fr_Ms4) (by decide) (by decide) fr_Mok4 hcd (hH.1 28 (9, 8) rfl) w
  have w := fr_Ru (k0 := 11) (f := 0) (o0 := 29) (n0 := 16) (FL := fr_FL4) (M := fr_Ms4) (by decide) (by decide) fr_Mok4 hcd (hH.1 29 (11, 16) rfl) w
  have w := fr_Ru (k0 := 11) (f := 1) (o0 := 29) (n0 := 16) (FL := fr_FL4) (M := fr_Ms4) (by decide) (by decide) fr_Mok4 hcd (hH.1 29 (11, 16) rfl) w
  have w := fr_Ru (k0 := 11) (f := 2) (o0 := 29) (n0 := 16) (FL := fr_FL4) (M := fr_Ms4) (by decide) (by decide) fr_Mok4 hcd (hH.1 29 (11, 16) rfl) w
  have w := fr_Ru (k0 := 11) (f := 3) (o0 := 29) (n0 := 16) (FL := fr_FL4) (M := fr_Ms4) (by decide) (by decide) fr_Mok4 hcd (hH.1 29 (11, 16) rfl) w
  have w := fr_Ru (k0 := 11) (f := 4) (o0 := 29) (n0 := 16) (FL := fr_FL4) (M := fr_Ms4) (by decide) (by decide) fr_Mok4 hcd (hH.1 29 (11, 16) rfl) w
  have w := fr_Ru (k0 := 11) (f := 6) (o0 := 29) (n0 := 16) (FL := fr_FL4) (M := fr_Ms4) (by decide) (by decide) fr_Mok4 hcd (hH.1 29 (11, 16) rfl) w
  have w := fr_Ru (k0 := 11) (f := 7) (o0 := 29) (n0 := 16) (FL := fr_FL4) (M := fr_Ms4) (by decide) (by decide) fr_Mok4 hcd (hH.1 29 (11, 16) rfl) w
  have w := fr_Ru (k0 := 11) (f := 0) (o0 := 111) (n0 := 16) (FL := fr_FL4) (M := fr_Ms4) (by decide) (by decide) fr_Mok4 hcd (hH.1 111 (11, 16) rfl) w
  have w := fr_Ru (k0 := 11) (f := 1) (o0 := 111) (n0 := 16) (FL := fr_FL4) (M := fr_Ms4) (by decide) (by decide) fr_Mok4 hcd (hH.1 111 (11, 16) rfl) w
  have w := fr_Ru (k0 := 11) (f := 2) (o0 := 111) (n0 := 16) (FL := fr_FL4) (M := fr_Ms4) (by decide) (by decide) fr_Mok4 hcd (hH.1 111 (11, 16) rfl) w
  have w := fr_Ru (k0 := 11) (f := 3) (o0 := 111) (n0 := 16) (FL := fr_FL4) (M := fr_Ms4) (by decide) (by decide) fr_Mok4 hcd (hH.1 111 (11, 16) rfl) w
  have w := fr_Ru (k0 := 11) (f := 4) (o0 := 111) (n0 := 16) (FL := fr_FL4) (M := fr_Ms4) (by decide) (by decide) fr_Mok4 hcd (hH.1 111 (11, 16) rfl) w
  have w := fr_Ru (k0 := 11) (f := 6) (o0 := 111) (n0 := 16) (FL := fr_FL4) (M := fr_Ms4) (by decide) (by decide) fr_Mok4 hcd (hH.1 111 (11, 16) rfl) w
  have w := fr_Ru (k0 := 11) (f := 7) (o0 := 111) (n0 := 16) (FL := fr_FL4) (M := fr_Ms4) (by decide) (by decide) fr_Mok4 hcd (hH.1 111 (11, 16) rfl) w
  have w := fr_Ru (k0 := 14) (f := 2) (o0 := 51) (n0 := 13) (FL := fr_FL4) (M := fr_Ms4) (by decide) (by decide) fr_Mok4 hcd (hH.1 51 (14, 13) rfl) w
  have w := fr_Ru (k0 := 14) (f := 8) (o0 := 51) (n0 := 13) (FL := fr_FL4) (M := fr_Ms4) (by decide) (by decide) fr_Mok4 hcd (hH.1 51 (14, 13) rfl) w
  have w := fr_Ru (k0 := 14) (f := 9) (o0 := 51) (n0 := 13) (FL := fr_FL4) (M := fr_Ms4) (by decide) (by decide) fr_Mok4 hcd (hH.1 51 (14, 13) rfl) w
  have w := fr_Ru (k0 := 14) (f := 10) (o0 := 51) (n0 := 13) (FL := fr_FL4) (M := fr_Ms4) (by decide) (by decide) fr_Mok4 hcd (hH.1 51 (14, 13) rfl) w
  have w := fr_Ru (k0 := 14) (f := 11) (o0 := 51) (n0 := 13) (FL := fr_FL4) (M := fr_Ms4) (by decide) (by decide) fr_Mok4 hcd (hH.1 51 (14, 13) rfl) w
  have w := fr_Ru (k0 := 14) (f := 12) (o0 := 51) (n0 := 13) (FL := fr_FL4) (M := fr_Ms4) (by decide) (by decide) fr_Mok4 hcd (hH.1 51 (14, 13) rfl) w
  have w := fr_Ru (k0 := 17) (f := 18) (o0 := 118) (n0 := 105) (FL := fr_FL4) (M := fr_Ms4) (by decide) (by decide) fr_Mok4 hcd (hH.1 118 (17, 105) rfl) w
  have w := fr_Ru (k0 := 17) (f := 54) (o0 := 118) (n0 := 105) (FL := fr_FL4) (M := fr_Ms4) (by decide) (by decide) fr_Mok4 hcd (hH.1 118 (17, 105) rfl) w
  have w := fr_Ru (k0 := 17) (f := 75) (o0 := 118) (n0 := 105) (FL := fr_FL4) (M := fr_Ms4) (by decide) (by decide) fr_Mok4 hcd (hH.1 118 (17, 105) rfl) w
  have w := fr_Ru (k0 := 17) (f := 85) (o0 := 118) (n0 := 105) (FL := fr_FL4) (M := fr_Ms4) (by decide) (by decide) fr_Mok4 hcd (hH.1 118 (17, 105) rfl) w
  have w := fr_Ru (k0 := 17) (f := 91) (o0 := 118) (n0 := 105) (FL := fr_FL4) (M := fr_Ms4) (by decide) (by decide) fr_Mok4 hcd (hH.1 118 (17, 105) rfl) w
  have w := fr_Ru (k0 := 17) (f := 92) (o0 := 118) (n0 := 105) (FL := fr_FL4) (M := fr_Ms4) (by decide) (by decide) fr_Mok4 hcd (hH.1 118 (17, 105) rfl) w
  have w := fr_Ru (k0 := 17) (f := 93) (o0 := 118) (n0 := 105) (FL := fr_FL4) (M := fr_Ms4) (by decide) (by decide) fr_Mok4 hcd (hH.1 118 (17, 105) rfl) w
  have w := fr_Ru (k0 := 17) (f := 94) (o0 := 118) (n0 := 105) (FL := fr_FL4) (M := fr_Ms4) (by decide) (by decide) fr_Mok4 hcd (hH.1 118 (17, 105) rfl) w
  have w := fr_Ru (k0 := 17) (f := 44) (o0 := 118) (n0 := 105) (FL := fr_FL4) (M := fr_Ms4) (by decide) (by decide) fr_Mok4 hcd (hH.1 118 (17, 105) rfl) w
  have w := fr_Ru (k0 := 6) (f := 0) (o0 := 6) (n0 := 9) (FL := fr_FL4) (M := fr_Ms4) (by decide) (by decide) fr_Mok4 hcd (hH.1 6 (6, 9) rfl) w
  refine w.mono (fun r h' z => ?_)
  obtain ⟨⟨⟨⟨⟨⟨⟨⟨⟨⟨⟨⟨⟨⟨⟨⟨⟨⟨⟨⟨⟨⟨⟨⟨⟨⟨⟨⟨⟨⟨⟨⟨⟨a, e28_4⟩, e28_5⟩, e28_6⟩, e29_0⟩, e29_1⟩, e29_2⟩, e29_3⟩, e29_4⟩, e29_6⟩, e29_7⟩, e111_0⟩, e111_1⟩, e111_2⟩, e111_3⟩, e111_4⟩, e111_6⟩, e111_7⟩, e51_2⟩, e51_8⟩, e51_9⟩, e51_10⟩, e51_11⟩, e51_12⟩, e118_18⟩, e118_54⟩, e118_75⟩, e118_85⟩, e118_91⟩, e118_92⟩, e118_93⟩, e118_94⟩, e118_44⟩, e6_0⟩ := z
  obtain ⟨⟨a, er⟩, b⟩ := a
  exact b (gZ_cg i4.2 (fun o ho i => a o (hm o ho) i) e6_0 (List.forall_mem_cons.mpr ⟨e28_4, List.forall_mem_cons.mpr ⟨e28_5, List.forall_mem_cons.mpr ⟨e28_6, fun _ z => absurd z List.not_mem_nil⟩⟩⟩) (List.forall_mem_cons.mpr ⟨e29_0, List.forall_mem_cons.mpr ⟨e29_1, List.forall_mem_cons.mpr ⟨e29_2, List.forall_mem_cons.mpr ⟨e29_3, List.forall_mem_cons.mpr ⟨e29_4, List.forall_mem_cons.mpr ⟨e29_6, List.forall_mem_cons.mpr ⟨e29_7, fun _ z => absurd z List.not_mem_nil⟩⟩⟩⟩⟩⟩⟩) (List.forall_mem_cons.mpr ⟨e111_0, List.forall_mem_cons.mpr ⟨e111_1, List.forall_mem_cons.mpr ⟨e111_2, List.forall_mem_cons.mpr ⟨e111_3, List.forall_mem_cons.mpr ⟨e111_4, List.forall_mem_cons.mpr ⟨e111_6, List.forall_mem_cons.mpr ⟨e111_7, fun _ z => absurd z List.not_mem_nil⟩⟩⟩⟩⟩⟩⟩) (List.forall_mem_cons.mpr ⟨e51_2, List.forall_mem_cons.mpr ⟨e51_8, List.forall_mem_cons.mpr ⟨e51_9, List.forall_mem_cons.mpr ⟨e51_10, List.forall_mem_cons.mpr ⟨e51_11, List.forall_mem_cons.mpr ⟨e51_12, fun _ z => absurd z List.not_mem_nil⟩⟩⟩⟩⟩⟩) (List.forall_mem_cons.mpr ⟨e118_18, List.forall_mem_cons.mpr ⟨e118_44, List.forall_mem_cons.mpr ⟨e118_54, List.forall_mem_cons.mpr ⟨e118_75, List.forall_mem_cons.mpr ⟨e118_85, List.forall_mem_cons.mpr ⟨e118_91, List.forall_mem_cons.mpr ⟨e118_92, List.forall_mem_cons.mpr ⟨e118_93, List.forall_mem_cons.mpr ⟨e118_94, fun _ z => absurd z List.not_mem_nil⟩⟩⟩⟩⟩⟩⟩⟩⟩) er)
/-- away boxes stand nowhere -/
theorem zA_of {h : qm_H} (hZ : (gZB tb) h) : zAw h := fun b hb hn => by
  obtain ⟨-, ⟨⟨c1, c2, c3, c4, c5, c6, c7, c8⟩, ⟨c9, c10⟩, hp, hs⟩, -, -⟩ := hZ
  have e : pI h.2.1 150 b = 0 := (congrFun c5 b).symm.trans hb
  exact (hp b).2.2 e (by rw [← c10]; exact hn)
noncomputable def w_objs : List Nat := [1, 3, 6, 28, 29, 42, 51, 111, 118, 131, 132, 133, 134, 138, 139, 140, 141, 142, 150, 151, 152, 153, 154, 158] ++ r_objs ++ x_objs ++ z_objs
theorem w_sub : (∀ o ∈ r_objs, o ∈ w_objs) ∧ (∀ o ∈ x_objs, o ∈ w_objs) ∧ (∀ o ∈ z_objs, o ∈ w_objs) := ⟨fun _ ho => List.mem_append_left _ (List.mem_append_left _ (List.mem_append_right _ ho)), fun _ ho => List.mem_append_left _ (List.mem_append_right _ ho), fun _ ho => List.mem_append_right _ ho⟩
theorem gS4_w {h : qm_H} {I : Nat → Nat → Int32} {J : Nat → Nat → Int64} {mod : List Nat} (hS : (gS4B tb) h) (hv : v_C I) (e : ∀ o, mod.contains o = false → ∀ i, I o i = h.2.1 o i) (kk : kJ kwF (h.1, I, J, h.2.2.2)) (hm : ∀ o ∈ w_objs, mod.contains o = false) : (gS4B tb) (h.1, I, J, h.2.2.2) := by
  have f : ∀ o ∈ w_objs, ∀ i, I o i = h.2.1 o i := fun o ho i => e o (hm o ho) i
  have l : ∀ o ∈ [1, 3, 6, 28, 29, 42, 51, 111, 118, 131, 132, 133, 134, 138, 139, 140, 141, 142, 150, 151, 152, 153, 154, 158], o ∈ w_objs := fun _ ho => List.mem_append_left _ (List.mem_append_left _ (List.mem_append_left _ ho))
  obtain ⟨⟨⟨s, r⟩, x⟩, z⟩ := hS
  exact ⟨⟨⟨gS_c s hv e (fun o ho => hm o (l o ((show ∀ o ∈ [118, 131, 132, 133, 134, 138, 139, 140, 141, 142, 150, 151, 152, 153, 154, 158], o ∈ [1, 3, 6, 28, 29, 42, 51, 111, 118, 131, 132, 133, 134, 138, 139, 140, 141, 142, 150, 151, 152, 153, 154, 158] from by decide) o ho))), gR_cg r (fun o ho i => f o (w_sub.1 o ho) i) (f 1 (l 1 (by decide)) 1) (f 6 (l 6 (by decide)) 0) (f 42 (l 42 (by decide)) 7) (f 118 (l 118 (by decide)) 2) (f 118 (l 118 (by decide)) 44) (f 118 (l 118 (by decide)) 70)⟩, ⟨gP_cg x.1 (fun o ho i => f o (w_sub.2.1 o ho) i) (f 1 (l 1 (by decide)) 1) (f 3 (l 3 (by decide)) 4) (f 118 (l 118 (by decide)) 17), kk⟩⟩, gZ_cg z (fun o ho i => f o (w_sub.2.2 o ho) i) (f 6 (l 6 (by decide)) 0) (fun i _ => f 28 (l 28 (by decide)) i) (fun i _ => f 29 (l 29 (by decide)) i) (fun i _ => f 111 (l 111 (by decide)) i) (fun i _ => f 51 (l 51 (by decide)) i) (fun i _ => f 118 (l 118 (by decide)) i) rfl⟩
theorem zPos_f {wh sp sp' yb rb tb : Nat → Int} {n : Int} (h : zPos wh sp yb rb tb n) (e : ∀ i, wh i = 0 ∨ sp' i = sp i) : zPos wh sp' yb rb tb n := fun b => by
  have k := h b
  refine ⟨fun z => ?_, fun z => ?_, k.2.2⟩
  · rw [(e b).resolve_left (by omega)]
    exact k.1 z
  · rw [(e b).resolve_left (by omega)]
    exact k.2.1 z
theorem gS4_bx {h : qm_H} {I : Nat → Nat → Int32} {J : Nat → Nat → Int64} (hS : (gS4B tb) h) (hv : v_S I) (e : ∀ o, [118, 144, 145, 146, 147, 148, 149, 150, 151, 152, 153, 154, 155, 156].contains o = false → ∀ i, I o i = h.2.1 o i) (e8 : ∀ i, i ≠ 57 → I 118 i = h.2.1 118 i) (f : bxF h.2.1 I) (kk : kJ kwF (h.1, I, J, h.2.2.2)) : (gS4B tb) (h.1, I, J, h.2.2.2) := by
  obtain ⟨⟨⟨s, r⟩, x⟩, hm, hc, hk, hj⟩ := hS
  have g : ∀ o ∈ [146, 147, 148, 149, 150, 152, 153, 154], pI I o = pI h.2.1 o := fun o ho => funext fun i => congrArg Int32.toInt (f.1 o ho i)
  have F : ∀ o, [118, 144, 145, 146, 147, 148, 149, 150, 151, 152, 153, 154, 155, 156].contains o = false → pI I o = pI h.2.1 o := fun o ho => funext fun i => congrArg Int32.toInt (e o ho i)
  have em : ∀ o ∈ [127, 128, 129, 131, 132], ∀ i, I o i = h.2.1 o i := fun o ho i => e o ((show ∀ o ∈ [127, 128, 129, 131, 132], [118, 144, 145, 146, 147, 148, 149, 150, 151, 152, 153, 154, 155, 156].contains o = false from by decide) o ho) i
  have e44 : pI I 118 44 = pI h.2.1 118 44 := congrArg Int32.toInt (e8 44 (by decide))
  have e54 : pI I 118 54 = pI h.2.1 118 54 := congrArg Int32.toInt (e8 54 (by decide))
  refine ⟨⟨⟨gS_r s hv e (by decide), gR_cg r (fun o ho i => e o ((show ∀ o ∈ r_objs, [118, 144, 145, 146, 147, 148, 149, 150, 151, 152, 153, 154, 155, 156].contains o = false from by decide) o ho) i) (e 1 rfl 1) (e 6 rfl 0) (e 42 rfl 7) (e8 2 (by decide)) (e8 44 (by decide)) (e8 70 (by decide))⟩, ⟨gP_cg x.1 (fun o ho i => e o ((show ∀ o ∈ x_objs, [118, 144, 145, 146, 147, 148, 149, 150, 151, 152, 153, 154, 155, 156].contains o = false from by decide) o ho) i) (e 1 rfl 1) (e 3 rfl 4) (e8 17 (by decide)), kk⟩⟩, ?_, ?_, ?_, gJ_cg hj (fun o ho i => e o ((show ∀ o ∈ j_objs, [118, 144, 145, 146, 147, 148, 149, 150, 151, 152, 153, 154, 155, 156].contains o = false from by decide) o ho) i) (fun i _ => e 51 rfl i) (fun i hi => e8 i ((show ∀ i ∈ [75, 85, 91, 92, 93, 94], i ≠ 57 from by decide) i hi))⟩
  · exact hm.elim (fun z => Or.inl ⟨z.1, zM_end z.2 (e 29 rfl) em (e8 18 (by decide))⟩) (fun z => Or.inr ⟨z.1, zM_end z.2 (e 111 rfl) em (e8 18 (by decide))⟩)
  · obtain ⟨⟨c1, c2, c3, c4, c5, c6, c7, c8⟩, ⟨c9, c10⟩, hp, hs⟩ := hc
    have sp : ∀ i, pI h.2.1 150 i = 0 ∨ pI I 151 i = pI h.2.1 151 i := fun i => (f.2 i).imp id (fun z => congrArg Int32.toInt z)
    refine ⟨⟨(F 7 rfl).trans (c1.trans (g 146 (by decide)).symm), (F 8 rfl).trans (c2.trans (g 147 (by decide)).symm), (F 9 rfl).trans (c3.trans (g 148 (by decide)).symm), (F 10 rfl).trans (c4.trans (g 149 (by decide)).symm), (F 11 rfl).trans (c5.trans (g 150 (by decide)).symm), (F 36 rfl).trans (c6.trans (g 152 (by decide)).symm), (F 16 rfl).trans (c7.trans (g 153 (by decide)).symm), (F 17 rfl).trans (c8.trans (g 154 (by decide)).symm)⟩, ⟨?_, ?_⟩, ?_, ?_⟩
    · show (I 28 4).toInt = pI I 118 54
      rw [e 28 rfl 4, e54]
      exact c9
    · show (I 6 0).toInt = pI I 118 44
      rw [e 6 rfl 0, e44]
      exact c10
    · show zPos (pI I 150) (pI I 151) (pI I 12) (pI I 13) (pI I 14) (pI I 118 44)
      rw [g 150 (by decide), F 12 rfl, F 13 rfl, F 14 rfl, e44]
      exact zPos_f hp sp
    · show zSum (I 28 5).toInt (I 28 6).toInt (pI I 37) (pI I 146) (pI I 150) (pI I 151) (pI I 118 44).toNat
      rw [e 28 rfl 5, e 28 rfl 6, F 37 rfl, g 146 (by decide), g 150 (by decide), e44]
      exact zSum_cg hs (fun x _ => ⟨rfl, fun z => ((sp x).resolve_left (by omega)).symm⟩)
  · refine ⟨fun b hb => ?_, fun b hb => ?_, ?_⟩
    · have hb : pI I 118 44 ≤ (b : Int) := hb
      rw [e44] at hb
      rw [g 149 (by decide)]
      exact hk.1 b hb
    · have hb : (b : Int) < pI I 118 44 := hb
      rw [e44] at hb
      rw [g 146 (by decide)]
      exact hk.2.1 b hb
    · rw [g 150 (by decide), g 152 (by decide)]
      exact zO_cg hk.2.2 (fun x hx => ⟨hx, ((f.2 x).resolve_left (by
        have hx : (h.2.1 150 x).toInt = 1 := hx
        omega) |> congrArg Int32.toInt)⟩)
noncomputable def qp_a4 : qa_P := qa_PC 29 111 qa_foot4
noncomputable def qa_k4a232 : qa_Ct := (232, qc_pre 0 [(-2147483648, 2147483647)], some (-2147483648, 2147483647), [34, 192, 193, 194, 195, 196, 197, 198, 199, 200, 201, 202, 203, 204, 205, 206, 207, 208, 209, 210, 211, 212, 213, 214, 215, 216, 217, 218, 219, 220, 221, 222, 223, 224, 225, 226, 227, 228, 229, 230, 231, 232, 233], 120)
theorem qz_4a232 {L : Nat} {xs : Nat → Int32} (h6 : 6 ≤ L) : qa_hc qp_a4 (gS4B tb) (some (L, xs)) qa_k4a232 := by
  intro p K as as2 h d Z hs hpp hg hc hI hd k
  have hH := hk_H_in hI
  obtain ⟨i1, i2, i3, i4, i5⟩ := hI
  obtain ⟨t, t0, rfl, g, q⟩ := qc_pre_1 hg hc
  obtain ⟨x0, s0, t1, rfl, b0, g, q⟩ := qc_ints_1 hs g q
  obtain rfl := qc_ints_0 g q
  have w := hc4_cbest29 L xs d (fun r h2 => kJ kwF h2 → Z r h2) h _ h6 hH.1 ⟨⟨hH.2, wI_S i4.1.1.1.2.2 (Or.inl rfl)⟩, zA_of i4.2⟩ i2 i4.1.1.1.1 ⟨x0, rfl⟩ hd (fun r I J hr hB hV e kk => k r (h.1, I, J, h.2.2.2) hr ⟨i1, hB, i3, gS4_w (J := J) i4 hV e kk (by decide +kernel), fun r hr1 _ _ i ei => gS4_ru (gS4_w (J := J) i4 hV e kk (by decide +kernel)) r hr1 i ei⟩ e)
  exact jr_im kwF_nz (by exact i4.1.2.2) w
noncomputable def qa_k4a236 : qa_Ct := (236, qc_pre 0 [(-2147483648, 2147483647), (-2147483648, 2147483647)], some (-2147483648, 2147483647), [34, 39, 192, 193, 194, 195, 196, 197, 198, 199, 200, 201, 202, 203, 204, 205, 206, 207, 208, 209, 210, 211, 212, 213, 214, 215, 216, 217, 218, 219, 220, 221, 222, 223, 224, 225, 226, 227, 228, 229, 230, 231, 232, 233], 120)
theorem qz_4a236 {L : Nat} {xs : Nat → Int32} (h6 : 6 ≤ L) : qa_hc qp_a4 (gS4B tb) (some (L, xs)) qa_k4a236 := by
  intro p K as as2 h d Z hs hpp hg hc hI hd k
  have hH := hk_H_in hI
  obtain ⟨i1, i2, i3, i4, i5⟩ := hI
  obtain ⟨t, t0, rfl, g, q⟩ := qc_pre_1 hg hc
  obtain ⟨x0, s0, t1, rfl, b0, g, q⟩ := qc_ints_1 hs g q
  obtain ⟨x1, s1, t2, rfl, b1, g, q⟩ := qc_ints_1 hs g q
  obtain rfl := qc_ints_0 g q
  have w := hc4_ctwo29 L xs d (fun r h2 => kJ kwF h2 → Z r h2) h _ h6 hH.1 ⟨⟨hH.2, wI_S i4.1.1.1.2.2 (Or.inl rfl)⟩, zA_of i4.2⟩ i2 i4.1.1.1.1 ⟨x0, x1, rfl⟩ hd (fun r I J hr hB hV e kk => k r (h.1, I, J, h.2.2.2) hr ⟨i1, hB, i3, gS4_w (J := J) i4 hV e kk (by decide +kernel), fun r hr1 _ _ i ei => gS4_ru (gS4_w (J := J) i4 hV e kk (by decide +kernel)) r hr1 i ei⟩ e)
  exact jr_im kwF_nz (by exact i4.1.2.2) w
noncomputable def qa_k4a377 : qa_Ct := (377, qc_pre 118 [(-2147483648, 2147483647)], some (-2147483648, 2147483647), [118, 144, 145, 146, 147, 148, 149, 150, 151, 152, 153, 154, 155, 156], 100)
theorem qz_4a377 {L : Nat} {xs : Nat → Int32} (h6 : 6 ≤ L) : qa_hc qp_a4 (gS4B tb) (some (L, xs)) qa_k4a377 := by
  intro p K as as2 h d Z hs hpp hg hc hI hd k
  have hH := hk_H_in hI
  obtain ⟨i1, i2, i3, i4, i5⟩ := hI
  obtain ⟨t, t0, rfl, g, q⟩ := qc_pre_1 hg hc
  obtain ⟨x0, s0, t1, rfl, b0, g, q⟩ := qc_ints_1 hs g q
  obtain rfl := qc_ints_0 g q
  have hd : 100 ≤ d := hd
  obtain ⟨d, rfl⟩ : ∃ e, d = e + 100 := ⟨d - 100, by omega⟩
  have m := gZ_a i4.2 hH.2.2
  have z := zI_of (Or.inl ⟨rfl, rfl⟩) i2 i4.1.1.1 i4.2.2.1 m
  have w := hw4_best (s := 0) (L := L) (xs := xs) (d := d) (Z := fun r h2 => kJ kwF h2 → Z r h2) h6 hH.1 i2 i4.1.1.1.2.1 (Or.inl rfl) z.2.2.2 m.1 z.1.2 (b := x0) (fun v I J hB hV e e8 f kk => k (some (.int v)) (h.1, I, J, h.2.2.2) ⟨v, rfl, qa_in_full v⟩ ⟨i1, hB, i3, gS4_bx (J := J) i4 hV e e8 f kk, fun r hr1 _ _ i ei => gS4_ru (gS4_bx (J := J) i4 hV e e8 f kk) r hr1 i ei⟩ e)
  exact jr_im kwF_nz (by exact i4.1.2.2) w
noncomputable def qa_k4a379 : qa_Ct := (379, qc_pre 118 [(-2147483648, 2147483647), (-2147483648, 2147483647)], some (-2147483648, 2147483647), [118, 144, 145, 146, 147, 148, 149, 150, 151, 152, 153, 154, 155, 156], 100)
theorem qz_4a379 {L : Nat} {xs : Nat → Int32} (h6 : 6 ≤ L) : qa_hc qp_a4 (gS4B tb) (some (L, xs)) qa_k4a379 := by
  intro p K as as2 h d Z hs hpp hg hc hI hd k
  have hH := hk_H_in hI
  obtain ⟨i1, i2, i3, i4, i5⟩ := hI
  obtain ⟨t, t0, rfl, g, q⟩ := qc_pre_1 hg hc
  obtain ⟨x0, s0, t1, rfl, b0, g, q⟩ := qc_ints_1 hs g q
  obtain ⟨x1, s1, t2, rfl, b1, g, q⟩ := qc_ints_1 hs g q
  obtain rfl := qc_ints_0 g q
  have hd : 100 ≤ d := hd
  obtain ⟨d, rfl⟩ : ∃ e, d = e + 100 := ⟨d - 100, by omega⟩
  have m := gZ_a i4.2 hH.2.2
  have z := zI_of (Or.inl ⟨rfl, rfl⟩) i2 i4.1.1.1 i4.2.2.1 m
  have w := hw4_two (s := 0) (L := L) (xs := xs) (d := d) (Z := fun r h2 => kJ kwF h2 → Z r h2) h6 hH.1 i2 i4.1.1.1.2.1 (Or.inl rfl) z.2.2.2 m.1 z.1.2 (b := x0)  (o := x1) (fun v I J hB hV e e8 f kk => k (some (.int v)) (h.1, I, J, h.2.2.2) ⟨v, rfl, qa_in_full v⟩ ⟨i1, hB, i3, gS4_bx (J := J) i4 hV e e8 f kk, fun r hr1 _ _ i ei => gS4_ru (gS4_bx (J := J) i4 hV e e8 f kk) r hr1 i ei⟩ e)
  exact jr_im kwF_nz (by exact i4.1.2.2) w
noncomputable def qa_Ca4 : List qa_Ct := [qc_ct 29, qa_ka160, qa_ka169, qa_ka175, qa_ka303, qa_ka311, qa_ka312, qa_ka328, qa_ka329, qa_ka331, qa_ka340, qa_k4a232, qa_k4a236, qa_k4a377, qa_k4a379, qa_k4a302, qa_k4a315]
theorem qz_a4 {L : Nat} {xs : Nat → Int32} (h6 : 6 ≤ L) : ∀ q ∈ qa_Ca4, qa_hc qp_a4 (gS4B tb) (some (L, xs)) q := List.forall_mem_cons.mpr ⟨hc_R4 (hc_R3 (gS_held h6 (Or.inl rfl)) (by decide) (by decide)) (by decide) (by decide), List.forall_mem_cons.mpr ⟨hc_R4 (hc_R3 (qz_a160 h6) (by decide) (by decide)) (by decide) (by decide), List.forall_mem_cons.mpr ⟨hc_R4 (hc_R3 (qz_a169 h6) (by decide) (by decide)) (by decide) (by decide), List.forall_mem_cons.mpr ⟨hc_R4 (hc_R3 (qz_a175 h6) (by decide) (by decide)) (by decide) (by decide), List.forall_mem_cons.mpr ⟨hc_R4 (hc_R3 (qz_a303 h6) (by decide) (by decide)) (by decide) (by decide), List.forall_mem_cons.mpr ⟨hc_R4 (hc_R3 (qz_a311 h6) (by decide) (by decide)) (by decide) (by decide), List.forall_mem_cons.mpr ⟨hc_R4 (hc_R3 (qz_a312 h6) (by decide) (by decide)) (by decide) (by decide), List.forall_mem_cons.mpr ⟨hc_R4 (hc_R3 (qz_a328 h6) (by decide) (by decide)) (by decide) (by decide), List.forall_mem_cons.mpr ⟨hc_R4 (hc_R3 (qz_a329 h6) (by decide) (by decide)) (by decide) (by decide), List.forall_mem_cons.mpr ⟨hc_R4 (hc_R3 (qz_a331 h6) (by decide) (by decide)) (by decide) (by decide), List.forall_mem_cons.mpr ⟨hc_R4 (hc_R3 (qz_a340 h6) (by decide) (by decide)) (by decide) (by decide), List.forall_mem_cons.mpr ⟨(qz_4a232 h6), List.forall_mem_cons.mpr ⟨(qz_4a236 h6), List.forall_mem_cons.mpr ⟨(qz_4a377 h6), List.forall_mem_cons.mpr ⟨(qz_4a379 h6), List.forall_mem_cons.mpr ⟨hc_R4 (hc_R3 (qz_4a302 h6) (by decide) (by decide)) (by decide) (by decide), List.forall_mem_cons.mpr ⟨hc_R4 (hc_R3 (qz_4a315 h6) (by decide) (by decide)) (by decide) (by decide), fun _ h => absurd h List.not_mem_nil⟩⟩⟩⟩⟩⟩⟩⟩⟩⟩⟩⟩⟩⟩⟩⟩⟩
noncomputable def qp_b4 : qa_P := qa_PC 111 29 qa_foot4
noncomputable def qa_k4b232 : qa_Ct := (232, qc_pre 0 [(-2147483648, 2147483647)], some (-2147483648, 2147483647), [116, 192, 193, 194, 195, 196, 197, 198, 199, 200, 201, 202, 203, 204, 205, 206, 207, 208, 209, 210, 211, 212, 213, 214, 215, 216, 217, 218, 219, 220, 221, 222, 223, 224, 225, 226, 227, 228, 229, 230, 231, 232, 233], 120)
theorem qz_4b232 {L : Nat} {xs : Nat → Int32} (h6 : 6 ≤ L) : qa_hc qp_b4 (gS4B tb) (some (L, xs)) qa_k4b232 := by
  intro p K as as2 h d Z hs hpp hg hc hI hd k
  have hH := hk_H_in hI
  obtain ⟨i1, i2, i3, i4, i5⟩ := hI
  obtain ⟨t, t0, rfl, g, q⟩ := qc_pre_1 hg hc
  obtain ⟨x0, s0, t1, rfl, b0, g, q⟩ := qc_ints_1 hs g q
  obtain rfl := qc_ints_0 g q
  have w := hc4_cbest111 L xs d (fun r h2 => kJ kwF h2 → Z r h2) h _ h6 hH.1 ⟨⟨hH.2, wI_S i4.1.1.1.2.2 (Or.inr rfl)⟩, zA_of i4.2⟩ i2 i4.1.1.1.1 ⟨x0, rfl⟩ hd (fun r I J hr hB hV e kk => k r (h.1, I, J, h.2.2.2) hr ⟨i1, hB, i3, gS4_w (J := J) i4 hV e kk (by decide +kernel), fun r hr1 _ _ i ei => gS4_ru (gS4_w (J := J) i4 hV e kk (by decide +kernel)) r hr1 i ei⟩ e)
  exact jr_im kwF_nz (by exact i4.1.2.2) w
noncomputable def qa_k4b236 : qa_Ct := (236, qc_pre 0 [(-2147483648, 2147483647), (-2147483648, 2147483647)], some (-2147483648, 2147483647), [39, 116, 192, 193, 194, 195, 196, 197, 198, 199, 200, 201, 202, 203, 204, 205, 206, 207, 208, 209, 210, 211, 212, 213, 214, 215, 216, 217, 218, 219, 220, 221, 222, 223, 224, 225, 226, 227, 228, 229, 230, 231, 232, 233], 120)
theorem qz_4b236 {L : Nat} {xs : Nat → Int32} (h6 : 6 ≤ L) : qa_hc qp_b4 (gS4B tb) (some (L, xs)) qa_k4b236 := by
  intro p K as as2 h d Z hs hpp hg hc hI hd k
  have hH := hk_H_in hI
  obtain ⟨i1, i2, i3, i4, i5⟩ := hI
  obtain ⟨t, t0, rfl, g, q⟩ := qc_pre_1 hg hc
  obtain ⟨x0, s0, t1, rfl, b0, g, q⟩ := qc_ints_1 hs g q
  obtain ⟨x1, s1, t2, rfl, b1, g, q⟩ := qc_ints_1 hs g q
  obtain rfl := qc_ints_0 g q
  have w := hc4_ctwo111 L xs d (fun r h2 => kJ kwF h2 → Z r h2) h _ h6 hH.1 ⟨⟨hH.2, wI_S i4.1.1.1.2.2 (Or.inr rfl)⟩, zA_of i4.2⟩ i2 i4.1.1.1.1 ⟨x0, x1, rfl⟩ hd (fun r I J hr hB hV e kk => k r (h.1, I, J, h.2.2.2) hr ⟨i1, hB, i3, gS4_w (J := J) i4 hV e kk (by decide +kernel), fun r hr1 _ _ i ei => gS4_ru (gS4_w (J := J) i4 hV e kk (by decide +kernel)) r hr1 i ei⟩ e)
  exact jr_im kwF_nz (by exact i4.1.2.2) w
noncomputable def qa_k4b377 : qa_Ct := (377, qc_pre 118 [(-2147483648, 2147483647)], some (-2147483648, 2147483647), [118, 144, 145, 146, 147, 148, 149, 150, 151, 152, 153, 154, 155, 156], 100)
theorem qz_4b377 {L : Nat} {xs : Nat → Int32} (h6 : 6 ≤ L) : qa_hc qp_b4 (gS4B tb) (some (L, xs)) qa_k4b377 := by
  intro p K as as2 h d Z hs hpp hg hc hI hd k
  have hH := hk_H_in hI
  obtain ⟨i1, i2, i3, i4, i5⟩ := hI
  obtain ⟨t, t0, rfl, g, q⟩ := qc_pre_1 hg hc
  obtain ⟨x0, s0, t1, rfl, b0, g, q⟩ := qc_ints_1 hs g q
  obtain rfl := qc_ints_0 g q
  have hd : 100 ≤ d := hd
  obtain ⟨d, rfl⟩ : ∃ e, d = e + 100 := ⟨d - 100, by omega⟩
  have m := gZ_b i4.2 hH.2.2
  have z := zI_of (Or.inr ⟨rfl, rfl⟩) i2 i4.1.1.1 i4.2.2.1 m
  have w := hw4_best (s := 1) (L := L) (xs := xs) (d := d) (Z := fun r h2 => kJ kwF h2 → Z r h2) h6 hH.1 i2 i4.1.1.1.2.1 (Or.inr rfl) z.2.2.2 m.1 z.1.2 (b := x0) (fun v I J hB hV e e8 f kk => k (some (.int v)) (h.1, I, J, h.2.2.2) ⟨v, rfl, qa_in_full v⟩ ⟨i1, hB, i3, gS4_bx (J := J) i4 hV e e8 f kk, fun r hr1 _ _ i ei => gS4_ru (gS4_bx (J := J) i4 hV e e8 f kk) r hr1 i ei⟩ e)
  exact jr_im kwF_nz (by exact i4.1.2.2) w
noncomputable def qa_k4b379 : qa_Ct := (379, qc_pre 118 [(-2147483648, 2147483647), (-2147483648, 2147483647)], some (-2147483648, 2147483647), [118, 144, 145, 146, 147, 148, 149, 150, 151, 152, 153, 154, 155, 156], 100)
theorem qz_4b379 {L : Nat} {xs : Nat → Int32} (h6 : 6 ≤ L) : qa_hc qp_b4 (gS4B tb) (some (L, xs)) qa_k4b379 := by
  intro p K as as2 h d Z hs hpp hg hc hI hd k
  have hH := hk_H_in hI
  obtain ⟨i1, i2, i3, i4, i5⟩ := hI
  obtain ⟨t, t0, rfl, g, q⟩ := qc_pre_1 hg hc
  obtain ⟨x0, s0, t1, rfl, b0, g, q⟩ := qc_ints_1 hs g q
  obtain ⟨x1, s1, t2, rfl, b1, g, q⟩ := qc_ints_1 hs g q
  obtain rfl := qc_ints_0 g q
  have hd : 100 ≤ d := hd
  obtain ⟨d, rfl⟩ : ∃ e, d = e + 100 := ⟨d - 100, by omega⟩
  have m := gZ_b i4.2 hH.2.2
  have z := zI_of (Or.inr ⟨rfl, rfl⟩) i2 i4.1.1.1 i4.2.2.1 m
  have w := hw4_two (s := 1) (L := L) (xs := xs) (d := d) (Z := fun r h2 => kJ kwF h2 → Z r h2) h6 hH.1 i2 i4.1.1.1.2.1 (Or.inr rfl) z.2.2.2 m.1 z.1.2 (b := x0)  (o := x1) (fun v I J hB hV e e8 f kk => k (some (.int v)) (h.1, I, J, h.2.2.2) ⟨v, rfl, qa_in_full v⟩ ⟨i1, hB, i3, gS4_bx (J := J) i4 hV e e8 f kk, fun r hr1 _ _ i ei => gS4_ru (gS4_bx (J := J) i4 hV e e8 f kk) r hr1 i ei⟩ e)
  exact jr_im kwF_nz (by exact i4.1.2.2) w
noncomputable def qa_Cb4 : List qa_Ct := [qc_ct 111, qa_kb160, qa_kb169, qa_kb175, qa_kb303, qa_kb311, qa_kb312, qa_kb328, qa_kb329, qa_kb331, qa_kb340, qa_k4b232, qa_k4b236, qa_k4b377, qa_k4b379, qa_k4b302, qa_k4b315]
theorem qz_b4 {L : Nat} {xs : Nat → Int32} (h6 : 6 ≤ L) : ∀ q ∈ qa_Cb4, qa_hc qp_b4 (gS4B tb) (some (L, xs)) q := List.forall_mem_cons.mpr ⟨hc_R4 (hc_R3 (gS_held h6 (Or.inr rfl)) (by decide) (by decide)) (by decide) (by decide), List.forall_mem_cons.mpr ⟨hc_R4 (hc_R3 (qz_b160 h6) (by decide) (by decide)) (by decide) (by decide), List.forall_mem_cons.mpr ⟨hc_R4 (hc_R3 (qz_b169 h6) (by decide) (by decide)) (by decide) (by decide), List.forall_mem_cons.mpr ⟨hc_R4 (hc_R3 (qz_b175 h6) (by decide) (by decide)) (by decide) (by decide), List.forall_mem_cons.mpr ⟨hc_R4 (hc_R3 (qz_b303 h6) (by decide) (by decide)) (by decide) (by decide), List.forall_mem_cons.mpr ⟨hc_R4 (hc_R3 (qz_b311 h6) (by decide) (by decide)) (by decide) (by decide), List.forall_mem_cons.mpr ⟨hc_R4 (hc_R3 (qz_b312 h6) (by decide) (by decide)) (by decide) (by decide), List.forall_mem_cons.mpr ⟨hc_R4 (hc_R3 (qz_b328 h6) (by decide) (by decide)) (by decide) (by decide), List.forall_mem_cons.mpr ⟨hc_R4 (hc_R3 (qz_b329 h6) (by decide) (by decide)) (by decide) (by decide), List.forall_mem_cons.mpr ⟨hc_R4 (hc_R3 (qz_b331 h6) (by decide) (by decide)) (by decide) (by decide), List.forall_mem_cons.mpr ⟨hc_R4 (hc_R3 (qz_b340 h6) (by decide) (by decide)) (by decide) (by decide), List.forall_mem_cons.mpr ⟨(qz_4b232 h6), List.forall_mem_cons.mpr ⟨(qz_4b236 h6), List.forall_mem_cons.mpr ⟨(qz_4b377 h6), List.forall_mem_cons.mpr ⟨(qz_4b379 h6), List.forall_mem_cons.mpr ⟨hc_R4 (hc_R3 (qz_4b302 h6) (by decide) (by decide)) (by decide) (by decide), List.forall_mem_cons.mpr ⟨hc_R4 (hc_R3 (qz_4b315 h6) (by decide) (by decide)) (by decide) (by decide), fun _ h => absurd h List.not_mem_nil⟩⟩⟩⟩⟩⟩⟩⟩⟩⟩⟩⟩⟩⟩⟩⟩⟩
