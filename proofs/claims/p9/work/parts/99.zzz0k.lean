/-! ops of the law that move boxes: stored, fetched, covered, locked, made -/
variable {tb : Int}
theorem stT_K {A : Nat → Nat → Int} {b g : Int} (hk : zK A) : zK (stT A b g) := by
  by_cases c : stC A b g
  · rw [(stT_1 c).1]
    refine ⟨hk.1, hk.2.1, ?_⟩
    show zO (fu_up (A 150) b.toNat 2) (fu_up (A 151) b.toNat (4 * g + A 154 g.toNat)) (A 152)
    refine zO_cg hk.2.2 (fun q hq => ?_)
    by_cases e : q = b.toNat
    · rw [e, fu_eq] at hq
      omega
    · rw [fu_ne e] at hq ⊢
      exact ⟨hq, rfl⟩
  · rw [(stT_0 c).1]
    exact hk
theorem skT_K {A : Nat → Nat → Int} {b on : Int} (hk : zK A) : zK (skT A b on) := by
  by_cases c : 0 ≤ b ∧ b < A 118 44
  · rw [skT_1 c]
    refine ⟨fun q hq => ?_, hk.2⟩
    have hq : A 118 44 ≤ (q : Int) := hq
    show fu_up (A 149) b.toNat on q = 0
    rw [fu_ne (by omega)]
    exact hk.1 q hq
  · rw [skT_0 c]
    exact hk
theorem bxS_K {A : Nat → Nat → Int} {w p s : Int} (hk : zK A) (hn : 0 ≤ A 118 44) : zK (bxS A w p s) := by
  by_cases c : bxC A w p s
  · rw [bxS_1 c]
    exact mk_zK hk hn c.2.1.1
  · rw [bxS_0 c]
    exact hk
theorem cvT_K {s : Nat} {A : Nat → Nat → Int} {y on : Int32} (hk : zK A) : zK (cvT s A y on) := by
  by_cases c : cvC s A y on
  · rw [(cvT_1 c).1]
    exact hk
  · rw [(cvT_0 c).1]
    exact hk
theorem qv_4 {L : Nat} {xs : Nat → Int32} {Z : Option Value → qm_H → Prop} (h6 : 6 ≤ L) (hl : L ≤ 3072) : qv_PB tb tb L xs Z 4 := by
  intro i h i0 i1 hI hE
  obtain ⟨j1, hB, j3, ⟨⟨hSX, hZ⟩, t⟩, -⟩ := hI
  have hS := hSX.1
  have hH : hk_H h := ⟨j1, j3⟩
  have b_i : 0 ≤ i.toInt ∧ i.toInt ≤ 3066 := by omega
  show qm_Ru (some (L, xs)) 300 cd_law (392, [.retAddr 0, .ref 0, .ref 118, .int i], [], h) Z
  rcases t with t | t
  · have hm := gZ_a hZ t.2
    have hi := zI_of (Or.inl ⟨rfl, rfl⟩) hB hS.1 hZ.2.1 hm
    refine qm_Ru.go 5 (c' := (397, [.retAddr 0, .ref 0, .ref 118, .int i], [.int (i + 1), .retAddr 0, .ref 0], h)) rfl ?_
    obtain ⟨v1, q_v1, e_v1⟩ := hk_add (x := i) (y := 1) (a := i.toInt) (b := 1) rfl rfl (by omega) (by omega)
    rw [q_v1]
    obtain ⟨s2, q_s2⟩ : ∃ v_, xs (v1).toNatClampNeg = v_ := ⟨_, rfl⟩
    have := hk_rng s2
    refine hk_scr (v := s2) rfl (by omega) (by omega) q_s2 ?_
    refine qm_Ru.go 4 (c' := (402, [.retAddr 0, .ref 0, .ref 118, .int i], [.int (i + 2), .retAddr 0, .int s2, .ref 0], h)) rfl ?_
    obtain ⟨v3, q_v3, e_v3⟩ := hk_add (x := i) (y := 2) (a := i.toInt) (b := 2) rfl rfl (by omega) (by omega)
    rw [q_v3]
    obtain ⟨s4, q_s4⟩ : ∃ v_, xs (v3).toNatClampNeg = v_ := ⟨_, rfl⟩
    have := hk_rng s4
    refine hk_scr (v := s4) rfl (by omega) (by omega) q_s4 ?_
    refine qm_Ru.go 4 (c' := (407, [.retAddr 0, .ref 0, .ref 118, .int i], [.int (i + 3), .retAddr 0, .int s4, .int s2, .ref 0], h)) rfl ?_
    obtain ⟨v5, q_v5, e_v5⟩ := hk_add (x := i) (y := 3) (a := i.toInt) (b := 3) rfl rfl (by omega) (by omega)
    rw [q_v5]
    obtain ⟨s6, q_s6⟩ : ∃ v_, xs (v5).toNatClampNeg = v_ := ⟨_, rfl⟩
    have := hk_rng s6
    refine hk_scr (v := s6) rfl (by omega) (by omega) q_s6 ?_
    refine qm_Ru.go 0 (c' := (408, [.retAddr 0, .ref 0, .ref 118, .int i], [.int s6, .int s4, .int s2, .ref 0], h)) rfl ?_
    refine hk_inv (o := 0) (r := []) (as := [.ref 0, .int s2, .int s4, .int s6]) rfl rfl (hH.1 0 (16, 10) rfl) rfl rfl rfl rfl ?_
    refine qm_Ru.go 2 (c' := (2, [.ref 0, .int s2, .int s4, .int s6], [.int 1, .int s2], h)) rfl ?_
    refine hk_clt (ix := s2.toInt) (iy := 1) rfl rfl rfl (fun z7 => ?_) (fun z7 => ?_)
    · refine qm_Ru.go 1 (c' := (29, [.ref 0, .int s2, .int s4, .int s6], [.int (-1)], h)) rfl ?_
      refine qm_Ru.rt (v := (some (.int (-1)))) (h' := h) rfl ?_
      refine qm_Ru.go 6 (c' := (417, [.retAddr 0, .ref 0, .ref 118, .int i], [.int (i + 1), .retAddr 0, .ref 118], h)) rfl ?_
      rw [q_v1]
      refine hk_scr (v := s2) rfl (by omega) (by omega) q_s2 ?_
      refine qm_Ru.go 4 (c' := (422, [.retAddr 0, .ref 0, .ref 118, .int i], [.int (i + 2), .retAddr 0, .int s2, .ref 118], h)) rfl ?_
      rw [q_v3]
      refine hk_scr (v := s4) rfl (by omega) (by omega) q_s4 ?_
      refine qm_Ru.go 4 (c' := (427, [.retAddr 0, .ref 0, .ref 118, .int i], [.int (i + 3), .retAddr 0, .int s4, .int s2, .ref 118], h)) rfl ?_
      rw [q_v5]
      refine hk_scr (v := s6) rfl (by omega) (by omega) q_s6 ?_
      refine qm_Ru.go 0 (c' := (428, [.retAddr 0, .ref 0, .ref 118, .int i], [.int s6, .int s4, .int s2, .ref 118], h)) rfl ?_
      refine hk_inv (o := 118) (r := []) (as := [.ref 118, .int s2, .int s4, .int s6]) rfl rfl (hH.1 118 (17, 105) rfl) rfl rfl rfl rfl (hz_rbx (h := h) h6 hH hB hS.1.2.1 (zR_I h.2.1) hi.2.2.1 (by omega) (fun I2 w2 hB2 hVS2 _ q2 => ?_))
      obtain ⟨f2, f8, zr2⟩ := q2
      have zc1 : zC (bxS (pI h.2.1) s2.toInt s4.toInt s6.toInt) h.2.1 := by rw [bxS_0 (fun q => by unfold bxC at q; omega)]; exact hZ.2.1
      refine qm_Ru.go 3 (c' := (2081, [.retAddr 0, .ref 0, .ref 118, .int (i + 6)], [], (h.1, I2, h.2.2.1, h.2.2.2))) rfl ?_
      obtain ⟨v11, q_v11, e_v11⟩ := hk_add (x := i) (y := 6) (a := i.toInt) (b := 6) rfl rfl (by omega) (by omega)
      rw [q_v11]
      refine qm_Ru.go 1 (c' := (18, [.retAddr 0, .ref 0, .ref 118, .int v11], [], (h.1, I2, h.2.2.1, h.2.2.2))) rfl ?_
      have hS4 : (gS4B tb) (h.1, I2, h.2.2.1, h.2.2.2) := gz_fin hSX hZ (I1 := h.2.1) hS.1.1 (fun _ _ _ => rfl) hVS2 (fun o ho i => f2 o (hk_ms rfl ho) i) (fun i hi => f8 i (hk_ms rfl hi)) zc1 zr2 (bxS_K hZ.2.2.1 hi.2.2.1.1)
      exact hE _ v11 (by omega) (qa_Inv_of0 ⟨hH.1, hH.2⟩ hB2 ⟨hS4, Or.inl t⟩ (gS_ru hS4.1.1.1))
    · refine qm_Ru.go 2 (c' := (8, [.ref 0, .int s2, .int s4, .int s6], [.int 40, .int s2], h)) rfl ?_
      refine hk_cgt (ix := s2.toInt) (iy := 40) rfl rfl rfl (fun z12 => ?_) (fun z12 => ?_)
      · refine qm_Ru.go 1 (c' := (29, [.ref 0, .int s2, .int s4, .int s6], [.int (-1)], h)) rfl ?_
        refine qm_Ru.rt (v := (some (.int (-1)))) (h' := h) rfl ?_
        refine qm_Ru.go 6 (c' := (417, [.retAddr 0, .ref 0, .ref 118, .int i], [.int (i + 1), .retAddr 0, .ref 118], h)) rfl ?_
        rw [q_v1]
        refine hk_scr (v := s2) rfl (by omega) (by omega) q_s2 ?_
        refine qm_Ru.go 4 (c' := (422, [.retAddr 0, .ref 0, .ref 118, .int i], [.int (i + 2), .retAddr 0, .int s2, .ref 118], h)) rfl ?_
        rw [q_v3]
        refine hk_scr (v := s4) rfl (by omega) (by omega) q_s4 ?_
        refine qm_Ru.go 4 (c' := (427, [.retAddr 0, .ref 0, .ref 118, .int i], [.int (i + 3), .retAddr 0, .int s4, .int s2, .ref 118], h)) rfl ?_
        rw [q_v5]
        refine hk_scr (v := s6) rfl (by omega) (by omega) q_s6 ?_
        refine qm_Ru.go 0 (c' := (428, [.retAddr 0, .ref 0, .ref 118, .int i], [.int s6, .int s4, .int s2, .ref 118], h)) rfl ?_
        refine hk_inv (o := 118) (r := []) (as := [.ref 118, .int s2, .int s4, .int s6]) rfl rfl (hH.1 118 (17, 105) rfl) rfl rfl rfl rfl (hz_rbx (h := h) h6 hH hB hS.1.2.1 (zR_I h.2.1) hi.2.2.1 (by omega) (fun I2 w2 hB2 hVS2 _ q2 => ?_))
        obtain ⟨f2, f8, zr2⟩ := q2
        have zc1 : zC (bxS (pI h.2.1) s2.toInt s4.toInt s6.toInt) h.2.1 := by rw [bxS_0 (fun q => by unfold bxC at q; omega)]; exact hZ.2.1
        refine qm_Ru.go 3 (c' := (2081, [.retAddr 0, .ref 0, .ref 118, .int (i + 6)], [], (h.1, I2, h.2.2.1, h.2.2.2))) rfl ?_
        obtain ⟨v16, q_v16, e_v16⟩ := hk_add (x := i) (y := 6) (a := i.toInt) (b := 6) rfl rfl (by omega) (by omega)
        rw [q_v16]
        refine qm_Ru.go 1 (c' := (18, [.retAddr 0, .ref 0, .ref 118, .int v16], [], (h.1, I2, h.2.2.1, h.2.2.2))) rfl ?_
        have hS4 : (gS4B tb) (h.1, I2, h.2.2.1, h.2.2.2) := gz_fin hSX hZ (I1 := h.2.1) hS.1.1 (fun _ _ _ => rfl) hVS2 (fun o ho i => f2 o (hk_ms rfl ho) i) (fun i hi => f8 i (hk_ms rfl hi)) zc1 zr2 (bxS_K hZ.2.2.1 hi.2.2.1.1)
        exact hE _ v16 (by omega) (qa_Inv_of0 ⟨hH.1, hH.2⟩ hB2 ⟨hS4, Or.inl t⟩ (gS_ru hS4.1.1.1))
      · refine qm_Ru.go 2 (c' := (13, [.ref 0, .int s2, .int s4, .int s6], [.int 5, .int s4], h)) rfl ?_
        refine qm_Ru.call (j := 65) (as := [.int s4, .int 5]) (c' := (16, [.ref 0, .int s2, .int s4, .int s6], [], h)) rfl rfl rfl ?_
        refine qm_Ru.go 1 (c' := (1, [.int s4, .int 5], [.int s4], h)) rfl ?_
        refine hk_zlt (ix := s4.toInt) rfl rfl (fun z17 => ?_) (fun z17 => ?_)
        · refine qm_Ru.go 1 (c' := (14, [.int s4, .int 5], [.int 0], h)) rfl ?_
          refine qm_Ru.rt (v := (some (.int 0))) (h' := h) rfl ?_
          refine qm_Ru.go 2 (c' := (29, [.ref 0, .int s2, .int s4, .int s6], [.int (-1)], h)) rfl ?_
          refine qm_Ru.rt (v := (some (.int (-1)))) (h' := h) rfl ?_
          refine qm_Ru.go 6 (c' := (417, [.retAddr 0, .ref 0, .ref 118, .int i], [.int (i + 1), .retAddr 0, .ref 118], h)) rfl ?_
          rw [q_v1]
          refine hk_scr (v := s2) rfl (by omega) (by omega) q_s2 ?_
          refine qm_Ru.go 4 (c' := (422, [.retAddr 0, .ref 0, .ref 118, .int i], [.int (i + 2), .retAddr 0, .int s2, .ref 118], h)) rfl ?_
          rw [q_v3]
          refine hk_scr (v := s4) rfl (by omega) (by omega) q_s4 ?_
          refine qm_Ru.go 4 (c' := (427, [.retAddr 0, .ref 0, .ref 118, .int i], [.int (i + 3), .retAddr 0, .int s4, .int s2, .ref 118], h)) rfl ?_
          rw [q_v5]
          refine hk_scr (v := s6) rfl (by omega) (by omega) q_s6 ?_
          refine qm_Ru.go 0 (c' := (428, [.retAddr 0, .ref 0, .ref 118, .int i], [.int s6, .int s4, .int s2, .ref 118], h)) rfl ?_
          refine hk_inv (o := 118) (r := []) (as := [.ref 118, .int s2, .int s4, .int s6]) rfl rfl (hH.1 118 (17, 105) rfl) rfl rfl rfl rfl (hz_rbx (h := h) h6 hH hB hS.1.2.1 (zR_I h.2.1) hi.2.2.1 (by omega) (fun I2 w2 hB2 hVS2 _ q2 => ?_))
          obtain ⟨f2, f8, zr2⟩ := q2
          have zc1 : zC (bxS (pI h.2.1) s2.toInt s4.toInt s6.toInt) h.2.1 := by rw [bxS_0 (fun q => by unfold bxC at q; omega)]; exact hZ.2.1
          refine qm_Ru.go 3 (c' := (2081, [.retAddr 0, .ref 0, .ref 118, .int (i + 6)], [], (h.1, I2, h.2.2.1, h.2.2.2))) rfl ?_
          obtain ⟨v21, q_v21, e_v21⟩ := hk_add (x := i) (y := 6) (a := i.toInt) (b := 6) rfl rfl (by omega) (by omega)
          rw [q_v21]
          refine qm_Ru.go 1 (c' := (18, [.retAddr 0, .ref 0, .ref 118, .int v21], [], (h.1, I2, h.2.2.1, h.2.2.2))) rfl ?_
          have hS4 : (gS4B tb) (h.1, I2, h.2.2.1, h.2.2.2) := gz_fin hSX hZ (I1 := h.2.1) hS.1.1 (fun _ _ _ => rfl) hVS2 (fun o ho i => f2 o (hk_ms rfl ho) i) (fun i hi => f8 i (hk_ms rfl hi)) zc1 zr2 (bxS_K hZ.2.2.1 hi.2.2.1.1)
          exact hE _ v21 (by omega) (qa_Inv_of0 ⟨hH.1, hH.2⟩ hB2 ⟨hS4, Or.inl t⟩ (gS_ru hS4.1.1.1))
        · refine qm_Ru.go 2 (c' := (6, [.int s4, .int 5], [.int 5, .int s4], h)) rfl ?_
          refine hk_cge (ix := s4.toInt) (iy := 5) rfl rfl rfl (fun z22 => ?_) (fun z22 => ?_)
          · refine qm_Ru.go 1 (c' := (14, [.int s4, .int 5], [.int 0], h)) rfl ?_
            refine qm_Ru.rt (v := (some (.int 0))) (h' := h) rfl ?_
            refine qm_Ru.go 2 (c' := (29, [.ref 0, .int s2, .int s4, .int s6], [.int (-1)], h)) rfl ?_
            refine qm_Ru.rt (v := (some (.int (-1)))) (h' := h) rfl ?_
            refine qm_Ru.go 6 (c' := (417, [.retAddr 0, .ref 0, .ref 118, .int i], [.int (i + 1), .retAddr 0, .ref 118], h)) rfl ?_
            rw [q_v1]
            refine hk_scr (v := s2) rfl (by omega) (by omega) q_s2 ?_
            refine qm_Ru.go 4 (c' := (422, [.retAddr 0, .ref 0, .ref 118, .int i], [.int (i + 2), .retAddr 0, .int s2, .ref 118], h)) rfl ?_
            rw [q_v3]
            refine hk_scr (v := s4) rfl (by omega) (by omega) q_s4 ?_
            refine qm_Ru.go 4 (c' := (427, [.retAddr 0, .ref 0, .ref 118, .int i], [.int (i + 3), .retAddr 0, .int s4, .int s2, .ref 118], h)) rfl ?_
            rw [q_v5]
            refine hk_scr (v := s6) rfl (by omega) (by omega) q_s6 ?_
            refine qm_Ru.go 0 (c' := (428, [.retAddr 0, .ref 0, .ref 118, .int i], [.int s6, .int s4, .int s2, .ref 118], h)) rfl ?_
            refine hk_inv (o := 118) (r := []) (as := [.ref 118, .int s2, .int s4, .int s6]) rfl rfl (hH.1 118 (17, 105) rfl) rfl rfl rfl rfl (hz_rbx (h := h) h6 hH hB hS.1.2.1 (zR_I h.2.1) hi.2.2.1 (by omega) (fun I2 w2 hB2 hVS2 _ q2 => ?_))
            obtain ⟨f2, f8, zr2⟩ := q2
            have zc1 : zC (bxS (pI h.2.1) s2.toInt s4.toInt s6.toInt) h.2.1 := by rw [bxS_0 (fun q => by unfold bxC at q; omega)]; exact hZ.2.1
            refine qm_Ru.go 3 (c' := (2081, [.retAddr 0, .ref 0, .ref 118, .int (i + 6)], [], (h.1, I2, h.2.2.1, h.2.2.2))) rfl ?_
            obtain ⟨v26, q_v26, e_v26⟩ := hk_add (x := i) (y := 6) (a := i.toInt) (b := 6) rfl rfl (by omega) (by omega)
            rw [q_v26]
            refine qm_Ru.go 1 (c' := (18, [.retAddr 0, .ref 0, .ref 118, .int v26], [], (h.1, I2, h.2.2.1, h.2.2.2))) rfl ?_
            have hS4 : (gS4B tb) (h.1, I2, h.2.2.1, h.2.2.2) := gz_fin hSX hZ (I1 := h.2.1) hS.1.1 (fun _ _ _ => rfl) hVS2 (fun o ho i => f2 o (hk_ms rfl ho) i) (fun i hi => f8 i (hk_ms rfl hi)) zc1 zr2 (bxS_K hZ.2.2.1 hi.2.2.1.1)
            exact hE _ v26 (by omega) (qa_Inv_of0 ⟨hH.1, hH.2⟩ hB2 ⟨hS4, Or.inl t⟩ (gS_ru hS4.1.1.1))
          · refine qm_Ru.go 2 (c' := (14, [.int s4, .int 5], [.int 1], h)) rfl ?_
            refine qm_Ru.rt (v := (some (.int 1))) (h' := h) rfl ?_
            refine qm_Ru.go 3 (c' := (22, [.ref 0, .int s2, .int s4, .int s6], [.int 6, .int s6], h)) rfl ?_
            refine qm_Ru.call (j := 65) (as := [.int s6, .int 6]) (c' := (25, [.ref 0, .int s2, .int s4, .int s6], [], h)) rfl rfl rfl ?_
            refine qm_Ru.go 1 (c' := (1, [.int s6, .int 6], [.int s6], h)) rfl ?_
            refine hk_zlt (ix := s6.toInt) rfl rfl (fun z27 => ?_) (fun z27 => ?_)
            · refine qm_Ru.go 1 (c' := (14, [.int s6, .int 6], [.int 0], h)) rfl ?_
              refine qm_Ru.rt (v := (some (.int 0))) (h' := h) rfl ?_
              refine qm_Ru.go 2 (c' := (29, [.ref 0, .int s2, .int s4, .int s6], [.int (-1)], h)) rfl ?_
              refine qm_Ru.rt (v := (some (.int (-1)))) (h' := h) rfl ?_
              refine qm_Ru.go 6 (c' := (417, [.retAddr 0, .ref 0, .ref 118, .int i], [.int (i + 1), .retAddr 0, .ref 118], h)) rfl ?_
              rw [q_v1]
              refine hk_scr (v := s2) rfl (by omega) (by omega) q_s2 ?_
              refine qm_Ru.go 4 (c' := (422, [.retAddr 0, .ref 0, .ref 118, .int i], [.int (i + 2), .retAddr 0, .int s2, .ref 118], h)) rfl ?_
              rw [q_v3]
              refine hk_scr (v := s4) rfl (by omega) (by omega) q_s4 ?_
              refine qm_Ru.go 4 (c' := (427, [.retAddr 0, .ref 0, .ref 118, .int i], [.int (i + 3), .retAddr 0, .int s4, .int s2, .ref 118], h)) rfl ?_
              rw [q_v5]
              refine hk_scr (v := s6) rfl (by omega) (by omega) q_s6 ?_
              refine qm_Ru.go 0 (c' := (428, [.retAddr 0, .ref 0, .ref 118, .int i], [.int s6, .int s4, .int s2, .ref 118], h)) rfl ?_
              refine hk_inv (o := 118) (r := []) (as := [.ref 118, .int s2, .int s4, .int s6]) rfl rfl (hH.1 118 (17, 105) rfl) rfl rfl rfl rfl (hz_rbx (h := h) h6 hH hB hS.1.2.1 (zR_I h.2.1) hi.2.2.1 (by omega) (fun I2 w2 hB2 hVS2 _ q2 => ?_))
              obtain ⟨f2, f8, zr2⟩ := q2
              have zc1 : zC (bxS (pI h.2.1) s2.toInt s4.toInt s6.toInt) h.2.1 := by rw [bxS_0 (fun q => by unfold bxC at q; omega)]; exact hZ.2.1
              refine qm_Ru.go 3 (c' := (2081, [.retAddr 0, .ref 0, .ref 118, .int (i + 6)], [], (h.1, I2, h.2.2.1, h.2.2.2))) rfl ?_
              obtain ⟨v31, q_v31, e_v31⟩ := hk_add (x := i) (y := 6) (a := i.toInt) (b := 6) rfl rfl (by omega) (by omega)
              rw [q_v31]
              refine qm_Ru.go 1 (c' := (18, [.retAddr 0, .ref 0, .ref 118, .int v31], [], (h.1, I2, h.2.2.1, h.2.2.2))) rfl ?_
              have hS4 : (gS4B tb) (h.1, I2, h.2.2.1, h.2.2.2) := gz_fin hSX hZ (I1 := h.2.1) hS.1.1 (fun _ _ _ => rfl) hVS2 (fun o ho i => f2 o (hk_ms rfl ho) i) (fun i hi => f8 i (hk_ms rfl hi)) zc1 zr2 (bxS_K hZ.2.2.1 hi.2.2.1.1)
              exact hE _ v31 (by omega) (qa_Inv_of0 ⟨hH.1, hH.2⟩ hB2 ⟨hS4, Or.inl t⟩ (gS_ru hS4.1.1.1))
            · refine qm_Ru.go 2 (c' := (6, [.int s6, .int 6], [.int 6, .int s6], h)) rfl ?_
              refine hk_cge (ix := s6.toInt) (iy := 6) rfl rfl rfl (fun z32 => ?_) (fun z32 => ?_)
              · refine qm_Ru.go 1 (c' := (14, [.int s6, .int 6], [.int 0], h)) rfl ?_
                refine qm_Ru.rt (v := (some (.int 0))) (h' := h) rfl ?_
                refine qm_Ru.go 2 (c' := (29, [.ref 0, .int s2, .int s4, .int s6], [.int (-1)], h)) rfl ?_
                refine qm_Ru.rt (v := (some (.int (-1)))) (h' := h) rfl ?_
                refine qm_Ru.go 6 (c' := (417, [.retAddr 0, .ref 0, .ref 118, .int i], [.int (i + 1), .retAddr 0, .ref 118], h)) rfl ?_
                rw [q_v1]
                refine hk_scr (v := s2) rfl (by omega) (by omega) q_s2 ?_
                refine qm_Ru.go 4 (c' := (422, [.retAddr 0, .ref 0, .ref 118, .int i], [.int (i + 2), .retAddr 0, .int s2, .ref 118], h)) rfl ?_
                rw [q_v3]
                refine hk_scr (v := s4) rfl (by omega) (by omega) q_s4 ?_
                refine qm_Ru.go 4 (c' := (427, [.retAddr 0, .ref 0, .ref 118, .int i], [.int (i + 3), .retAddr 0, .int s4, .int s2, .ref 118], h)) rfl ?_
                rw [q_v5]
                refine hk_scr (v := s6) rfl (by omega) (by omega) q_s6 ?_
                refine qm_Ru.go 0 (c' := (428, [.retAddr 0, .ref 0, .ref 118, .int i], [.int s6, .int s4, .int s2, .ref 118], h)) rfl ?_
                refine hk_inv (o := 118) (r := []) (as := [.ref 118, .int s2, .int s4, .int s6]) rfl rfl (hH.1 118 (17, 105) rfl) rfl rfl rfl rfl (hz_rbx (h := h) h6 hH hB hS.1.2.1 (zR_I h.2.1) hi.2.2.1 (by omega) (fun I2 w2 hB2 hVS2 _ q2 => ?_))
                obtain ⟨f2, f8, zr2⟩ := q2
                have zc1 : zC (bxS (pI h.2.1) s2.toInt s4.toInt s6.toInt) h.2.1 := by rw [bxS_0 (fun q => by unfold bxC at q; omega)]; exact hZ.2.1
                refine qm_Ru.go 3 (c' := (2081, [.retAddr 0, .ref 0, .ref 118, .int (i + 6)], [], (h.1, I2, h.2.2.1, h.2.2.2))) rfl ?_
                obtain ⟨v36, q_v36, e_v36⟩ := hk_add (x := i) (y := 6) (a := i.toInt) (b := 6) rfl rfl (by omega) (by omega)
                rw [q_v36]
                refine qm_Ru.go 1 (c' := (18, [.retAddr 0, .ref 0, .ref 118, .int v36], [], (h.1, I2, h.2.2.1, h.2.2.2))) rfl ?_
                have hS4 : (gS4B tb) (h.1, I2, h.2.2.1, h.2.2.2) := gz_fin hSX hZ (I1 := h.2.1) hS.1.1 (fun _ _ _ => rfl) hVS2 (fun o ho i => f2 o (hk_ms rfl ho) i) (fun i hi => f8 i (hk_ms rfl hi)) zc1 zr2 (bxS_K hZ.2.2.1 hi.2.2.1.1)
                exact hE _ v36 (by omega) (qa_Inv_of0 ⟨hH.1, hH.2⟩ hB2 ⟨hS4, Or.inl t⟩ (gS_ru hS4.1.1.1))
              · refine qm_Ru.go 2 (c' := (14, [.int s6, .int 6], [.int 1], h)) rfl ?_
                refine qm_Ru.rt (v := (some (.int 1))) (h' := h) rfl ?_
                refine qm_Ru.go 2 (c' := (31, [.ref 0, .int s2, .int s4, .int s6], [.ref 0], h)) rfl ?_
                refine hk_getr rfl (hH.1 0 (16, 10) rfl) rfl (hH.2 0 2 (some 6) rfl) ?_
                refine qm_Ru.go 3 (c' := (37, [.ref 0, .int s2, .int s4, .int s6], [.int s6, .int s4, .int s2, .ref 6], h)) rfl ?_
                refine hk_inv (o := 6) (r := []) (as := [.ref 6, .int s2, .int s4, .int s6]) rfl rfl (hH.1 6 (6, 9) rfl) rfl rfl rfl rfl (hz_cmk (h := h) h6 hH hB hS.1.1 hZ.2.1 hZ.2.2.1 hi.2.2.1 ⟨by omega, by omega⟩ ⟨by omega, by omega⟩ ⟨by omega, by omega⟩ (by omega) (fun I1 w1 hB1 hV1 f1 zc1 => ?_))
                have hS1 : gS (h.1, I1, h.2.2.1, h.2.2.2) := gS_c hS.1 hV1 f1 (by decide)
                refine qm_Ru.go 0 (c' := (40, [.ref 0, .int s2, .int s4, .int s6], [.int w1], (h.1, I1, h.2.2.1, h.2.2.2))) rfl ?_
                refine qm_Ru.rt (v := (some (.int w1))) (h' := (h.1, I1, h.2.2.1, h.2.2.2)) rfl ?_
                refine qm_Ru.go 6 (c' := (417, [.retAddr 0, .ref 0, .ref 118, .int i], [.int (i + 1), .retAddr 0, .ref 118], (h.1, I1, h.2.2.1, h.2.2.2))) rfl ?_
                rw [q_v1]
                refine hk_scr (v := s2) rfl (by omega) (by omega) q_s2 ?_
                refine qm_Ru.go 4 (c' := (422, [.retAddr 0, .ref 0, .ref 118, .int i], [.int (i + 2), .retAddr 0, .int s2, .ref 118], (h.1, I1, h.2.2.1, h.2.2.2))) rfl ?_
                rw [q_v3]
                refine hk_scr (v := s4) rfl (by omega) (by omega) q_s4 ?_
                refine qm_Ru.go 4 (c' := (427, [.retAddr 0, .ref 0, .ref 118, .int i], [.int (i + 3), .retAddr 0, .int s4, .int s2, .ref 118], (h.1, I1, h.2.2.1, h.2.2.2))) rfl ?_
                rw [q_v5]
                refine hk_scr (v := s6) rfl (by omega) (by omega) q_s6 ?_
                refine qm_Ru.go 0 (c' := (428, [.retAddr 0, .ref 0, .ref 118, .int i], [.int s6, .int s4, .int s2, .ref 118], (h.1, I1, h.2.2.1, h.2.2.2))) rfl ?_
                refine hk_inv (o := 118) (r := []) (as := [.ref 118, .int s2, .int s4, .int s6]) rfl rfl (hH.1 118 (17, 105) rfl) rfl rfl rfl rfl (hz_rbx (h := (h.1, I1, h.2.2.1, h.2.2.2)) h6 hH hB1 hS1.2.1 (zR_c (zR_I h.2.1) f1) hi.2.2.1 (by omega) (fun I2 w2 hB2 hVS2 _ q2 => ?_))
                obtain ⟨f2, f8, zr2⟩ := q2
                refine qm_Ru.go 3 (c' := (2081, [.retAddr 0, .ref 0, .ref 118, .int (i + 6)], [], (h.1, I2, h.2.2.1, h.2.2.2))) rfl ?_
                obtain ⟨v40, q_v40, e_v40⟩ := hk_add (x := i) (y := 6) (a := i.toInt) (b := 6) rfl rfl (by omega) (by omega)
                rw [q_v40]
                refine qm_Ru.go 1 (c' := (18, [.retAddr 0, .ref 0, .ref 118, .int v40], [], (h.1, I2, h.2.2.1, h.2.2.2))) rfl ?_
                have hS4 : (gS4B tb) (h.1, I2, h.2.2.1, h.2.2.2) := gz_fin hSX hZ hV1 f1 hVS2 (fun o ho i => f2 o (hk_ms rfl ho) i) (fun i hi => f8 i (hk_ms rfl hi)) zc1 zr2 (bxS_K hZ.2.2.1 hi.2.2.1.1)
                exact hE _ v40 (by omega) (qa_Inv_of0 ⟨hH.1, hH.2⟩ hB2 ⟨hS4, Or.inl t⟩ (gS_ru hS4.1.1.1))
  · have hm := gZ_b hZ t.2
    have hi := zI_of (Or.inr ⟨rfl, rfl⟩) hB hS.1 hZ.2.1 hm
    refine qm_Ru.go 5 (c' := (397, [.retAddr 0, .ref 0, .ref 118, .int i], [.int (i + 1), .retAddr 0, .ref 0], h)) rfl ?_
    obtain ⟨v1, q_v1, e_v1⟩ := hk_add (x := i) (y := 1) (a := i.toInt) (b := 1) rfl rfl (by omega) (by omega)
    rw [q_v1]
    obtain ⟨s2, q_s2⟩ : ∃ v_, xs (v1).toNatClampNeg = v_ := ⟨_, rfl⟩
    have := hk_rng s2
    refine hk_scr (v := s2) rfl (by omega) (by omega) q_s2 ?_
    refine qm_Ru.go 4 (c' := (402, [.retAddr 0, .ref 0, .ref 118, .int i], [.int (i + 2), .retAddr 0, .int s2, .ref 0], h)) rfl ?_
    obtain ⟨v3, q_v3, e_v3⟩ := hk_add (x := i) (y := 2) (a := i.toInt) (b := 2) rfl rfl (by omega) (by omega)
    rw [q_v3]
    obtain ⟨s4, q_s4⟩ : ∃ v_, xs (v3).toNatClampNeg = v_ := ⟨_, rfl⟩
    have := hk_rng s4
    refine hk_scr (v := s4) rfl (by omega) (by omega) q_s4 ?_
    refine qm_Ru.go 4 (c' := (407, [.retAddr 0, .ref 0, .ref 118, .int i], [.int (i + 3), .retAddr 0, .int s4, .int s2, .ref 0], h)) rfl ?_
    obtain ⟨v5, q_v5, e_v5⟩ := hk_add (x := i) (y := 3) (a := i.toInt) (b := 3) rfl rfl (by omega) (by omega)
    rw [q_v5]
    obtain ⟨s6, q_s6⟩ : ∃ v_, xs (v5).toNatClampNeg = v_ := ⟨_, rfl⟩
    have := hk_rng s6
    refine hk_scr (v := s6) rfl (by omega) (by omega) q_s6 ?_
    refine qm_Ru.go 0 (c' := (408, [.retAddr 0, .ref 0, .ref 118, .int i], [.int s6, .int s4, .int s2, .ref 0], h)) rfl ?_
    refine hk_inv (o := 0) (r := []) (as := [.ref 0, .int s2, .int s4, .int s6]) rfl rfl (hH.1 0 (16, 10) rfl) rfl rfl rfl rfl ?_
    refine qm_Ru.go 2 (c' := (2, [.ref 0, .int s2, .int s4, .int s6], [.int 1, .int s2], h)) rfl ?_
    refine hk_clt (ix := s2.toInt) (iy := 1) rfl rfl rfl (fun z7 => ?_) (fun z7 => ?_)
    · refine qm_Ru.go 1 (c' := (29, [.ref 0, .int s2, .int s4, .int s6], [.int (-1)], h)) rfl ?_
      refine qm_Ru.rt (v := (some (.int (-1)))) (h' := h) rfl ?_
      refine qm_Ru.go 6 (c' := (417, [.retAddr 0, .ref 0, .ref 118, .int i], [.int (i + 1), .retAddr 0, .ref 118], h)) rfl ?_
      rw [q_v1]
      refine hk_scr (v := s2) rfl (by omega) (by omega) q_s2 ?_
      refine qm_Ru.go 4 (c' := (422, [.retAddr 0, .ref 0, .ref 118, .int i], [.int (i + 2), .retAddr 0, .int s2, .ref 118], h)) rfl ?_
      rw [q_v3]
      refine hk_scr (v := s4) rfl (by omega) (by omega) q_s4 ?_
      refine qm_Ru.go 4 (c' := (427, [.retAddr 0, .ref 0, .ref 118, .int i], [.int (i + 3), .retAddr 0, .int s4, .int s2, .ref 118], h)) rfl ?_
      rw [q_v5]
      refine hk_scr (v := s6) rfl (by omega) (by omega) q_s6 ?_
      refine qm_Ru.go 0 (c' := (428, [.retAddr 0, .ref 0, .ref 118, .int i], [.int s6, .int s4, .int s2, .ref 118], h)) rfl ?_
      refine hk_inv (o := 118) (r := []) (as := [.ref 118, .int s2, .int s4, .int s6]) rfl rfl (hH.1 118 (17, 105) rfl) rfl rfl rfl rfl (hz_rbx (h := h) h6 hH hB hS.1.2.1 (zR_I h.2.1) hi.2.2.1 (by omega) (fun I2 w2 hB2 hVS2 _ q2 => ?_))
      obtain ⟨f2, f8, zr2⟩ := q2
      have zc1 : zC (bxS (pI h.2.1) s2.toInt s4.toInt s6.toInt) h.2.1 := by rw [bxS_0 (fun q => by unfold bxC at q; omega)]; exact hZ.2.1
      refine qm_Ru.go 3 (c' := (2081, [.retAddr 0, .ref 0, .ref 118, .int (i + 6)], [], (h.1, I2, h.2.2.1, h.2.2.2))) rfl ?_
      obtain ⟨v11, q_v11, e_v11⟩ := hk_add (x := i) (y := 6) (a := i.toInt) (b := 6) rfl rfl (by omega) (by omega)
      rw [q_v11]
      refine qm_Ru.go 1 (c' := (18, [.retAddr 0, .ref 0, .ref 118, .int v11], [], (h.1, I2, h.2.2.1, h.2.2.2))) rfl ?_
      have hS4 : (gS4B tb) (h.1, I2, h.2.2.1, h.2.2.2) := gz_fin hSX hZ (I1 := h.2.1) hS.1.1 (fun _ _ _ => rfl) hVS2 (fun o ho i => f2 o (hk_ms rfl ho) i) (fun i hi => f8 i (hk_ms rfl hi)) zc1 zr2 (bxS_K hZ.2.2.1 hi.2.2.1.1)
      exact hE _ v11 (by omega) (qa_Inv_of0 ⟨hH.1, hH.2⟩ hB2 ⟨hS4, Or.inr t⟩ (gS_ru hS4.1.1.1))
    · refine qm_Ru.go 2 (c' := (8, [.ref 0, .int s2, .int s4, .int s6], [.int 40, .int s2], h)) rfl ?_
      refine hk_cgt (ix := s2.toInt) (iy := 40) rfl rfl rfl (fun z12 => ?_) (fun z12 => ?_)
      · refine qm_Ru.go 1 (c' := (29, [.ref 0, .int s2, .int s4, .int s6], [.int (-1)], h)) rfl ?_
        refine qm_Ru.rt (v := (some (.int (-1)))) (h' := h) rfl ?_
        refine qm_Ru.go 6 (c' := (417, [.retAddr 0, .ref 0, .ref 118, .int i], [.int (i + 1), .retAddr 0, .ref 118], h)) rfl ?_
        rw [q_v1]
        refine hk_scr (v := s2) rfl (by omega) (by omega) q_s2 ?_
        refine qm_Ru.go 4 (c' := (422, [.retAddr 0, .ref 0, .ref 118, .int i], [.int (i + 2), .retAddr 0, .int s2, .ref 118], h)) rfl ?_
        rw [q_v3]
        refine hk_scr (v := s4) rfl (by omega) (by omega) q_s4 ?_
        refine qm_Ru.go 4 (c' := (427, [.retAddr 0, .ref 0, .ref 118, .int i], [.int (i + 3), .retAddr 0, .int s4, .int s2, .ref 118], h)) rfl ?_
        rw [q_v5]
        refine hk_scr (v := s6) rfl (by omega) (by omega) q_s6 ?_
        refine qm_Ru.go 0 (c' := (428, [.retAddr 0, .ref 0, .ref 118, .int i], [.int s6, .int s4, .int s2, .ref 118], h)) rfl ?_
        refine hk_inv (o := 118) (r := []) (as := [.ref 118, .int s2, .int s4, .int s6]) rfl rfl (hH.1 118 (17, 105) rfl) rfl rfl rfl rfl (hz_rbx (h := h) h6 hH hB hS.1.2.1 (zR_I h.2.1) hi.2.2.1 (by omega) (fun I2 w2 hB2 hVS2 _ q2 => ?_))
        obtain ⟨f2, f8, zr2⟩ := q2
        have zc1 : zC (bxS (pI h.2.1) s2.toInt s4.toInt s6.toInt) h.2.1 := by rw [bxS_0 (fun q => by unfold bxC at q; omega)]; exact hZ.2.1
        refine qm_Ru.go 3 (c' := (2081, [.retAddr 0, .ref 0, .ref 118, .int (i + 6)], [], (h.1, I2, h.2.2.1, h.2.2.2))) rfl ?_
        obtain ⟨v16, q_v16, e_v16⟩ := hk_add (x := i) (y := 6) (a := i.toInt) (b := 6) rfl rfl (by omega) (by omega)
        rw [q_v16]
        refine qm_Ru.go 1 (c' := (18, [.retAddr 0, .ref 0, .ref 118, .int v16], [], (h.1, I2, h.2.2.1, h.2.2.2))) rfl ?_
        have hS4 : (gS4B tb) (h.1, I2, h.2.2.1, h.2.2.2) := gz_fin hSX hZ (I1 := h.2.1) hS.1.1 (fun _ _ _ => rfl) hVS2 (fun o ho i => f2 o (hk_ms rfl ho) i) (fun i hi => f8 i (hk_ms rfl hi)) zc1 zr2 (bxS_K hZ.2.2.1 hi.2.2.1.1)
        exact hE _ v16 (by omega) (qa_Inv_of0 ⟨hH.1, hH.2⟩ hB2 ⟨hS4, Or.inr t⟩ (gS_ru hS4.1.1.1))
      · refine qm_Ru.go 2 (c' := (13, [.ref 0, .int s2, .int s4, .int s6], [.int 5, .int s4], h)) rfl ?_
        refine qm_Ru.call (j := 65) (as := [.int s4, .int 5]) (c' := (16, [.ref 0, .int s2, .int s4, .int s6], [], h)) rfl rfl rfl ?_
        refine qm_Ru.go 1 (c' := (1, [.int s4, .int 5], [.int s4], h)) rfl ?_
        refine hk_zlt (ix := s4.toInt) rfl rfl (fun z17 => ?_) (fun z17 => ?_)
        · refine qm_Ru.go 1 (c' := (14, [.int s4, .int 5], [.int 0], h)) rfl ?_
          refine qm_Ru.rt (v := (some (.int 0))) (h' := h) rfl ?_
          refine qm_Ru.go 2 (c' := (29, [.ref 0, .int s2, .int s4, .int s6], [.int (-1)], h)) rfl ?_
          refine qm_Ru.rt (v := (some (.int (-1)))) (h' := h) rfl ?_
          refine qm_Ru.go 6 (c' := (417, [.retAddr 0, .ref 0, .ref 118, .int i], [.int (i + 1), .retAddr 0, .ref 118], h)) rfl ?_
          rw [q_v1]
          refine hk_scr (v := s2) rfl (by omega) (by omega) q_s2 ?_
          refine qm_Ru.go 4 (c' := (422, [.retAddr 0, .ref 0, .ref 118, .int i], [.int (i + 2), .retAddr 0, .int s2, .ref 118], h)) rfl ?_
          rw [q_v3]
          refine hk_scr (v := s4) rfl (by omega) (by omega) q_s4 ?_
          refine qm_Ru.go 4 (c' := (427, [.retAddr 0, .ref 0, .ref 118, .int i], [.int (i + 3), .retAddr 0, .int s4, .int s2, .ref 118], h)) rfl ?_
          rw [q_v5]
          refine hk_scr (v := s6) rfl (by omega) (by omega) q_s6 ?_
          refine qm_Ru.go 0 (c' := (428, [.retAddr 0, .ref 0, .ref 118, .int i], [.int s6, .int s4, .int s2, .ref 118], h)) rfl ?_
          refine hk_inv (o := 118) (r := []) (as := [.ref 118, .int s2, .int s4, .int s6]) rfl rfl (hH.1 118 (17, 105) rfl) rfl rfl rfl rfl (hz_rbx (h := h) h6 hH hB hS.1.2.1 (zR_I h.2.1) hi.2.2.1 (by omega) (fun I2 w2 hB2 hVS2 _ q2 => ?_))
          obtain ⟨f2, f8, zr2⟩ := q2
          have zc1 : zC (bxS (pI h.2.1) s2.toInt s4.toInt s6.toInt) h.2.1 := by rw [bxS_0 (fun q => by unfold bxC at q; omega)]; exact hZ.2.1
          refine qm_Ru.go 3 (c' := (2081, [.retAddr 0, .ref 0, .ref 118, .int (i + 6)], [], (h.1, I2, h.2.2.1, h.2.2.2))) rfl ?_
          obtain ⟨v21, q_v21, e_v21⟩ := hk_add (x := i) (y := 6) (a := i.toInt) (b := 6) rfl rfl (by omega) (by omega)
          rw [q_v21]
          refine qm_Ru.go 1 (c' := (18, [.retAddr 0, .ref 0, .ref 118, .int v21], [], (h.1, I2, h.2.2.1, h.2.2.2))) rfl ?_
          have hS4 : (gS4B tb) (h.1, I2, h.2.2.1, h.2.2.2) := gz_fin hSX hZ (I1 := h.2.1) hS.1.1 (fun _ _ _ => rfl) hVS2 (fun o ho i => f2 o (hk_ms rfl ho) i) (fun i hi => f8 i (hk_ms rfl hi)) zc1 zr2 (bxS_K hZ.2.2.1 hi.2.2.1.1)
          exact hE _ v21 (by omega) (qa_Inv_of0 ⟨hH.1, hH.2⟩ hB2 ⟨hS4, Or.inr t⟩ (gS_ru hS4.1.1.1))
        · refine qm_Ru.go 2 (c' := (6, [.int s4, .int 5], [.int 5, .int s4], h)) rfl ?_
          refine hk_cge (ix := s4.toInt) (iy := 5) rfl rfl rfl (fun z22 => ?_) (fun z22 => ?_)
          · refine qm_Ru.go 1 (c' := (14, [.int s4, .int 5], [.int 0], h)) rfl ?_
            refine qm_Ru.rt (v := (some (.int 0))) (h' := h) rfl ?_
            refine qm_Ru.go 2 (c' := (29, [.ref 0, .int s2, .int s4, .int s6], [.int (-1)], h)) rfl ?_
            refine qm_Ru.rt (v := (some (.int (-1)))) (h' := h) rfl ?_
            refine qm_Ru.go 6 (c' := (417, [.retAddr 0, .ref 0, .ref 118, .int i], [.int (i + 1), .retAddr 0, .ref 118], h)) rfl ?_
            rw [q_v1]
            refine hk_scr (v := s2) rfl (by omega) (by omega) q_s2 ?_
            refine qm_Ru.go 4 (c' := (422, [.retAddr 0, .ref 0, .ref 118, .int i], [.int (i + 2), .retAddr 0, .int s2, .ref 118], h)) rfl ?_
            rw [q_v3]
            refine hk_scr (v := s4) rfl (by omega) (by omega) q_s4 ?_
            refine qm_Ru.go 4 (c' := (427, [.retAddr 0, .ref 0, .ref 118, .int i], [.int (i + 3), .retAddr 0, .int s4, .int s2, .ref 118], h)) rfl ?_
            rw [q_v5]
            refine hk_scr (v := s6) rfl (by omega) (by omega) q_s6 ?_
            refine qm_Ru.go 0 (c' := (428, [.retAddr 0, .ref 0, .ref 118, .int i], [.int s6, .int s4, .int s2, .ref 118], h)) rfl ?_
            refine hk_inv (o := 118) (r := []) (as := [.ref 118, .int s2, .int s4, .int s6]) rfl rfl (hH.1 118 (17, 105) rfl) rfl rfl rfl rfl (hz_rbx (h := h) h6 hH hB hS.1.2.1 (zR_I h.2.1) hi.2.2.1 (by omega) (fun I2 w2 hB2 hVS2 _ q2 => ?_))
            obtain ⟨f2, f8, zr2⟩ := q2
            have zc1 : zC (bxS (pI h.2.1) s2.toInt s4.toInt s6.toInt) h.2.1 := by rw [bxS_0 (fun q => by unfold bxC at q; omega)]; exact hZ.2.1
            refine qm_Ru.go 3 (c' := (2081, [.retAddr 0, .ref 0, .ref 118, .int (i + 6)], [], (h.1, I2, h.2.2.1, h.2.2.2))) rfl ?_
            obtain ⟨v26, q_v26, e_v26⟩ := hk_add (x := i) (y := 6) (a := i.toInt) (b := 6) rfl rfl (by omega) (by omega)
            rw [q_v26]
            refine qm_Ru.go 1 (c' := (18, [.retAddr 0, .ref 0, .ref 118, .int v26], [], (h.1, I2, h.2.2.1, h.2.2.2))) rfl ?_
            have hS4 : (gS4B tb) (h.1, I2, h.2.2.1, h.2.2.2) := gz_fin hSX hZ (I1 := h.2.1) hS.1.1 (fun _ _ _ => rfl) hVS2 (fun o ho i => f2 o (hk_ms rfl ho) i) (fun i hi => f8 i (hk_ms rfl hi)) zc1 zr2 (bxS_K hZ.2.2.1 hi.2.2.1.1)
            exact hE _ v26 (by omega) (qa_Inv_of0 ⟨hH.1, hH.2⟩ hB2 ⟨hS4, Or.inr t⟩ (gS_ru hS4.1.1.1))
          · refine qm_Ru.go 2 (c' := (14, [.int s4, .int 5], [.int 1], h)) rfl ?_
            refine qm_Ru.rt (v := (some (.int 1))) (h' := h) rfl ?_
            refine qm_Ru.go 3 (c' := (22, [.ref 0, .int s2, .int s4, .int s6], [.int 6, .int s6], h)) rfl ?_
            refine qm_Ru.call (j := 65) (as := [.int s6, .int 6]) (c' := (25, [.ref 0, .int s2, .int s4, .int s6], [], h)) rfl rfl rfl ?_
            refine qm_Ru.go 1 (c' := (1, [.int s6, .int 6], [.int s6], h)) rfl ?_
            refine hk_zlt (ix := s6.toInt) rfl rfl (fun z27 => ?_) (fun z27 => ?_)
            · refine qm_Ru.go 1 (c' := (14, [.int s6, .int 6], [.int 0], h)) rfl ?_
              refine qm_Ru.rt (v := (some (.int 0))) (h' := h) rfl ?_
              refine qm_Ru.go 2 (c' := (29, [.ref 0, .int s2, .int s4, .int s6], [.int (-1)], h)) rfl ?_
              refine qm_Ru.rt (v := (some (.int (-1)))) (h' := h) rfl ?_
              refine qm_Ru.go 6 (c' := (417, [.retAddr 0, .ref 0, .ref 118, .int i], [.int (i + 1), .retAddr 0, .ref 118], h)) rfl ?_
              rw [q_v1]
              refine hk_scr (v := s2) rfl (by omega) (by omega) q_s2 ?_
              refine qm_Ru.go 4 (c' := (422, [.retAddr 0, .ref 0, .ref 118, .int i], [.int (i + 2), .retAddr 0, .int s2, .ref 118], h)) rfl ?_
              rw [q_v3]
              refine hk_scr (v := s4) rfl (by omega) (by omega) q_s4 ?_
              refine qm_Ru.go 4 (c' := (427, [.retAddr 0, .ref 0, .ref 118, .int i], [.int (i + 3), .retAddr 0, .int s4, .int s2, .ref 118], h)) rfl ?_
              rw [q_v5]
              refine hk_scr (v := s6) rfl (by omega) (by omega) q_s6 ?_
              refine qm_Ru.go 0 (c' := (428, [.retAddr 0, .ref 0, .ref 118, .int i], [.int s6, .int s4, .int s2, .ref 118], h)) rfl ?_
              refine hk_inv (o := 118) (r := []) (as := [.ref 118, .int s2, .int s4, .int s6]) rfl rfl (hH.1 118 (17, 105) rfl) rfl rfl rfl rfl (hz_rbx (h := h) h6 hH hB hS.1.2.1 (zR_I h.2.1) hi.2.2.1 (by omega) (fun I2 w2 hB2 hVS2 _ q2 => ?_))
              obtain ⟨f2, f8, zr2⟩ := q2
              have zc1 : zC (bxS (pI h.2.1) s2.toInt s4.toInt s6.toInt) h.2.1 := by rw [bxS_0 (fun q => by unfold bxC at q; omega)]; exact hZ.2.1
              refine qm_Ru.go 3 (c' := (2081, [.retAddr 0, .ref 0, .ref 118, .int (i + 6)], [], (h.1, I2, h.2.2.1, h.2.2.2))) rfl ?_
              obtain ⟨v31, q_v31, e_v31⟩ := hk_add (x := i) (y := 6) (a := i.toInt) (b := 6) rfl rfl (by omega) (by omega)
              rw [q_v31]
              refine qm_Ru.go 1 (c' := (18, [.retAddr 0, .ref 0, .ref 118, .int v31], [], (h.1, I2, h.2.2.1, h.2.2.2))) rfl ?_
              have hS4 : (gS4B tb) (h.1, I2, h.2.2.1, h.2.2.2) := gz_fin hSX hZ (I1 := h.2.1) hS.1.1 (fun _ _ _ => rfl) hVS2 (fun o ho i => f2 o (hk_ms rfl ho) i) (fun i hi => f8 i (hk_ms rfl hi)) zc1 zr2 (bxS_K hZ.2.2.1 hi.2.2.1.1)
              exact hE _ v31 (by omega) (qa_Inv_of0 ⟨hH.1, hH.2⟩ hB2 ⟨hS4, Or.inr t⟩ (gS_ru hS4.1.1.1))
            · refine qm_Ru.go 2 (c' := (6, [.int s6, .int 6], [.int 6, .int s6], h)) rfl ?_
              refine hk_cge (ix := s6.toInt) (iy := 6) rfl rfl rfl (fun z32 => ?_) (fun z32 => ?_)
              · refine qm_Ru.go 1 (c' := (14, [.int s6, .int 6], [.int 0], h)) rfl ?_
                refine qm_Ru.rt (v := (some (.int 0))) (h' := h) rfl ?_
                refine qm_Ru.go 2 (c' := (29, [.ref 0, .int s2, .int s4, .int s6], [.int (-1)], h)) rfl ?_
                refine qm_Ru.rt (v := (some (.int (-1)))) (h' := h) rfl ?_
                refine qm_Ru.go 6 (c' := (417, [.retAddr 0, .ref 0, .ref 118, .int i], [.int (i + 1), .retAddr 0, .ref 118], h)) rfl ?_
                rw [q_v1]
                refine hk_scr (v := s2) rfl (by omega) (by omega) q_s2 ?_
                refine qm_Ru.go 4 (c' := (422, [.retAddr 0, .ref 0, .ref 118, .int i], [.int (i + 2), .retAddr 0, .int s2, .ref 118], h)) rfl ?_
                rw [q_v3]
                refine hk_scr (v := s4) rfl (by omega) (by omega) q_s4 ?_
                refine qm_Ru.go 4 (c' := (427, [.retAddr 0, .ref 0, .ref 118, .int i], [.int (i + 3), .retAddr 0, .int s4, .int s2, .ref 118], h)) rfl ?_
                rw [q_v5]
                refine hk_scr (v := s6) rfl (by omega) (by omega) q_s6 ?_
                refine qm_Ru.go 0 (c' := (428, [.retAddr 0, .ref 0, .ref 118, .int i], [.int s6, .int s4, .int s2, .ref 118], h)) rfl ?_
                refine hk_inv (o := 118) (r := []) (as := [.ref 118, .int s2, .int s4, .int s6]) rfl rfl (hH.1 118 (17, 105) rfl) rfl rfl rfl rfl (hz_rbx (h := h) h6 hH hB hS.1.2.1 (zR_I h.2.1) hi.2.2.1 (by omega) (fun I2 w2 hB2 hVS2 _ q2 => ?_))
                obtain ⟨f2, f8, zr2⟩ := q2
                have zc1 : zC (bxS (pI h.2.1) s2.toInt s4.toInt s6.toInt) h.2.1 := by rw [bxS_0 (fun q => by unfold bxC at q; omega)]; exact hZ.2.1
                refine qm_Ru.go 3 (c' := (2081, [.retAddr 0, .ref 0, .ref 118, .int (i + 6)], [], (h.1, I2, h.2.2.1, h.2.2.2))) rfl ?_
                obtain ⟨v36, q_v36, e_v36⟩ := hk_add (x := i) (y := 6) (a := i.toInt) (b := 6) rfl rfl (by omega) (by omega)
                rw [q_v36]
                refine qm_Ru.go 1 (c' := (18, [.retAddr 0, .ref 0, .ref 118, .int v36], [], (h.1, I2, h.2.2.1, h.2.2.2))) rfl ?_
                have hS4 : (gS4B tb) (h.1, I2, h.2.2.1, h.2.2.2) := gz_fin hSX hZ (I1 := h.2.1) hS.1.1 (fun _ _ _ => rfl) hVS2 (fun o ho i => f2 o (hk_ms rfl ho) i) (fun i hi => f8 i (hk_ms rfl hi)) zc1 zr2 (bxS_K hZ.2.2.1 hi.2.2.1.1)
                exact hE _ v36 (by omega) (qa_Inv_of0 ⟨hH.1, hH.2⟩ hB2 ⟨hS4, Or.inr t⟩ (gS_ru hS4.1.1.1))
              · refine qm_Ru.go 2 (c' := (14, [.int s6, .int 6], [.int 1], h)) rfl ?_
                refine qm_Ru.rt (v := (some (.int 1))) (h' := h) rfl ?_
                refine qm_Ru.go 2 (c' := (31, [.ref 0, .int s2, .int s4, .int s6], [.ref 0], h)) rfl ?_
                refine hk_getr rfl (hH.1 0 (16, 10) rfl) rfl (hH.2 0 2 (some 6) rfl) ?_
                refine qm_Ru.go 3 (c' := (37, [.ref 0, .int s2, .int s4, .int s6], [.int s6, .int s4, .int s2, .ref 6], h)) rfl ?_
                refine hk_inv (o := 6) (r := []) (as := [.ref 6, .int s2, .int s4, .int s6]) rfl rfl (hH.1 6 (6, 9) rfl) rfl rfl rfl rfl (hz_cmk (h := h) h6 hH hB hS.1.1 hZ.2.1 hZ.2.2.1 hi.2.2.1 ⟨by omega, by omega⟩ ⟨by omega, by omega⟩ ⟨by omega, by omega⟩ (by omega) (fun I1 w1 hB1 hV1 f1 zc1 => ?_))
                have hS1 : gS (h.1, I1, h.2.2.1, h.2.2.2) := gS_c hS.1 hV1 f1 (by decide)
                refine qm_Ru.go 0 (c' := (40, [.ref 0, .int s2, .int s4, .int s6], [.int w1], (h.1, I1, h.2.2.1, h.2.2.2))) rfl ?_
                refine qm_Ru.rt (v := (some (.int w1))) (h' := (h.1, I1, h.2.2.1, h.2.2.2)) rfl ?_
                refine qm_Ru.go 6 (c' := (417, [.retAddr 0, .ref 0, .ref 118, .int i], [.int (i + 1), .retAddr 0, .ref 118], (h.1, I1, h.2.2.1, h.2.2.2))) rfl ?_
                rw [q_v1]
                refine hk_scr (v := s2) rfl (by omega) (by omega) q_s2 ?_
                refine qm_Ru.go 4 (c' := (422, [.retAddr 0, .ref 0, .ref 118, .int i], [.int (i + 2), .retAddr 0, .int s2, .ref 118], (h.1, I1, h.2.2.1, h.2.2.2))) rfl ?_
                rw [q_v3]
                refine hk_scr (v := s4) rfl (by omega) (by omega) q_s4 ?_
                refine qm_Ru.go 4 (c' := (427, [.retAddr 0, .ref 0, .ref 118, .int i], [.int (i + 3), .retAddr 0, .int s4, .int s2, .ref 118], (h.1, I1, h.2.2.1, h.2.2.2))) rfl ?_
                rw [q_v5]
                refine hk_scr (v := s6) rfl (by omega) (by omega) q_s6 ?_
                refine qm_Ru.go 0 (c' := (428, [.retAddr 0, .ref 0, .ref 118, .int i], [.int s6, .int s4, .int s2, .ref 118], (h.1, I1, h.2.2.1, h.2.2.2))) rfl ?_
                refine hk_inv (o := 118) (r := []) (as := [.ref 118, .int s2, .int s4, .int s6]) rfl rfl (hH.1 118 (17, 105) rfl) rfl rfl rfl rfl (hz_rbx (h := (h.1, I1, h.2.2.1, h.2.2.2)) h6 hH hB1 hS1.2.1 (zR_c (zR_I h.2.1) f1) hi.2.2.1 (by omega) (fun I2 w2 hB2 hVS2 _ q2 => ?_))
                obtain ⟨f2, f8, zr2⟩ := q2
                refine qm_Ru.go 3 (c' := (2081, [.retAddr 0, .ref 0, .ref 118, .int (i + 6)], [], (h.1, I2, h.2.2.1, h.2.2.2))) rfl ?_
                obtain ⟨v40, q_v40, e_v40⟩ := hk_add (x := i) (y := 6) (a := i.toInt) (b := 6) rfl rfl (by omega) (by omega)
                rw [q_v40]
                refine qm_Ru.go 1 (c' := (18, [.retAddr 0, .ref 0, .ref 118, .int v40], [], (h.1, I2, h.2.2.1, h.2.2.2))) rfl ?_
                have hS4 : (gS4B tb) (h.1, I2, h.2.2.1, h.2.2.2) := gz_fin hSX hZ hV1 f1 hVS2 (fun o ho i => f2 o (hk_ms rfl ho) i) (fun i hi => f8 i (hk_ms rfl hi)) zc1 zr2 (bxS_K hZ.2.2.1 hi.2.2.1.1)
                exact hE _ v40 (by omega) (qa_Inv_of0 ⟨hH.1, hH.2⟩ hB2 ⟨hS4, Or.inr t⟩ (gS_ru hS4.1.1.1))
theorem qv_5 {L : Nat} {xs : Nat → Int32} {Z : Option Value → qm_H → Prop} (h6 : 6 ≤ L) (hl : L ≤ 3072) : qv_PB tb tb L xs Z 5 := by
  intro i h i0 i1 hI hE
  obtain ⟨j1, hB, j3, ⟨⟨hSX, hZ⟩, t⟩, -⟩ := hI
  have hS := hSX.1
  have hH : hk_H h := ⟨j1, j3⟩
  have b_i : 0 ≤ i.toInt ∧ i.toInt ≤ 3066 := by omega
  show qm_Ru (some (L, xs)) 300 cd_law (435, [.retAddr 0, .ref 0, .ref 118, .int i], [], h) Z
  rcases t with t | t
  · have hm := gZ_a hZ t.2
    have hi := zI_of (Or.inl ⟨rfl, rfl⟩) hB hS.1 hZ.2.1 hm
    refine qm_Ru.go 5 (c' := (440, [.retAddr 0, .ref 0, .ref 118, .int i], [.int (i + 1), .retAddr 0, .ref 0], h)) rfl ?_
    obtain ⟨v1, q_v1, e_v1⟩ := hk_add (x := i) (y := 1) (a := i.toInt) (b := 1) rfl rfl (by omega) (by omega)
    rw [q_v1]
    obtain ⟨s2, q_s2⟩ : ∃ v_, xs (v1).toNatClampNeg = v_ := ⟨_, rfl⟩
    have := hk_rng s2
    refine hk_scr (v := s2) rfl (by omega) (by omega) q_s2 ?_
    refine qm_Ru.go 4 (c' := (445, [.retAddr 0, .ref 0, .ref 118, .int i], [.int (i + 2), .retAddr 0, .int s2, .ref 0], h)) rfl ?_
    obtain ⟨v3, q_v3, e_v3⟩ := hk_add (x := i) (y := 2) (a := i.toInt) (b := 2) rfl rfl (by omega) (by omega)
    rw [q_v3]
    obtain ⟨s4, q_s4⟩ : ∃ v_, xs (v3).toNatClampNeg = v_ := ⟨_, rfl⟩
    have := hk_rng s4
    refine hk_scr (v := s4) rfl (by omega) (by omega) q_s4 ?_
    refine qm_Ru.go 0 (c' := (446, [.retAddr 0, .ref 0, .ref 118, .int i], [.int s4, .int s2, .ref 0], h)) rfl ?_
    refine hk_zeq (ix := s4.toInt) rfl rfl (fun z5 => ?_) (fun z5 => ?_)
    · refine qm_Ru.go 1 (c' := (454, [.retAddr 0, .ref 0, .ref 118, .int i], [.int 0, .int s2, .ref 0], h)) rfl ?_
      refine hk_inv (o := 0) (r := []) (as := [.ref 0, .int s2, .int 0]) rfl rfl (hH.1 0 (16, 10) rfl) rfl rfl rfl rfl (hz_csk (h := h) h6 hH hB (gS_ru hS.1) hZ.2.1 hi.2.2.1 ⟨by first | omega | decide, by first | omega | decide⟩ (by omega) (fun I1 w1 hB1 f1 zc1 => ?_))
      have hV1 : v_C I1 := v_C_cg9 hS.1.1 (fun o ho i => f1 o ((show ∀ o ∈ [6, 11, 12, 13, 14, 16, 17, 36, 150, 151], [10].contains o = false from by decide) o (List.contains_iff_mem.mp ho)) i)
      have f1 : ∀ o, [6, 7, 8, 9, 10, 11, 12, 13, 14, 16, 17, 28, 36, 37].contains o = false → ∀ i, I1 o i = h.2.1 o i := fun o ho i => f1 o (hk_ms rfl ho) i
      have hS1 : gS (h.1, I1, h.2.2.1, h.2.2.2) := gS_c hS.1 hV1 f1 (by decide)
      refine qm_Ru.go 6 (c' := (463, [.retAddr 0, .ref 0, .ref 118, .int i], [.int (i + 1), .retAddr 0, .ref 118], (h.1, I1, h.2.2.1, h.2.2.2))) rfl ?_
      rw [q_v1]
      refine hk_scr (v := s2) rfl (by omega) (by omega) q_s2 ?_
      refine qm_Ru.go 4 (c' := (468, [.retAddr 0, .ref 0, .ref 118, .int i], [.int (i + 2), .retAddr 0, .int s2, .ref 118], (h.1, I1, h.2.2.1, h.2.2.2))) rfl ?_
      rw [q_v3]
      refine hk_scr (v := s4) rfl (by omega) (by omega) q_s4 ?_
      refine qm_Ru.go 0 (c' := (469, [.retAddr 0, .ref 0, .ref 118, .int i], [.int s4, .int s2, .ref 118], (h.1, I1, h.2.2.1, h.2.2.2))) rfl ?_
      refine hk_zeq (ix := s4.toInt) rfl rfl (fun z8 => ?_) (fun z8 => by exfalso; omega)
      refine qm_Ru.go 1 (c' := (477, [.retAddr 0, .ref 0, .ref 118, .int i], [.int 0, .int s2, .ref 118], (h.1, I1, h.2.2.1, h.2.2.2))) rfl ?_
      refine hk_inv (o := 118) (r := []) (as := [.ref 118, .int s2, .int 0]) rfl rfl (hH.1 118 (17, 105) rfl) rfl rfl rfl rfl (hz_rsk (h := (h.1, I1, h.2.2.1, h.2.2.2)) h6 hH hB1 (gS_ru hS1) (zR_c (zR_I h.2.1) f1) hi.2.2.1 ⟨by first | omega | decide, by first | omega | decide⟩ (by omega) (fun I2 w2 hB2 f2 zr2 => ?_))
      have hVS2 : v_S I2 := v_S_sm hS1.2.1 (fun o ho i => f2 o ((show ∀ o ∈ q_objs, [149].contains o = false from by decide) o ho) i) (f2 158 rfl) (f2 118 rfl 18) (f2 118 rfl 44) (f2 118 rfl 59)
      refine qm_Ru.go 3 (c' := (2081, [.retAddr 0, .ref 0, .ref 118, .int (i + 6)], [], (h.1, I2, h.2.2.1, h.2.2.2))) rfl ?_
      obtain ⟨v9, q_v9, e_v9⟩ := hk_add (x := i) (y := 6) (a := i.toInt) (b := 6) rfl rfl (by omega) (by omega)
      rw [q_v9]
      refine qm_Ru.go 1 (c' := (18, [.retAddr 0, .ref 0, .ref 118, .int v9], [], (h.1, I2, h.2.2.1, h.2.2.2))) rfl ?_
      have hS4 : (gS4B tb) (h.1, I2, h.2.2.1, h.2.2.2) := gz_fin hSX hZ hV1 f1 hVS2 (fun o ho i => f2 o (hk_ms rfl ho) i) (fun i _ => f2 118 rfl i) zc1 zr2 (skT_K hZ.2.2.1)
      exact hE _ v9 (by omega) (qa_Inv_of0 ⟨hH.1, hH.2⟩ hB2 ⟨hS4, Or.inl t⟩ (gS_ru hS4.1.1.1))
    · refine qm_Ru.go 2 (c' := (454, [.retAddr 0, .ref 0, .ref 118, .int i], [.int 1, .int s2, .ref 0], h)) rfl ?_
      refine hk_inv (o := 0) (r := []) (as := [.ref 0, .int s2, .int 1]) rfl rfl (hH.1 0 (16, 10) rfl) rfl rfl rfl rfl (hz_csk (h := h) h6 hH hB (gS_ru hS.1) hZ.2.1 hi.2.2.1 ⟨by first | omega | decide, by first | omega | decide⟩ (by omega) (fun I1 w1 hB1 f1 zc1 => ?_))
      have hV1 : v_C I1 := v_C_cg9 hS.1.1 (fun o ho i => f1 o ((show ∀ o ∈ [6, 11, 12, 13, 14, 16, 17, 36, 150, 151], [10].contains o = false from by decide) o (List.contains_iff_mem.mp ho)) i)
      have f1 : ∀ o, [6, 7, 8, 9, 10, 11, 12, 13, 14, 16, 17, 28, 36, 37].contains o = false → ∀ i, I1 o i = h.2.1 o i := fun o ho i => f1 o (hk_ms rfl ho) i
      have hS1 : gS (h.1, I1, h.2.2.1, h.2.2.2) := gS_c hS.1 hV1 f1 (by decide)
      refine qm_Ru.go 6 (c' := (463, [.retAddr 0, .ref 0, .ref 118, .int i], [.int (i + 1), .retAddr 0, .ref 118], (h.1, I1, h.2.2.1, h.2.2.2))) rfl ?_
      rw [q_v1]
      refine hk_scr (v := s2) rfl (by omega) (by omega) q_s2 ?_
      refine qm_Ru.go 4 (c' := (468, [.retAddr 0, .ref 0, .ref 118, .int i], [.int (i + 2), .retAddr 0, .int s2, .ref 118], (h.1, I1, h.2.2.1, h.2.2.2))) rfl ?_
      rw [q_v3]
      refine hk_scr (v := s4) rfl (by omega) (by omega) q_s4 ?_
      refine qm_Ru.go 0 (c' := (469, [.retAddr 0, .ref 0, .ref 118, .int i], [.int s4, .int s2, .ref 118], (h.1, I1, h.2.2.1, h.2.2.2))) rfl ?_
      refine hk_zeq (ix := s4.toInt) rfl rfl (fun z12 => by exfalso; omega) (fun z12 => ?_)
      refine qm_Ru.go 2 (c' := (477, [.retAddr 0, .ref 0, .ref 118, .int i], [.int 1, .int s2, .ref 118], (h.1, I1, h.2.2.1, h.2.2.2))) rfl ?_
      refine hk_inv (o := 118) (r := []) (as := [.ref 118, .int s2, .int 1]) rfl rfl (hH.1 118 (17, 105) rfl) rfl rfl rfl rfl (hz_rsk (h := (h.1, I1, h.2.2.1, h.2.2.2)) h6 hH hB1 (gS_ru hS1) (zR_c (zR_I h.2.1) f1) hi.2.2.1 ⟨by first | omega | decide, by first | omega | decide⟩ (by omega) (fun I2 w2 hB2 f2 zr2 => ?_))
      have hVS2 : v_S I2 := v_S_sm hS1.2.1 (fun o ho i => f2 o ((show ∀ o ∈ q_objs, [149].contains o = false from by decide) o ho) i) (f2 158 rfl) (f2 118 rfl 18) (f2 118 rfl 44) (f2 118 rfl 59)
      refine qm_Ru.go 3 (c' := (2081, [.retAddr 0, .ref 0, .ref 118, .int (i + 6)], [], (h.1, I2, h.2.2.1, h.2.2.2))) rfl ?_
      obtain ⟨v13, q_v13, e_v13⟩ := hk_add (x := i) (y := 6) (a := i.toInt) (b := 6) rfl rfl (by omega) (by omega)
      rw [q_v13]
      refine qm_Ru.go 1 (c' := (18, [.retAddr 0, .ref 0, .ref 118, .int v13], [], (h.1, I2, h.2.2.1, h.2.2.2))) rfl ?_
      have hS4 : (gS4B tb) (h.1, I2, h.2.2.1, h.2.2.2) := gz_fin hSX hZ hV1 f1 hVS2 (fun o ho i => f2 o (hk_ms rfl ho) i) (fun i _ => f2 118 rfl i) zc1 zr2 (skT_K hZ.2.2.1)
      exact hE _ v13 (by omega) (qa_Inv_of0 ⟨hH.1, hH.2⟩ hB2 ⟨hS4, Or.inl t⟩ (gS_ru hS4.1.1.1))
  · have hm := gZ_b hZ t.2
    have hi := zI_of (Or.inr ⟨rfl, rfl⟩) hB hS.1 hZ.2.1 hm
    refine qm_Ru.go 5 (c' := (440, [.retAddr 0, .ref 0, .ref 118, .int i], [.int (i + 1), .retAddr 0, .ref 0], h)) rfl ?_
    obtain ⟨v1, q_v1, e_v1⟩ := hk_add (x := i) (y := 1) (a := i.toInt) (b := 1) rfl rfl (by omega) (by omega)
    rw [q_v1]
    obtain ⟨s2, q_s2⟩ : ∃ v_, xs (v1).toNatClampNeg = v_ := ⟨_, rfl⟩
    have := hk_rng s2
    refine hk_scr (v := s2) rfl (by omega) (by omega) q_s2 ?_
    refine qm_Ru.go 4 (c' := (445, [.retAddr 0, .ref 0, .ref 118, .int i], [.int (i + 2), .retAddr 0, .int s2, .ref 0], h)) rfl ?_
    obtain ⟨v3, q_v3, e_v3⟩ := hk_add (x := i) (y := 2) (a := i.toInt) (b := 2) rfl rfl (by omega) (by omega)
    rw [q_v3]
    obtain ⟨s4, q_s4⟩ : ∃ v_, xs (v3).toNatClampNeg = v_ := ⟨_, rfl⟩
    have := hk_rng s4
    refine hk_scr (v := s4) rfl (by omega) (by omega) q_s4 ?_
    refine qm_Ru.go 0 (c' := (446, [.retAddr 0, .ref 0, .ref 118, .int i], [.int s4, .int s2, .ref 0], h)) rfl ?_
    refine hk_zeq (ix := s4.toInt) rfl rfl (fun z5 => ?_) (fun z5 => ?_)
    · refine qm_Ru.go 1 (c' := (454, [.retAddr 0, .ref 0, .ref 118, .int i], [.int 0, .int s2, .ref 0], h)) rfl ?_
      refine hk_inv (o := 0) (r := []) (as := [.ref 0, .int s2, .int 0]) rfl rfl (hH.1 0 (16, 10) rfl) rfl rfl rfl rfl (hz_csk (h := h) h6 hH hB (gS_ru hS.1) hZ.2.1 hi.2.2.1 ⟨by first | omega | decide, by first | omega | decide⟩ (by omega) (fun I1 w1 hB1 f1 zc1 => ?_))
      have hV1 : v_C I1 := v_C_cg9 hS.1.1 (fun o ho i => f1 o ((show ∀ o ∈ [6, 11, 12, 13, 14, 16, 17, 36, 150, 151], [10].contains o = false from by decide) o (List.contains_iff_mem.mp ho)) i)
      have f1 : ∀ o, [6, 7, 8, 9, 10, 11, 12, 13, 14, 16, 17, 28, 36, 37].contains o = false → ∀ i, I1 o i = h.2.1 o i := fun o ho i => f1 o (hk_ms rfl ho) i
      have hS1 : gS (h.1, I1, h.2.2.1, h.2.2.2) := gS_c hS.1 hV1 f1 (by decide)
      refine qm_Ru.go 6 (c' := (463, [.retAddr 0, .ref 0, .ref 118, .int i], [.int (i + 1), .retAddr 0, .ref 118], (h.1, I1, h.2.2.1, h.2.2.2))) rfl ?_
      rw [q_v1]
      refine hk_scr (v := s2) rfl (by omega) (by omega) q_s2 ?_
      refine qm_Ru.go 4 (c' := (468, [.retAddr 0, .ref 0, .ref 118, .int i], [.int (i + 2), .retAddr 0, .int s2, .ref 118], (h.1, I1, h.2.2.1, h.2.2.2))) rfl ?_
      rw [q_v3]
      refine hk_scr (v := s4) rfl (by omega) (by omega) q_s4 ?_
      refine qm_Ru.go 0 (c' := (469, [.retAddr 0, .ref 0, .ref 118, .int i], [.int s4, .int s2, .ref 118], (h.1, I1, h.2.2.1, h.2.2.2))) rfl ?_
      refine hk_zeq (ix := s4.toInt) rfl rfl (fun z8 => ?_) (fun z8 => by exfalso; omega)
      refine qm_Ru.go 1 (c' := (477, [.retAddr 0, .ref 0, .ref 118, .int i], [.int 0, .int s2, .ref 118], (h.1, I1, h.2.2.1, h.2.2.2))) rfl ?_
      refine hk_inv (o := 118) (r := []) (as := [.ref 118, .int s2, .int 0]) rfl rfl (hH.1 118 (17, 105) rfl) rfl rfl rfl rfl (hz_rsk (h := (h.1, I1, h.2.2.1, h.2.2.2)) h6 hH hB1 (gS_ru hS1) (zR_c (zR_I h.2.1) f1) hi.2.2.1 ⟨by first | omega | decide, by first | omega | decide⟩ (by omega) (fun I2 w2 hB2 f2 zr2 => ?_))
      have hVS2 : v_S I2 := v_S_sm hS1.2.1 (fun o ho i => f2 o ((show ∀ o ∈ q_objs, [149].contains o = false from by decide) o ho) i) (f2 158 rfl) (f2 118 rfl 18) (f2 118 rfl 44) (f2 118 rfl 59)
      refine qm_Ru.go 3 (c' := (2081, [.retAddr 0, .ref 0, .ref 118, .int (i + 6)], [], (h.1, I2, h.2.2.1, h.2.2.2))) rfl ?_
      obtain ⟨v9, q_v9, e_v9⟩ := hk_add (x := i) (y := 6) (a := i.toInt) (b := 6) rfl rfl (by omega) (by omega)
      rw [q_v9]
      refine qm_Ru.go 1 (c' := (18, [.retAddr 0, .ref 0, .ref 118, .int v9], [], (h.1, I2, h.2.2.1, h.2.2.2))) rfl ?_
      have hS4 : (gS4B tb) (h.1, I2, h.2.2.1, h.2.2.2) := gz_fin hSX hZ hV1 f1 hVS2 (fun o ho i => f2 o (hk_ms rfl ho) i) (fun i _ => f2 118 rfl i) zc1 zr2 (skT_K hZ.2.2.1)
      exact hE _ v9 (by omega) (qa_Inv_of0 ⟨hH.1, hH.2⟩ hB2 ⟨hS4, Or.inr t⟩ (gS_ru hS4.1.1.1))
    · refine qm_Ru.go 2 (c' := (454, [.retAddr 0, .ref 0, .ref 118, .int i], [.int 1, .int s2, .ref 0], h)) rfl ?_
      refine hk_inv (o := 0) (r := []) (as := [.ref 0, .int s2, .int 1]) rfl rfl (hH.1 0 (16, 10) rfl) rfl rfl rfl rfl (hz_csk (h := h) h6 hH hB (gS_ru hS.1) hZ.2.1 hi.2.2.1 ⟨by first | omega | decide, by first | omega | decide⟩ (by omega) (fun I1 w1 hB1 f1 zc1 => ?_))
      have hV1 : v_C I1 := v_C_cg9 hS.1.1 (fun o ho i => f1 o ((show ∀ o ∈ [6, 11, 12, 13, 14, 16, 17, 36, 150, 151], [10].contains o = false from by decide) o (List.contains_iff_mem.mp ho)) i)
      have f1 : ∀ o, [6, 7, 8, 9, 10, 11, 12, 13, 14, 16, 17, 28, 36, 37].contains o = false → ∀ i, I1 o i = h.2.1 o i := fun o ho i => f1 o (hk_ms rfl ho) i
      have hS1 : gS (h.1, I1, h.2.2.1, h.2.2.2) := gS_c hS.1 hV1 f1 (by decide)
      refine qm_Ru.go 6 (c' := (463, [.retAddr 0, .ref 0, .ref 118, .int i], [.int (i + 1), .retAddr 0, .ref 118], (h.1, I1, h.2.2.1, h.2.2.2))) rfl ?_
      rw [q_v1]
      refine hk_scr (v := s2) rfl (by omega) (by omega) q_s2 ?_
      refine qm_Ru.go 4 (c' := (468, [.retAddr 0, .ref 0, .ref 118, .int i], [.int (i + 2), .retAddr 0, .int s2, .ref 118], (h.1, I1, h.2.2.1, h.2.2.2))) rfl ?_
      rw [q_v3]
      refine hk_scr (v := s4) rfl (by omega) (by omega) q_s4 ?_
      refine qm_Ru.go 0 (c' := (469, [.retAddr 0, .ref 0, .ref 118, .int i], [.int s4, .int s2, .ref 118], (h.1, I1, h.2.2.1, h.2.2.2))) rfl ?_
      refine hk_zeq (ix := s4.toInt) rfl rfl (fun z12 => by exfalso; omega) (fun z12 => ?_)
      refine qm_Ru.go 2 (c' := (477, [.retAddr 0, .ref 0, .ref 118, .int i], [.int 1, .int s2, .ref 118], (h.1, I1, h.2.2.1, h.2.2.2))) rfl ?_
      refine hk_inv (o := 118) (r := []) (as := [.ref 118, .int s2, .int 1]) rfl rfl (hH.1 118 (17, 105) rfl) rfl rfl rfl rfl (hz_rsk (h := (h.1, I1, h.2.2.1, h.2.2.2)) h6 hH hB1 (gS_ru hS1) (zR_c (zR_I h.2.1) f1) hi.2.2.1 ⟨by first | omega | decide, by first | omega | decide⟩ (by omega) (fun I2 w2 hB2 f2 zr2 => ?_))
      have hVS2 : v_S I2 := v_S_sm hS1.2.1 (fun o ho i => f2 o ((show ∀ o ∈ q_objs, [149].contains o = false from by decide) o ho) i) (f2 158 rfl) (f2 118 rfl 18) (f2 118 rfl 44) (f2 118 rfl 59)
      refine qm_Ru.go 3 (c' := (2081, [.retAddr 0, .ref 0, .ref 118, .int (i + 6)], [], (h.1, I2, h.2.2.1, h.2.2.2))) rfl ?_
      obtain ⟨v13, q_v13, e_v13⟩ := hk_add (x := i) (y := 6) (a := i.toInt) (b := 6) rfl rfl (by omega) (by omega)
      rw [q_v13]
      refine qm_Ru.go 1 (c' := (18, [.retAddr 0, .ref 0, .ref 118, .int v13], [], (h.1, I2, h.2.2.1, h.2.2.2))) rfl ?_
      have hS4 : (gS4B tb) (h.1, I2, h.2.2.1, h.2.2.2) := gz_fin hSX hZ hV1 f1 hVS2 (fun o ho i => f2 o (hk_ms rfl ho) i) (fun i _ => f2 118 rfl i) zc1 zr2 (skT_K hZ.2.2.1)
      exact hE _ v13 (by omega) (qa_Inv_of0 ⟨hH.1, hH.2⟩ hB2 ⟨hS4, Or.inr t⟩ (gS_ru hS4.1.1.1))
theorem qv_6 {L : Nat} {xs : Nat → Int32} {Z : Option Value → qm_H → Prop} (h6 : 6 ≤ L) (hl : L ≤ 3072) : qv_PB tb tb L xs Z 6 := by
  intro i h i0 i1 hI hE
  obtain ⟨j1, hB, j3, ⟨⟨hSX, hZ⟩, t⟩, -⟩ := hI
  have hS := hSX.1
  have hH : hk_H h := ⟨j1, j3⟩
  have b_i : 0 ≤ i.toInt ∧ i.toInt ≤ 3066 := by omega
  show qm_Ru (some (L, xs)) 300 cd_law (484, [.retAddr 0, .ref 0, .ref 118, .int i], [], h) Z
  rcases t with t | t
  · have hm := gZ_a hZ t.2
    have hi := zI_of (Or.inl ⟨rfl, rfl⟩) hB hS.1 hZ.2.1 hm
    refine qm_Ru.go 5 (c' := (489, [.retAddr 0, .ref 0, .ref 118, .int i], [.int (i + 1), .retAddr 0, .ref 0], h)) rfl ?_
    obtain ⟨v1, q_v1, e_v1⟩ := hk_add (x := i) (y := 1) (a := i.toInt) (b := 1) rfl rfl (by omega) (by omega)
    rw [q_v1]
    obtain ⟨s2, q_s2⟩ : ∃ v_, xs (v1).toNatClampNeg = v_ := ⟨_, rfl⟩
    have := hk_rng s2
    refine hk_scr (v := s2) rfl (by omega) (by omega) q_s2 ?_
    refine qm_Ru.go 4 (c' := (494, [.retAddr 0, .ref 0, .ref 118, .int i], [.int (i + 2), .retAddr 0, .int s2, .ref 0], h)) rfl ?_
    obtain ⟨v3, q_v3, e_v3⟩ := hk_add (x := i) (y := 2) (a := i.toInt) (b := 2) rfl rfl (by omega) (by omega)
    rw [q_v3]
    obtain ⟨s4, q_s4⟩ : ∃ v_, xs (v3).toNatClampNeg = v_ := ⟨_, rfl⟩
    have := hk_rng s4
    refine hk_scr (v := s4) rfl (by omega) (by omega) q_s4 ?_
    refine qm_Ru.go 0 (c' := (495, [.retAddr 0, .ref 0, .ref 118, .int i], [.int s4, .int s2, .ref 0], h)) rfl ?_
    refine hk_zeq (ix := s4.toInt) rfl rfl (fun z5 => ?_) (fun z5 => ?_)
    · refine qm_Ru.go 1 (c' := (503, [.retAddr 0, .ref 0, .ref 118, .int i], [.int 0, .int s2, .ref 0], h)) rfl ?_
      refine hk_inv (o := 0) (r := []) (as := [.ref 0, .int s2, .int 0]) rfl rfl (hH.1 0 (16, 10) rfl) rfl rfl rfl rfl (hz_ccv29 (h := h) h6 hH t hB (gS_ru hS.1) hZ.2.1 hm hi ⟨by first | omega | decide, by first | omega | decide⟩ (by omega) (fun I1 w1 hB1 f1 q1 => ?_))
      obtain ⟨zc1, e1⟩ := q1
      have hV1 : v_C I1 := v_C_cg9 hS.1.1 (fun o ho i => f1 o ((show ∀ o ∈ [6, 11, 12, 13, 14, 16, 17, 36, 150, 151], [28].contains o = false from by decide) o (List.contains_iff_mem.mp ho)) i)
      have f1 : ∀ o, [6, 7, 8, 9, 10, 11, 12, 13, 14, 16, 17, 28, 36, 37].contains o = false → ∀ i, I1 o i = h.2.1 o i := fun o ho i => f1 o (hk_ms rfl ho) i
      have hS1 : gS (h.1, I1, h.2.2.1, h.2.2.2) := gS_c hS.1 hV1 f1 (by decide)
      refine qm_Ru.go 6 (c' := (512, [.retAddr 0, .ref 0, .ref 118, .int i], [.int (i + 1), .retAddr 0, .ref 118], (h.1, I1, h.2.2.1, h.2.2.2))) rfl ?_
      rw [q_v1]
      refine hk_scr (v := s2) rfl (by omega) (by omega) q_s2 ?_
      refine qm_Ru.go 4 (c' := (517, [.retAddr 0, .ref 0, .ref 118, .int i], [.int (i + 2), .retAddr 0, .int s2, .ref 118], (h.1, I1, h.2.2.1, h.2.2.2))) rfl ?_
      rw [q_v3]
      refine hk_scr (v := s4) rfl (by omega) (by omega) q_s4 ?_
      refine qm_Ru.go 0 (c' := (518, [.retAddr 0, .ref 0, .ref 118, .int i], [.int s4, .int s2, .ref 118], (h.1, I1, h.2.2.1, h.2.2.2))) rfl ?_
      refine hk_zeq (ix := s4.toInt) rfl rfl (fun z8 => ?_) (fun z8 => by exfalso; omega)
      refine qm_Ru.go 1 (c' := (526, [.retAddr 0, .ref 0, .ref 118, .int i], [.int 0, .int s2, .ref 118], (h.1, I1, h.2.2.1, h.2.2.2))) rfl ?_
      refine hk_inv (o := 118) (r := []) (as := [.ref 118, .int s2, .int 0]) rfl rfl (hH.1 118 (17, 105) rfl) rfl rfl rfl rfl (hz_rcv0 (h := (h.1, I1, h.2.2.1, h.2.2.2)) h6 hH hB1 (gS_ru hS1) (zR_c (zR_I h.2.1) f1) hm.1 hi ⟨by first | omega | decide, by first | omega | decide⟩ (by omega) (fun I2 w2 hB2 f2 f8 q2 => ?_))
      obtain ⟨zr2, e2⟩ := q2
      have hVS2 : v_S I2 := v_S_sm hS1.2.1 (fun o ho i => f2 o ((show ∀ o ∈ q_objs, [118].contains o = false from by decide) o ho) i) (f2 158 rfl) (f8 18 rfl) (f8 44 rfl) (f8 59 rfl)
      have ev : w1 = w2 := hk_eqi.mpr (e1.trans e2.symm)
      subst ev
      refine qm_Ru.go 3 (c' := (2081, [.retAddr 0, .ref 0, .ref 118, .int (i + 6)], [], (h.1, I2, h.2.2.1, h.2.2.2))) rfl ?_
      obtain ⟨v9, q_v9, e_v9⟩ := hk_add (x := i) (y := 6) (a := i.toInt) (b := 6) rfl rfl (by omega) (by omega)
      rw [q_v9]
      refine qm_Ru.go 1 (c' := (18, [.retAddr 0, .ref 0, .ref 118, .int v9], [], (h.1, I2, h.2.2.1, h.2.2.2))) rfl ?_
      have hS4 : (gS4B tb) (h.1, I2, h.2.2.1, h.2.2.2) := gz_fin hSX hZ hV1 f1 hVS2 (fun o ho i => f2 o (hk_ms rfl ho) i) (fun i hi => f8 i (hk_ms rfl hi)) zc1 zr2 (cvT_K hZ.2.2.1)
      exact hE _ v9 (by omega) (qa_Inv_of0 ⟨hH.1, hH.2⟩ hB2 ⟨hS4, Or.inl t⟩ (gS_ru hS4.1.1.1))
    · refine qm_Ru.go 2 (c' := (503, [.retAddr 0, .ref 0, .ref 118, .int i], [.int 1, .int s2, .ref 0], h)) rfl ?_
      refine hk_inv (o := 0) (r := []) (as := [.ref 0, .int s2, .int 1]) rfl rfl (hH.1 0 (16, 10) rfl) rfl rfl rfl rfl (hz_ccv29 (h := h) h6 hH t hB (gS_ru hS.1) hZ.2.1 hm hi ⟨by first | omega | decide, by first | omega | decide⟩ (by omega) (fun I1 w1 hB1 f1 q1 => ?_))
      obtain ⟨zc1, e1⟩ := q1
      have hV1 : v_C I1 := v_C_cg9 hS.1.1 (fun o ho i => f1 o ((show ∀ o ∈ [6, 11, 12, 13, 14, 16, 17, 36, 150, 151], [28].contains o = false from by decide) o (List.contains_iff_mem.mp ho)) i)
      have f1 : ∀ o, [6, 7, 8, 9, 10, 11, 12, 13, 14, 16, 17, 28, 36, 37].contains o = false → ∀ i, I1 o i = h.2.1 o i := fun o ho i => f1 o (hk_ms rfl ho) i
      have hS1 : gS (h.1, I1, h.2.2.1, h.2.2.2) := gS_c hS.1 hV1 f1 (by decide)
      refine qm_Ru.go 6 (c' := (512, [.retAddr 0, .ref 0, .ref 118, .int i], [.int (i + 1), .retAddr 0, .ref 118], (h.1, I1, h.2.2.1, h.2.2.2))) rfl ?_
      rw [q_v1]
      refine hk_scr (v := s2) rfl (by omega) (by omega) q_s2 ?_
      refine qm_Ru.go 4 (c' := (517, [.retAddr 0, .ref 0, .ref 118, .int i], [.int (i + 2), .retAddr 0, .int s2, .ref 118], (h.1, I1, h.2.2.1, h.2.2.2))) rfl ?_
      rw [q_v3]
      refine hk_scr (v := s4) rfl (by omega) (by omega) q_s4 ?_
      refine qm_Ru.go 0 (c' := (518, [.retAddr 0, .ref 0, .ref 118, .int i], [.int s4, .int s2, .ref 118], (h.1, I1, h.2.2.1, h.2.2.2))) rfl ?_
      refine hk_zeq (ix := s4.toInt) rfl rfl (fun z12 => by exfalso; omega) (fun z12 => ?_)
      refine qm_Ru.go 2 (c' := (526, [.retAddr 0, .ref 0, .ref 118, .int i], [.int 1, .int s2, .ref 118], (h.1, I1, h.2.2.1, h.2.2.2))) rfl ?_
      refine hk_inv (o := 118) (r := []) (as := [.ref 118, .int s2, .int 1]) rfl rfl (hH.1 118 (17, 105) rfl) rfl rfl rfl rfl (hz_rcv0 (h := (h.1, I1, h.2.2.1, h.2.2.2)) h6 hH hB1 (gS_ru hS1) (zR_c (zR_I h.2.1) f1) hm.1 hi ⟨by first | omega | decide, by first | omega | decide⟩ (by omega) (fun I2 w2 hB2 f2 f8 q2 => ?_))
      obtain ⟨zr2, e2⟩ := q2
      have hVS2 : v_S I2 := v_S_sm hS1.2.1 (fun o ho i => f2 o ((show ∀ o ∈ q_objs, [118].contains o = false from by decide) o ho) i) (f2 158 rfl) (f8 18 rfl) (f8 44 rfl) (f8 59 rfl)
      have ev : w1 = w2 := hk_eqi.mpr (e1.trans e2.symm)
      subst ev
      refine qm_Ru.go 3 (c' := (2081, [.retAddr 0, .ref 0, .ref 118, .int (i + 6)], [], (h.1, I2, h.2.2.1, h.2.2.2))) rfl ?_
      obtain ⟨v13, q_v13, e_v13⟩ := hk_add (x := i) (y := 6) (a := i.toInt) (b := 6) rfl rfl (by omega) (by omega)
      rw [q_v13]
      refine qm_Ru.go 1 (c' := (18, [.retAddr 0, .ref 0, .ref 118, .int v13], [], (h.1, I2, h.2.2.1, h.2.2.2))) rfl ?_
      have hS4 : (gS4B tb) (h.1, I2, h.2.2.1, h.2.2.2) := gz_fin hSX hZ hV1 f1 hVS2 (fun o ho i => f2 o (hk_ms rfl ho) i) (fun i hi => f8 i (hk_ms rfl hi)) zc1 zr2 (cvT_K hZ.2.2.1)
      exact hE _ v13 (by omega) (qa_Inv_of0 ⟨hH.1, hH.2⟩ hB2 ⟨hS4, Or.inl t⟩ (gS_ru hS4.1.1.1))
  · have hm := gZ_b hZ t.2
    have hi := zI_of (Or.inr ⟨rfl, rfl⟩) hB hS.1 hZ.2.1 hm
    refine qm_Ru.go 5 (c' := (489, [.retAddr 0, .ref 0, .ref 118, .int i], [.int (i + 1), .retAddr 0, .ref 0], h)) rfl ?_
    obtain ⟨v1, q_v1, e_v1⟩ := hk_add (x := i) (y := 1) (a := i.toInt) (b := 1) rfl rfl (by omega) (by omega)
    rw [q_v1]
    obtain ⟨s2, q_s2⟩ : ∃ v_, xs (v1).toNatClampNeg = v_ := ⟨_, rfl⟩
    have := hk_rng s2
    refine hk_scr (v := s2) rfl (by omega) (by omega) q_s2 ?_
    refine qm_Ru.go 4 (c' := (494, [.retAddr 0, .ref 0, .ref 118, .int i], [.int (i + 2), .retAddr 0, .int s2, .ref 0], h)) rfl ?_
    obtain ⟨v3, q_v3, e_v3⟩ := hk_add (x := i) (y := 2) (a := i.toInt) (b := 2) rfl rfl (by omega) (by omega)
    rw [q_v3]
    obtain ⟨s4, q_s4⟩ : ∃ v_, xs (v3).toNatClampNeg = v_ := ⟨_, rfl⟩
    have := hk_rng s4
    refine hk_scr (v := s4) rfl (by omega) (by omega) q_s4 ?_
    refine qm_Ru.go 0 (c' := (495, [.retAddr 0, .ref 0, .ref 118, .int i], [.int s4, .int s2, .ref 0], h)) rfl ?_
    refine hk_zeq (ix := s4.toInt) rfl rfl (fun z5 => ?_) (fun z5 => ?_)
    · refine qm_Ru.go 1 (c' := (503, [.retAddr 0, .ref 0, .ref 118, .int i], [.int 0, .int s2, .ref 0], h)) rfl ?_
      refine hk_inv (o := 0) (r := []) (as := [.ref 0, .int s2, .int 0]) rfl rfl (hH.1 0 (16, 10) rfl) rfl rfl rfl rfl (hz_ccv111 (h := h) h6 hH t hB (gS_ru hS.1) hZ.2.1 hm hi ⟨by first | omega | decide, by first | omega | decide⟩ (by omega) (fun I1 w1 hB1 f1 q1 => ?_))
      obtain ⟨zc1, e1⟩ := q1
      have hV1 : v_C I1 := v_C_cg9 hS.1.1 (fun o ho i => f1 o ((show ∀ o ∈ [6, 11, 12, 13, 14, 16, 17, 36, 150, 151], [28].contains o = false from by decide) o (List.contains_iff_mem.mp ho)) i)
      have f1 : ∀ o, [6, 7, 8, 9, 10, 11, 12, 13, 14, 16, 17, 28, 36, 37].contains o = false → ∀ i, I1 o i = h.2.1 o i := fun o ho i => f1 o (hk_ms rfl ho) i
      have hS1 : gS (h.1, I1, h.2.2.1, h.2.2.2) := gS_c hS.1 hV1 f1 (by decide)
      refine qm_Ru.go 6 (c' := (512, [.retAddr 0, .ref 0, .ref 118, .int i], [.int (i + 1), .retAddr 0, .ref 118], (h.1, I1, h.2.2.1, h.2.2.2))) rfl ?_
      rw [q_v1]
      refine hk_scr (v := s2) rfl (by omega) (by omega) q_s2 ?_
      refine qm_Ru.go 4 (c' := (517, [.retAddr 0, .ref 0, .ref 118, .int i], [.int (i + 2), .retAddr 0, .int s2, .ref 118], (h.1, I1, h.2.2.1, h.2.2.2))) rfl ?_
      rw [q_v3]
      refine hk_scr (v := s4) rfl (by omega) (by omega) q_s4 ?_
      refine qm_Ru.go 0 (c' := (518, [.retAddr 0, .ref 0, .ref 118, .int i], [.int s4, .int s2, .ref 118], (h.1, I1, h.2.2.1, h.2.2.2))) rfl ?_
      refine hk_zeq (ix := s4.toInt) rfl rfl (fun z8 => ?_) (fun z8 => by exfalso; omega)
      refine qm_Ru.go 1 (c' := (526, [.retAddr 0, .ref 0, .ref 118, .int i], [.int 0, .int s2, .ref 118], (h.1, I1, h.2.2.1, h.2.2.2))) rfl ?_
      refine hk_inv (o := 118) (r := []) (as := [.ref 118, .int s2, .int 0]) rfl rfl (hH.1 118 (17, 105) rfl) rfl rfl rfl rfl (hz_rcv1 (h := (h.1, I1, h.2.2.1, h.2.2.2)) h6 hH hB1 (gS_ru hS1) (zR_c (zR_I h.2.1) f1) hm.1 hi ⟨by first | omega | decide, by first | omega | decide⟩ (by omega) (fun I2 w2 hB2 f2 f8 q2 => ?_))
      obtain ⟨zr2, e2⟩ := q2
      have hVS2 : v_S I2 := v_S_sm hS1.2.1 (fun o ho i => f2 o ((show ∀ o ∈ q_objs, [118].contains o = false from by decide) o ho) i) (f2 158 rfl) (f8 18 rfl) (f8 44 rfl) (f8 59 rfl)
      have ev : w1 = w2 := hk_eqi.mpr (e1.trans e2.symm)
      subst ev
      refine qm_Ru.go 3 (c' := (2081, [.retAddr 0, .ref 0, .ref 118, .int (i + 6)], [], (h.1, I2, h.2.2.1, h.2.2.2))) rfl ?_
      obtain ⟨v9, q_v9, e_v9⟩ := hk_add (x := i) (y := 6) (a := i.toInt) (b := 6) rfl rfl (by omega) (by omega)
      rw [q_v9]
      refine qm_Ru.go 1 (c' := (18, [.retAddr 0, .ref 0, .ref 118, .int v9], [], (h.1, I2, h.2.2.1, h.2.2.2))) rfl ?_
      have hS4 : (gS4B tb) (h.1, I2, h.2.2.1, h.2.2.2) := gz_fin hSX hZ hV1 f1 hVS2 (fun o ho i => f2 o (hk_ms rfl ho) i) (fun i hi => f8 i (hk_ms rfl hi)) zc1 zr2 (cvT_K hZ.2.2.1)
      exact hE _ v9 (by omega) (qa_Inv_of0 ⟨hH.1, hH.2⟩ hB2 ⟨hS4, Or.inr t⟩ (gS_ru hS4.1.1.1))
    · refine qm_Ru.go 2 (c' := (503, [.retAddr 0, .ref 0, .ref 118, .int i], [.int 1, .int s2, .ref 0], h)) rfl ?_
      refine hk_inv (o := 0) (r := []) (as := [.ref 0, .int s2, .int 1]) rfl rfl (hH.1 0 (16, 10) rfl) rfl rfl rfl rfl (hz_ccv111 (h := h) h6 hH t hB (gS_ru hS.1) hZ.2.1 hm hi ⟨by first | omega | decide, by first | omega | decide⟩ (by omega) (fun I1 w1 hB1 f1 q1 => ?_))
      obtain ⟨zc1, e1⟩ := q1
      have hV1 : v_C I1 := v_C_cg9 hS.1.1 (fun o ho i => f1 o ((show ∀ o ∈ [6, 11, 12, 13, 14, 16, 17, 36, 150, 151], [28].contains o = false from by decide) o (List.contains_iff_mem.mp ho)) i)
      have f1 : ∀ o, [6, 7, 8, 9, 10, 11, 12, 13, 14, 16, 17, 28, 36, 37].contains o = false → ∀ i, I1 o i = h.2.1 o i := fun o ho i => f1 o (hk_ms rfl ho) i
      have hS1 : gS (h.1, I1, h.2.2.1, h.2.2.2) := gS_c hS.1 hV1 f1 (by decide)
      refine qm_Ru.go 6 (c' := (512, [.retAddr 0, .ref 0, .ref 118, .int i], [.int (i + 1), .retAddr 0, .ref 118], (h.1, I1, h.2.2.1, h.2.2.2))) rfl ?_
      rw [q_v1]
      refine hk_scr (v := s2) rfl (by omega) (by omega) q_s2 ?_
      refine qm_Ru.go 4 (c' := (517, [.retAddr 0, .ref 0, .ref 118, .int i], [.int (i + 2), .retAddr 0, .int s2, .ref 118], (h.1, I1, h.2.2.1, h.2.2.2))) rfl ?_
      rw [q_v3]
      refine hk_scr (v := s4) rfl (by omega) (by omega) q_s4 ?_
      refine qm_Ru.go 0 (c' := (518, [.retAddr 0, .ref 0, .ref 118, .int i], [.int s4, .int s2, .ref 118], (h.1, I1, h.2.2.1, h.2.2.2))) rfl ?_
      refine hk_zeq (ix := s4.toInt) rfl rfl (fun z12 => by exfalso; omega) (fun z12 => ?_)
      refine qm_Ru.go 2 (c' := (526, [.retAddr 0, .ref 0, .ref 118, .int i], [.int 1, .int s2, .ref 118], (h.1, I1, h.2.2.1, h.2.2.2))) rfl ?_
      refine hk_inv (o := 118) (r := []) (as := [.ref 118, .int s2, .int 1]) rfl rfl (hH.1 118 (17, 105) rfl) rfl rfl rfl rfl (hz_rcv1 (h := (h.1, I1, h.2.2.1, h.2.2.2)) h6 hH hB1 (gS_ru hS1) (zR_c (zR_I h.2.1) f1) hm.1 hi ⟨by first | omega | decide, by first | omega | decide⟩ (by omega) (fun I2 w2 hB2 f2 f8 q2 => ?_))
      obtain ⟨zr2, e2⟩ := q2
      have hVS2 : v_S I2 := v_S_sm hS1.2.1 (fun o ho i => f2 o ((show ∀ o ∈ q_objs, [118].contains o = false from by decide) o ho) i) (f2 158 rfl) (f8 18 rfl) (f8 44 rfl) (f8 59 rfl)
      have ev : w1 = w2 := hk_eqi.mpr (e1.trans e2.symm)
      subst ev
      refine qm_Ru.go 3 (c' := (2081, [.retAddr 0, .ref 0, .ref 118, .int (i + 6)], [], (h.1, I2, h.2.2.1, h.2.2.2))) rfl ?_
      obtain ⟨v13, q_v13, e_v13⟩ := hk_add (x := i) (y := 6) (a := i.toInt) (b := 6) rfl rfl (by omega) (by omega)
      rw [q_v13]
      refine qm_Ru.go 1 (c' := (18, [.retAddr 0, .ref 0, .ref 118, .int v13], [], (h.1, I2, h.2.2.1, h.2.2.2))) rfl ?_
      have hS4 : (gS4B tb) (h.1, I2, h.2.2.1, h.2.2.2) := gz_fin hSX hZ hV1 f1 hVS2 (fun o ho i => f2 o (hk_ms rfl ho) i) (fun i hi => f8 i (hk_ms rfl hi)) zc1 zr2 (cvT_K hZ.2.2.1)
      exact hE _ v13 (by omega) (qa_Inv_of0 ⟨hH.1, hH.2⟩ hB2 ⟨hS4, Or.inr t⟩ (gS_ru hS4.1.1.1))
theorem qv_7 {L : Nat} {xs : Nat → Int32} {Z : Option Value → qm_H → Prop} (h6 : 6 ≤ L) (hl : L ≤ 3072) : qv_PB tb tb L xs Z 7 := by
  intro i h i0 i1 hI hE
  obtain ⟨j1, hB, j3, ⟨⟨hSX, hZ⟩, t⟩, -⟩ := hI
  have hS := hSX.1
  have hH : hk_H h := ⟨j1, j3⟩
  have b_i : 0 ≤ i.toInt ∧ i.toInt ≤ 3066 := by omega
  show qm_Ru (some (L, xs)) 300 cd_law (533, [.retAddr 0, .ref 0, .ref 118, .int i], [], h) Z
  rcases t with t | t
  · have hm := gZ_a hZ t.2
    have hi := zI_of (Or.inl ⟨rfl, rfl⟩) hB hS.1 hZ.2.1 hm
    refine qm_Ru.go 5 (c' := (538, [.retAddr 0, .ref 0, .ref 118, .int i], [.int (i + 1), .retAddr 0, .ref 0], h)) rfl ?_
    obtain ⟨v1, q_v1, e_v1⟩ := hk_add (x := i) (y := 1) (a := i.toInt) (b := 1) rfl rfl (by omega) (by omega)
    rw [q_v1]
    obtain ⟨s2, q_s2⟩ : ∃ v_, xs (v1).toNatClampNeg = v_ := ⟨_, rfl⟩
    have := hk_rng s2
    refine hk_scr (v := s2) rfl (by omega) (by omega) q_s2 ?_
    refine qm_Ru.go 4 (c' := (543, [.retAddr 0, .ref 0, .ref 118, .int i], [.int (i + 2), .retAddr 0, .int s2, .ref 0], h)) rfl ?_
    obtain ⟨v3, q_v3, e_v3⟩ := hk_add (x := i) (y := 2) (a := i.toInt) (b := 2) rfl rfl (by omega) (by omega)
    rw [q_v3]
    obtain ⟨s4, q_s4⟩ : ∃ v_, xs (v3).toNatClampNeg = v_ := ⟨_, rfl⟩
    have := hk_rng s4
    refine hk_scr (v := s4) rfl (by omega) (by omega) q_s4 ?_
    refine qm_Ru.go 0 (c' := (544, [.retAddr 0, .ref 0, .ref 118, .int i], [.int s4, .int s2, .ref 0], h)) rfl ?_
    refine hk_inv (o := 0) (r := []) (as := [.ref 0, .int s2, .int s4]) rfl rfl (hH.1 0 (16, 10) rfl) rfl rfl rfl rfl (hz_cst (h := h) h6 hH hB hS.1.1 hZ.2.1 ⟨_, hi⟩ (by omega) (fun I1 w1 hB1 hV1 f1 q1 => ?_))
    obtain ⟨zc1, e1⟩ := q1
    have hS1 : gS (h.1, I1, h.2.2.1, h.2.2.2) := gS_c hS.1 hV1 f1 (by decide)
    refine qm_Ru.go 5 (c' := (552, [.retAddr 0, .ref 0, .ref 118, .int i], [.int (i + 1), .retAddr 0, .ref 118, .int w1], (h.1, I1, h.2.2.1, h.2.2.2))) rfl ?_
    rw [q_v1]
    refine hk_scr (v := s2) rfl (by omega) (by omega) q_s2 ?_
    refine qm_Ru.go 4 (c' := (557, [.retAddr 0, .ref 0, .ref 118, .int i], [.int (i + 2), .retAddr 0, .int s2, .ref 118, .int w1], (h.1, I1, h.2.2.1, h.2.2.2))) rfl ?_
    rw [q_v3]
    refine hk_scr (v := s4) rfl (by omega) (by omega) q_s4 ?_
    refine qm_Ru.go 0 (c' := (558, [.retAddr 0, .ref 0, .ref 118, .int i], [.int s4, .int s2, .ref 118, .int w1], (h.1, I1, h.2.2.1, h.2.2.2))) rfl ?_
    refine hk_inv (o := 118) (r := [.int w1]) (as := [.ref 118, .int s2, .int s4]) rfl rfl (hH.1 118 (17, 105) rfl) rfl rfl rfl rfl (hz_rst (h := (h.1, I1, h.2.2.1, h.2.2.2)) h6 hH hB1 hS1.2.1 (zR_c (zR_I h.2.1) f1) ⟨_, hi⟩ (by omega) (fun I2 w2 hB2 hVS2 _ q2 => ?_))
    obtain ⟨f2, zr2, e2⟩ := q2
    have ev : w1 = w2 := hk_eqi.mpr (e1.trans e2.symm)
    subst ev
    refine qm_Ru.go 0 (c' := (561, [.retAddr 0, .ref 0, .ref 118, .int i], [.int w1, .int w1], (h.1, I2, h.2.2.1, h.2.2.2))) rfl ?_
    refine hk_ceq (ix := w1.toInt) (iy := w1.toInt) rfl rfl rfl (fun z7 => ?_) (fun z7 => by exfalso; omega)
    refine qm_Ru.go 1 (c' := (2081, [.retAddr 0, .ref 0, .ref 118, .int (i + 6)], [], (h.1, I2, h.2.2.1, h.2.2.2))) rfl ?_
    obtain ⟨v8, q_v8, e_v8⟩ := hk_add (x := i) (y := 6) (a := i.toInt) (b := 6) rfl rfl (by omega) (by omega)
    rw [q_v8]
    refine qm_Ru.go 1 (c' := (18, [.retAddr 0, .ref 0, .ref 118, .int v8], [], (h.1, I2, h.2.2.1, h.2.2.2))) rfl ?_
    have hS4 : (gS4B tb) (h.1, I2, h.2.2.1, h.2.2.2) := gz_fin hSX hZ hV1 f1 hVS2 (fun o ho i => f2 o (hk_ms rfl ho) i) (fun i _ => f2 118 rfl i) zc1 zr2 (stT_K hZ.2.2.1)
    exact hE _ v8 (by omega) (qa_Inv_of0 ⟨hH.1, hH.2⟩ hB2 ⟨hS4, Or.inl t⟩ (gS_ru hS4.1.1.1))
  · have hm := gZ_b hZ t.2
    have hi := zI_of (Or.inr ⟨rfl, rfl⟩) hB hS.1 hZ.2.1 hm
    refine qm_Ru.go 5 (c' := (538, [.retAddr 0, .ref 0, .ref 118, .int i], [.int (i + 1), .retAddr 0, .ref 0], h)) rfl ?_
    obtain ⟨v1, q_v1, e_v1⟩ := hk_add (x := i) (y := 1) (a := i.toInt) (b := 1) rfl rfl (by omega) (by omega)
    rw [q_v1]
    obtain ⟨s2, q_s2⟩ : ∃ v_, xs (v1).toNatClampNeg = v_ := ⟨_, rfl⟩
    have := hk_rng s2
    refine hk_scr (v := s2) rfl (by omega) (by omega) q_s2 ?_
    refine qm_Ru.go 4 (c' := (543, [.retAddr 0, .ref 0, .ref 118, .int i], [.int (i + 2), .retAddr 0, .int s2, .ref 0], h)) rfl ?_
    obtain ⟨v3, q_v3, e_v3⟩ := hk_add (x := i) (y := 2) (a := i.toInt) (b := 2) rfl rfl (by omega) (by omega)
    rw [q_v3]
    obtain ⟨s4, q_s4⟩ : ∃ v_, xs (v3).toNatClampNeg = v_ := ⟨_, rfl⟩
    have := hk_rng s4
    refine hk_scr (v := s4) rfl (by omega) (by omega) q_s4 ?_
    refine qm_Ru.go 0 (c' := (544, [.retAddr 0, .ref 0, .ref 118, .int i], [.int s4, .int s2, .ref 0], h)) rfl ?_
    refine hk_inv (o := 0) (r := []) (as := [.ref 0, .int s2, .int s4]) rfl rfl (hH.1 0 (16, 10) rfl) rfl rfl rfl rfl (hz_cst (h := h) h6 hH hB hS.1.1 hZ.2.1 ⟨_, hi⟩ (by omega) (fun I1 w1 hB1 hV1 f1 q1 => ?_))
    obtain ⟨zc1, e1⟩ := q1
    have hS1 : gS (h.1, I1, h.2.2.1, h.2.2.2) := gS_c hS.1 hV1 f1 (by decide)
    refine qm_Ru.go 5 (c' := (552, [.retAddr 0, .ref 0, .ref 118, .int i], [.int (i + 1), .retAddr 0, .ref 118, .int w1], (h.1, I1, h.2.2.1, h.2.2.2))) rfl ?_
    rw [q_v1]
    refine hk_scr (v := s2) rfl (by omega) (by omega) q_s2 ?_
    refine qm_Ru.go 4 (c' := (557, [.retAddr 0, .ref 0, .ref 118, .int i], [.int (i + 2), .retAddr 0, .int s2, .ref 118, .int w1], (h.1, I1, h.2.2.1, h.2.2.2))) rfl ?_
    rw [q_v3]
    refine hk_scr (v := s4) rfl (by omega) (by omega) q_s4 ?_
    refine qm_Ru.go 0 (c' := (558, [.retAddr 0, .ref 0, .ref 118, .int i], [.int s4, .int s2, .ref 118, .int w1], (h.1, I1, h.2.2.1, h.2.2.2))) rfl ?_
    refine hk_inv (o := 118) (r := [.int w1]) (as := [.ref 118, .int s2, .int s4]) rfl rfl (hH.1 118 (17, 105) rfl) rfl rfl rfl rfl (hz_rst (h := (h.1, I1, h.2.2.1, h.2.2.2)) h6 hH hB1 hS1.2.1 (zR_c (zR_I h.2.1) f1) ⟨_, hi⟩ (by omega) (fun I2 w2 hB2 hVS2 _ q2 => ?_))
    obtain ⟨f2, zr2, e2⟩ := q2
    have ev : w1 = w2 := hk_eqi.mpr (e1.trans e2.symm)
    subst ev
    refine qm_Ru.go 0 (c' := (561, [.retAddr 0, .ref 0, .ref 118, .int i], [.int w1, .int w1], (h.1, I2, h.2.2.1, h.2.2.2))) rfl ?_
    refine hk_ceq (ix := w1.toInt) (iy := w1.toInt) rfl rfl rfl (fun z7 => ?_) (fun z7 => by exfalso; omega)
    refine qm_Ru.go 1 (c' := (2081, [.retAddr 0, .ref 0, .ref 118, .int (i + 6)], [], (h.1, I2, h.2.2.1, h.2.2.2))) rfl ?_
    obtain ⟨v8, q_v8, e_v8⟩ := hk_add (x := i) (y := 6) (a := i.toInt) (b := 6) rfl rfl (by omega) (by omega)
    rw [q_v8]
    refine qm_Ru.go 1 (c' := (18, [.retAddr 0, .ref 0, .ref 118, .int v8], [], (h.1, I2, h.2.2.1, h.2.2.2))) rfl ?_
    have hS4 : (gS4B tb) (h.1, I2, h.2.2.1, h.2.2.2) := gz_fin hSX hZ hV1 f1 hVS2 (fun o ho i => f2 o (hk_ms rfl ho) i) (fun i _ => f2 118 rfl i) zc1 zr2 (stT_K hZ.2.2.1)
    exact hE _ v8 (by omega) (qa_Inv_of0 ⟨hH.1, hH.2⟩ hB2 ⟨hS4, Or.inr t⟩ (gS_ru hS4.1.1.1))
theorem qv_8 {L : Nat} {xs : Nat → Int32} {Z : Option Value → qm_H → Prop} (h6 : 6 ≤ L) (hl : L ≤ 3072) : qv_PB tb tb L xs Z 8 := by
  intro i h i0 i1 hI hE
  obtain ⟨j1, hB, j3, ⟨⟨hSX, hZ⟩, t⟩, -⟩ := hI
  have hS := hSX.1
  have hH : hk_H h := ⟨j1, j3⟩
  have b_i : 0 ≤ i.toInt ∧ i.toInt ≤ 3066 := by omega
  show qm_Ru (some (L, xs)) 300 cd_law (566, [.retAddr 0, .ref 0, .ref 118, .int i], [], h) Z
  rcases t with t | t
  · have hm := gZ_a hZ t.2
    have hi := zI_of (Or.inl ⟨rfl, rfl⟩) hB hS.1 hZ.2.1 hm
    refine qm_Ru.go 5 (c' := (571, [.retAddr 0, .ref 0, .ref 118, .int i], [.int (i + 1), .retAddr 0, .ref 0], h)) rfl ?_
    obtain ⟨v1, q_v1, e_v1⟩ := hk_add (x := i) (y := 1) (a := i.toInt) (b := 1) rfl rfl (by omega) (by omega)
    rw [q_v1]
    obtain ⟨s2, q_s2⟩ : ∃ v_, xs (v1).toNatClampNeg = v_ := ⟨_, rfl⟩
    have := hk_rng s2
    refine hk_scr (v := s2) rfl (by omega) (by omega) q_s2 ?_
    refine qm_Ru.go 0 (c' := (572, [.retAddr 0, .ref 0, .ref 118, .int i], [.int s2, .ref 0], h)) rfl ?_
    refine hk_inv (o := 0) (r := []) (as := [.ref 0, .int s2]) rfl rfl (hH.1 0 (16, 10) rfl) rfl rfl rfl rfl (hz_cfe (h := h) h6 hH hB hS.1.1 hZ.2.1 ⟨_, hi⟩ hS.2.2.2.2.2.1 (by omega) (fun I1 w1 hB1 hV1 f1 q1 => ?_))
    obtain ⟨s9, a9, zc1, e1⟩ := q1
    have hS1 : gS (h.1, I1, h.2.2.1, h.2.2.2) := gS_c hS.1 hV1 f1 (by decide)
    refine qm_Ru.go 6 (c' := (581, [.retAddr 0, .ref 0, .ref 118, .int i], [.int (i + 1), .retAddr 0, .ref 118], (h.1, I1, h.2.2.1, h.2.2.2))) rfl ?_
    rw [q_v1]
    refine hk_scr (v := s2) rfl (by omega) (by omega) q_s2 ?_
    refine qm_Ru.go 0 (c' := (582, [.retAddr 0, .ref 0, .ref 118, .int i], [.int s2, .ref 118], (h.1, I1, h.2.2.1, h.2.2.2))) rfl ?_
    have e70 : (h.2.1 42 7) = h.2.1 118 70 := hS.2.2.2.1
    have h60 : 0 ≤ (h.2.1 42 7).toInt ∧ (h.2.1 42 7).toInt ≤ 60 := hB 42 7
    refine hk_inv (o := 118) (r := []) (as := [.ref 118, .int s2]) rfl rfl (hH.1 118 (17, 105) rfl) rfl rfl rfl rfl (hz_rfe (h := (h.1, I1, h.2.2.1, h.2.2.2)) h6 hH hB1 hS1.2.1 (zR_c (zR_I h.2.1) f1) ⟨_, hi⟩ (show 0 ≤ (I1 118 70).toInt ∧ (I1 118 70).toInt ≤ 60 from by rw [f1 118 rfl 70, ← e70]; exact h60) (by omega) (fun I2 w2 hB2 hVS2 _ q2 => ?_))
    obtain ⟨s8, a8, f2, zr2, e2⟩ := q2
    have eT : feT (pI h.2.1) s2.toInt s8.toInt = feT (pI h.2.1) s2.toInt s9.toInt ∧ feV (pI h.2.1) s2.toInt s8.toInt = feV (pI h.2.1) s2.toInt s9.toInt := by
      by_cases c : feC (pI h.2.1) s2.toInt
      · have b9 := (bx_b hi c).1
        have eb : (Int32.ofInt (bxA (pI h.2.1) s2.toInt)).toInt = bxA (pI h.2.1) s2.toInt := Int32.toInt_ofInt_of_le (by omega) (by omega)
        rw [fc_uq hS.2.2.2.2.2.1 e70 h60.1 (a9 _ c eb) (fcR_cg (fun i => f1 164 rfl i) (fun i => f1 165 rfl i) (f1 118 rfl 70) (a8 _ c eb))]
        exact ⟨rfl, rfl⟩
      · rw [(feT_0 c).1, (feT_0 c).1, (feT_0 c).2, (feT_0 c).2]
        exact ⟨rfl, rfl⟩
    rw [eT.1] at zr2
    rw [eT.2] at e2
    have ev : w1 = w2 := hk_eqi.mpr (e1.trans e2.symm)
    subst ev
    refine qm_Ru.go 3 (c' := (2081, [.retAddr 0, .ref 0, .ref 118, .int (i + 6)], [], (h.1, I2, h.2.2.1, h.2.2.2))) rfl ?_
    obtain ⟨v4, q_v4, e_v4⟩ := hk_add (x := i) (y := 6) (a := i.toInt) (b := 6) rfl rfl (by omega) (by omega)
    rw [q_v4]
    refine qm_Ru.go 1 (c' := (18, [.retAddr 0, .ref 0, .ref 118, .int v4], [], (h.1, I2, h.2.2.1, h.2.2.2))) rfl ?_
    have hS4 : (gS4B tb) (h.1, I2, h.2.2.1, h.2.2.2) := gz_fin hSX hZ hV1 f1 hVS2 (fun o ho i => f2 o (hk_ms rfl ho) i) (fun i _ => f2 118 rfl i) zc1 zr2 (feT_K hZ.2.2.1)
    exact hE _ v4 (by omega) (qa_Inv_of0 ⟨hH.1, hH.2⟩ hB2 ⟨hS4, Or.inl t⟩ (gS_ru hS4.1.1.1))
  · have hm := gZ_b hZ t.2
    have hi := zI_of (Or.inr ⟨rfl, rfl⟩) hB hS.1 hZ.2.1 hm
    refine qm_Ru.go 5 (c' := (571, [.retAddr 0, .ref 0, .ref 118, .int i], [.int (i + 1), .retAddr 0, .ref 0], h)) rfl ?_
    obtain ⟨v1, q_v1, e_v1⟩ := hk_add (x := i) (y := 1) (a := i.toInt) (b := 1) rfl rfl (by omega) (by omega)
    rw [q_v1]
    obtain ⟨s2, q_s2⟩ : ∃ v_, xs (v1).toNatClampNeg = v_ := ⟨_, rfl⟩
    have := hk_rng s2
    refine hk_scr (v := s2) rfl (by omega) (by omega) q_s2 ?_
    refine qm_Ru.go 0 (c' := (572, [.retAddr 0, .ref 0, .ref 118, .int i], [.int s2, .ref 0], h)) rfl ?_
    refine hk_inv (o := 0) (r := []) (as := [.ref 0, .int s2]) rfl rfl (hH.1 0 (16, 10) rfl) rfl rfl rfl rfl (hz_cfe (h := h) h6 hH hB hS.1.1 hZ.2.1 ⟨_, hi⟩ hS.2.2.2.2.2.1 (by omega) (fun I1 w1 hB1 hV1 f1 q1 => ?_))
    obtain ⟨s9, a9, zc1, e1⟩ := q1
    have hS1 : gS (h.1, I1, h.2.2.1, h.2.2.2) := gS_c hS.1 hV1 f1 (by decide)
    refine qm_Ru.go 6 (c' := (581, [.retAddr 0, .ref 0, .ref 118, .int i], [.int (i + 1), .retAddr 0, .ref 118], (h.1, I1, h.2.2.1, h.2.2.2))) rfl ?_
    rw [q_v1]
    refine hk_scr (v := s2) rfl (by omega) (by omega) q_s2 ?_
    refine qm_Ru.go 0 (c' := (582, [.retAddr 0, .ref 0, .ref 118, .int i], [.int s2, .ref 118], (h.1, I1, h.2.2.1, h.2.2.2))) rfl ?_
    have e70 : (h.2.1 42 7) = h.2.1 118 70 := hS.2.2.2.1
    have h60 : 0 ≤ (h.2.1 42 7).toInt ∧ (h.2.1 42 7).toInt ≤ 60 := hB 42 7
    refine hk_inv (o := 118) (r := []) (as := [.ref 118, .int s2]) rfl rfl (hH.1 118 (17, 105) rfl) rfl rfl rfl rfl (hz_rfe (h := (h.1, I1, h.2.2.1, h.2.2.2)) h6 hH hB1 hS1.2.1 (zR_c (zR_I h.2.1) f1) ⟨_, hi⟩ (show 0 ≤ (I1 118 70).toInt ∧ (I1 118 70).toInt ≤ 60 from by rw [f1 118 rfl 70, ← e70]; exact h60) (by omega) (fun I2 w2 hB2 hVS2 _ q2 => ?_))
    obtain ⟨s8, a8, f2, zr2, e2⟩ := q2
    have eT : feT (pI h.2.1) s2.toInt s8.toInt = feT (pI h.2.1) s2.toInt s9.toInt ∧ feV (pI h.2.1) s2.toInt s8.toInt = feV (pI h.2.1) s2.toInt s9.toInt := by
      by_cases c : feC (pI h.2.1) s2.toInt
      · have b9 := (bx_b hi c).1
        have eb : (Int32.ofInt (bxA (pI h.2.1) s2.toInt)).toInt = bxA (pI h.2.1) s2.toInt := Int32.toInt_ofInt_of_le (by omega) (by omega)
        rw [fc_uq hS.2.2.2.2.2.1 e70 h60.1 (a9 _ c eb) (fcR_cg (fun i => f1 164 rfl i) (fun i => f1 165 rfl i) (f1 118 rfl 70) (a8 _ c eb))]
        exact ⟨rfl, rfl⟩
      · rw [(feT_0 c).1, (feT_0 c).1, (feT_0 c).2, (feT_0 c).2]
        exact ⟨rfl, rfl⟩
    rw [eT.1] at zr2
    rw [eT.2] at e2
    have ev : w1 = w2 := hk_eqi.mpr (e1.trans e2.symm)
    subst ev
    refine qm_Ru.go 3 (c' := (2081, [.retAddr 0, .ref 0, .ref 118, .int (i + 6)], [], (h.1, I2, h.2.2.1, h.2.2.2))) rfl ?_
    obtain ⟨v4, q_v4, e_v4⟩ := hk_add (x := i) (y := 6) (a := i.toInt) (b := 6) rfl rfl (by omega) (by omega)
    rw [q_v4]
    refine qm_Ru.go 1 (c' := (18, [.retAddr 0, .ref 0, .ref 118, .int v4], [], (h.1, I2, h.2.2.1, h.2.2.2))) rfl ?_
    have hS4 : (gS4B tb) (h.1, I2, h.2.2.1, h.2.2.2) := gz_fin hSX hZ hV1 f1 hVS2 (fun o ho i => f2 o (hk_ms rfl ho) i) (fun i _ => f2 118 rfl i) zc1 zr2 (feT_K hZ.2.2.1)
    exact hE _ v4 (by omega) (qa_Inv_of0 ⟨hH.1, hH.2⟩ hB2 ⟨hS4, Or.inr t⟩ (gS_ru hS4.1.1.1))
theorem qv_9 {L : Nat} {xs : Nat → Int32} {Z : Option Value → qm_H → Prop} (h6 : 6 ≤ L) (hl : L ≤ 3072) : qv_PB tb tb L xs Z 9 := by
  intro i h i0 i1 hI hE
  obtain ⟨j1, hB, j3, ⟨⟨hSX, hZ⟩, t⟩, -⟩ := hI
  have hS := hSX.1
  have hH : hk_H h := ⟨j1, j3⟩
  have b_i : 0 ≤ i.toInt ∧ i.toInt ≤ 3066 := by omega
  show qm_Ru (some (L, xs)) 300 cd_law (589, [.retAddr 0, .ref 0, .ref 118, .int i], [], h) Z
  rcases t with t | t
  · have hm := gZ_a hZ t.2
    have hi := zI_of (Or.inl ⟨rfl, rfl⟩) hB hS.1 hZ.2.1 hm
    refine qm_Ru.go 5 (c' := (594, [.retAddr 0, .ref 0, .ref 118, .int i], [.int (i + 1), .retAddr 0, .ref 0], h)) rfl ?_
    obtain ⟨v1, q_v1, e_v1⟩ := hk_add (x := i) (y := 1) (a := i.toInt) (b := 1) rfl rfl (by omega) (by omega)
    rw [q_v1]
    obtain ⟨s2, q_s2⟩ : ∃ v_, xs (v1).toNatClampNeg = v_ := ⟨_, rfl⟩
    have := hk_rng s2
    refine hk_scr (v := s2) rfl (by omega) (by omega) q_s2 ?_
    refine qm_Ru.go 4 (c' := (599, [.retAddr 0, .ref 0, .ref 118, .int i], [.int (i + 2), .retAddr 0, .int s2, .ref 0], h)) rfl ?_
    obtain ⟨v3, q_v3, e_v3⟩ := hk_add (x := i) (y := 2) (a := i.toInt) (b := 2) rfl rfl (by omega) (by omega)
    rw [q_v3]
    obtain ⟨s4, q_s4⟩ : ∃ v_, xs (v3).toNatClampNeg = v_ := ⟨_, rfl⟩
    have := hk_rng s4
    refine hk_scr (v := s4) rfl (by omega) (by omega) q_s4 ?_
    refine qm_Ru.go 4 (c' := (604, [.retAddr 0, .ref 0, .ref 118, .int i], [.int (i + 3), .retAddr 0, .int s4, .int s2, .ref 0], h)) rfl ?_
    obtain ⟨v5, q_v5, e_v5⟩ := hk_add (x := i) (y := 3) (a := i.toInt) (b := 3) rfl rfl (by omega) (by omega)
    rw [q_v5]
    obtain ⟨s6, q_s6⟩ : ∃ v_, xs (v5).toNatClampNeg = v_ := ⟨_, rfl⟩
    have := hk_rng s6
    refine hk_scr (v := s6) rfl (by omega) (by omega) q_s6 ?_
    refine qm_Ru.go 0 (c' := (605, [.retAddr 0, .ref 0, .ref 118, .int i], [.int s6, .int s4, .int s2, .ref 0], h)) rfl ?_
    refine hk_inv (o := 0) (r := []) (as := [.ref 0, .int s2, .int s4, .int s6]) rfl rfl (hH.1 0 (16, 10) rfl) rfl rfl rfl rfl ?_
    refine qm_Ru.go 1 (c' := (1, [.ref 0, .int s2, .int s4, .int s6], [.ref 0], h)) rfl ?_
    refine hk_getr rfl (hH.1 0 (16, 10) rfl) rfl (hH.2 0 4 (some 28) rfl) ?_
    refine qm_Ru.go 3 (c' := (7, [.ref 0, .int s2, .int s4, .int s6], [.int s6, .int s4, .int s2, .ref 28], h)) rfl ?_
    refine hk_inv (o := 28) (r := []) (as := [.ref 28, .int s2, .int s4, .int s6]) rfl rfl (hH.1 28 (9, 8) rfl) rfl rfl rfl rfl (hz_cload29 (h := h) h6 hH t hB hS.1.1 hi hZ.2.1 hm (by omega) (fun I1 w1 hB1 hV1 f1 zc1 e1 => ?_))
    have hS1 : gS (h.1, I1, h.2.2.1, h.2.2.2) := gS_c hS.1 hV1 f1 (by decide)
    refine qm_Ru.go 0 (c' := (10, [.ref 0, .int s2, .int s4, .int s6], [.int w1], (h.1, I1, h.2.2.1, h.2.2.2))) rfl ?_
    refine qm_Ru.rt (v := (some (.int w1))) (h' := (h.1, I1, h.2.2.1, h.2.2.2)) rfl ?_
    refine qm_Ru.go 6 (c' := (614, [.retAddr 0, .ref 0, .ref 118, .int i], [.int (i + 1), .retAddr 0, .ref 118], (h.1, I1, h.2.2.1, h.2.2.2))) rfl ?_
    rw [q_v1]
    refine hk_scr (v := s2) rfl (by omega) (by omega) q_s2 ?_
    refine qm_Ru.go 4 (c' := (619, [.retAddr 0, .ref 0, .ref 118, .int i], [.int (i + 2), .retAddr 0, .int s2, .ref 118], (h.1, I1, h.2.2.1, h.2.2.2))) rfl ?_
    rw [q_v3]
    refine hk_scr (v := s4) rfl (by omega) (by omega) q_s4 ?_
    refine qm_Ru.go 4 (c' := (624, [.retAddr 0, .ref 0, .ref 118, .int i], [.int (i + 3), .retAddr 0, .int s4, .int s2, .ref 118], (h.1, I1, h.2.2.1, h.2.2.2))) rfl ?_
    rw [q_v5]
    refine hk_scr (v := s6) rfl (by omega) (by omega) q_s6 ?_
    refine qm_Ru.go 0 (c' := (625, [.retAddr 0, .ref 0, .ref 118, .int i], [.int s6, .int s4, .int s2, .ref 118], (h.1, I1, h.2.2.1, h.2.2.2))) rfl ?_
    refine hk_inv (o := 118) (r := []) (as := [.ref 118, .int s2, .int s4, .int s6]) rfl rfl (hH.1 118 (17, 105) rfl) rfl rfl rfl rfl (hz_rload0 (h := (h.1, I1, h.2.2.1, h.2.2.2)) h6 hH hB1 hS1.2.1 hi (zR_c (zR_I h.2.1) f1) hm.1 (by omega) (fun I2 w2 hB2 hVS2 f2 zr2 e2 => ?_))
    have ev : w1 = w2 := hk_eqi.mpr (e1.trans e2.symm)
    subst ev
    refine qm_Ru.go 3 (c' := (2081, [.retAddr 0, .ref 0, .ref 118, .int (i + 6)], [], (h.1, I2, h.2.2.1, h.2.2.2))) rfl ?_
    obtain ⟨v10, q_v10, e_v10⟩ := hk_add (x := i) (y := 6) (a := i.toInt) (b := 6) rfl rfl (by omega) (by omega)
    rw [q_v10]
    refine qm_Ru.go 1 (c' := (18, [.retAddr 0, .ref 0, .ref 118, .int v10], [], (h.1, I2, h.2.2.1, h.2.2.2))) rfl ?_
    have hS4 : (gS4B tb) (h.1, I2, h.2.2.1, h.2.2.2) := gz_fin hSX hZ hV1 f1 hVS2 (fun o ho i => f2 o (hk_ms rfl ho) i) (fun i _ => f2 118 rfl i) zc1 zr2 (ldS_K hi hZ.2.2.1)
    exact hE _ v10 (by omega) (qa_Inv_of0 ⟨hH.1, hH.2⟩ hB2 ⟨hS4, Or.inl t⟩ (gS_ru hS4.1.1.1))
  · have hm := gZ_b hZ t.2
    have hi := zI_of (Or.inr ⟨rfl, rfl⟩) hB hS.1 hZ.2.1 hm
    refine qm_Ru.go 5 (c' := (594, [.retAddr 0, .ref 0, .ref 118, .int i], [.int (i + 1), .retAddr 0, .ref 0], h)) rfl ?_
    obtain ⟨v1, q_v1, e_v1⟩ := hk_add (x := i) (y := 1) (a := i.toInt) (b := 1) rfl rfl (by omega) (by omega)
    rw [q_v1]
    obtain ⟨s2, q_s2⟩ : ∃ v_, xs (v1).toNatClampNeg = v_ := ⟨_, rfl⟩
    have := hk_rng s2
    refine hk_scr (v := s2) rfl (by omega) (by omega) q_s2 ?_
    refine qm_Ru.go 4 (c' := (599, [.retAddr 0, .ref 0, .ref 118, .int i], [.int (i + 2), .retAddr 0, .int s2, .ref 0], h)) rfl ?_
    obtain ⟨v3, q_v3, e_v3⟩ := hk_add (x := i) (y := 2) (a := i.toInt) (b := 2) rfl rfl (by omega) (by omega)
    rw [q_v3]
    obtain ⟨s4, q_s4⟩ : ∃ v_, xs (v3).toNatClampNeg = v_ := ⟨_, rfl⟩
    have := hk_rng s4
    refine hk_scr (v := s4) rfl (by omega) (by omega) q_s4 ?_
    refine qm_Ru.go 4 (c' := (604, [.retAddr 0, .ref 0, .ref 118, .int i], [.int (i + 3), .retAddr 0, .int s4, .int s2, .ref 0], h)) rfl ?_
    obtain ⟨v5, q_v5, e_v5⟩ := hk_add (x := i) (y := 3) (a := i.toInt) (b := 3) rfl rfl (by omega) (by omega)
    rw [q_v5]
    obtain ⟨s6, q_s6⟩ : ∃ v_, xs (v5).toNatClampNeg = v_ := ⟨_, rfl⟩
    have := hk_rng s6
    refine hk_scr (v := s6) rfl (by omega) (by omega) q_s6 ?_
    refine qm_Ru.go 0 (c' := (605, [.retAddr 0, .ref 0, .ref 118, .int i], [.int s6, .int s4, .int s2, .ref 0], h)) rfl ?_
    refine hk_inv (o := 0) (r := []) (as := [.ref 0, .int s2, .int s4, .int s6]) rfl rfl (hH.1 0 (16, 10) rfl) rfl rfl rfl rfl ?_
    refine qm_Ru.go 1 (c' := (1, [.ref 0, .int s2, .int s4, .int s6], [.ref 0], h)) rfl ?_
    refine hk_getr rfl (hH.1 0 (16, 10) rfl) rfl (hH.2 0 4 (some 28) rfl) ?_
    refine qm_Ru.go 3 (c' := (7, [.ref 0, .int s2, .int s4, .int s6], [.int s6, .int s4, .int s2, .ref 28], h)) rfl ?_
    refine hk_inv (o := 28) (r := []) (as := [.ref 28, .int s2, .int s4, .int s6]) rfl rfl (hH.1 28 (9, 8) rfl) rfl rfl rfl rfl (hz_cload111 (h := h) h6 hH t hB hS.1.1 hi hZ.2.1 hm (by omega) (fun I1 w1 hB1 hV1 f1 zc1 e1 => ?_))
    have hS1 : gS (h.1, I1, h.2.2.1, h.2.2.2) := gS_c hS.1 hV1 f1 (by decide)
    refine qm_Ru.go 0 (c' := (10, [.ref 0, .int s2, .int s4, .int s6], [.int w1], (h.1, I1, h.2.2.1, h.2.2.2))) rfl ?_
    refine qm_Ru.rt (v := (some (.int w1))) (h' := (h.1, I1, h.2.2.1, h.2.2.2)) rfl ?_
    refine qm_Ru.go 6 (c' := (614, [.retAddr 0, .ref 0, .ref 118, .int i], [.int (i + 1), .retAddr 0, .ref 118], (h.1, I1, h.2.2.1, h.2.2.2))) rfl ?_
    rw [q_v1]
    refine hk_scr (v := s2) rfl (by omega) (by omega) q_s2 ?_
    refine qm_Ru.go 4 (c' := (619, [.retAddr 0, .ref 0, .ref 118, .int i], [.int (i + 2), .retAddr 0, .int s2, .ref 118], (h.1, I1, h.2.2.1, h.2.2.2))) rfl ?_
    rw [q_v3]
    refine hk_scr (v := s4) rfl (by omega) (by omega) q_s4 ?_
    refine qm_Ru.go 4 (c' := (624, [.retAddr 0, .ref 0, .ref 118, .int i], [.int (i + 3), .retAddr 0, .int s4, .int s2, .ref 118], (h.1, I1, h.2.2.1, h.2.2.2))) rfl ?_
    rw [q_v5]
    refine hk_scr (v := s6) rfl (by omega) (by omega) q_s6 ?_
    refine qm_Ru.go 0 (c' := (625, [.retAddr 0, .ref 0, .ref 118, .int i], [.int s6, .int s4, .int s2, .ref 118], (h.1, I1, h.2.2.1, h.2.2.2))) rfl ?_
    refine hk_inv (o := 118) (r := []) (as := [.ref 118, .int s2, .int s4, .int s6]) rfl rfl (hH.1 118 (17, 105) rfl) rfl rfl rfl rfl (hz_rload1 (h := (h.1, I1, h.2.2.1, h.2.2.2)) h6 hH hB1 hS1.2.1 hi (zR_c (zR_I h.2.1) f1) hm.1 (by omega) (fun I2 w2 hB2 hVS2 f2 zr2 e2 => ?_))
    have ev : w1 = w2 := hk_eqi.mpr (e1.trans e2.symm)
    subst ev
    refine qm_Ru.go 3 (c' := (2081, [.retAddr 0, .ref 0, .ref 118, .int (i + 6)], [], (h.1, I2, h.2.2.1, h.2.2.2))) rfl ?_
    obtain ⟨v10, q_v10, e_v10⟩ := hk_add (x := i) (y := 6) (a := i.toInt) (b := 6) rfl rfl (by omega) (by omega)
    rw [q_v10]
    refine qm_Ru.go 1 (c' := (18, [.retAddr 0, .ref 0, .ref 118, .int v10], [], (h.1, I2, h.2.2.1, h.2.2.2))) rfl ?_
    have hS4 : (gS4B tb) (h.1, I2, h.2.2.1, h.2.2.2) := gz_fin hSX hZ hV1 f1 hVS2 (fun o ho i => f2 o (hk_ms rfl ho) i) (fun i _ => f2 118 rfl i) zc1 zr2 (ldS_K hi hZ.2.2.1)
    exact hE _ v10 (by omega) (qa_Inv_of0 ⟨hH.1, hH.2⟩ hB2 ⟨hS4, Or.inr t⟩ (gS_ru hS4.1.1.1))
theorem qv_10 {L : Nat} {xs : Nat → Int32} {Z : Option Value → qm_H → Prop} (h6 : 6 ≤ L) (hl : L ≤ 3072) : qv_PB tb tb L xs Z 10 := by
  intro i h i0 i1 hI hE
  obtain ⟨j1, hB, j3, ⟨⟨hSX, hZ⟩, t⟩, -⟩ := hI
  have hS := hSX.1
  have hH : hk_H h := ⟨j1, j3⟩
  have b_i : 0 ≤ i.toInt ∧ i.toInt ≤ 3066 := by omega
  show qm_Ru (some (L, xs)) 300 cd_law (632, [.retAddr 0, .ref 0, .ref 118, .int i], [], h) Z
  rcases t with t | t
  · have hm := gZ_a hZ t.2
    have hi := zI_of (Or.inl ⟨rfl, rfl⟩) hB hS.1 hZ.2.1 hm
    refine qm_Ru.go 5 (c' := (637, [.retAddr 0, .ref 0, .ref 118, .int i], [.int (i + 1), .retAddr 0, .ref 0], h)) rfl ?_
    obtain ⟨v1, q_v1, e_v1⟩ := hk_add (x := i) (y := 1) (a := i.toInt) (b := 1) rfl rfl (by omega) (by omega)
    rw [q_v1]
    obtain ⟨s2, q_s2⟩ : ∃ v_, xs (v1).toNatClampNeg = v_ := ⟨_, rfl⟩
    have := hk_rng s2
    refine hk_scr (v := s2) rfl (by omega) (by omega) q_s2 ?_
    refine qm_Ru.go 4 (c' := (642, [.retAddr 0, .ref 0, .ref 118, .int i], [.int (i + 2), .retAddr 0, .int s2, .ref 0], h)) rfl ?_
    obtain ⟨v3, q_v3, e_v3⟩ := hk_add (x := i) (y := 2) (a := i.toInt) (b := 2) rfl rfl (by omega) (by omega)
    rw [q_v3]
    obtain ⟨s4, q_s4⟩ : ∃ v_, xs (v3).toNatClampNeg = v_ := ⟨_, rfl⟩
    have := hk_rng s4
    refine hk_scr (v := s4) rfl (by omega) (by omega) q_s4 ?_
    refine qm_Ru.go 4 (c' := (647, [.retAddr 0, .ref 0, .ref 118, .int i], [.int (i + 3), .retAddr 0, .int s4, .int s2, .ref 0], h)) rfl ?_
    obtain ⟨v5, q_v5, e_v5⟩ := hk_add (x := i) (y := 3) (a := i.toInt) (b := 3) rfl rfl (by omega) (by omega)
    rw [q_v5]
    obtain ⟨s6, q_s6⟩ : ∃ v_, xs (v5).toNatClampNeg = v_ := ⟨_, rfl⟩
    have := hk_rng s6
    refine hk_scr (v := s6) rfl (by omega) (by omega) q_s6 ?_
    refine qm_Ru.go 0 (c' := (648, [.retAddr 0, .ref 0, .ref 118, .int i], [.int s6, .int s4, .int s2, .ref 0], h)) rfl ?_
    refine hk_inv (o := 0) (r := []) (as := [.ref 0, .int s2, .int s4, .int s6]) rfl rfl (hH.1 0 (16, 10) rfl) rfl rfl rfl rfl ?_
    refine qm_Ru.go 1 (c' := (1, [.ref 0, .int s2, .int s4, .int s6], [.ref 0], h)) rfl ?_
    refine hk_getr rfl (hH.1 0 (16, 10) rfl) rfl (hH.2 0 4 (some 28) rfl) ?_
    refine qm_Ru.go 3 (c' := (7, [.ref 0, .int s2, .int s4, .int s6], [.int s6, .int s4, .int s2, .ref 28], h)) rfl ?_
    refine hk_inv (o := 28) (r := []) (as := [.ref 28, .int s2, .int s4, .int s6]) rfl rfl (hH.1 28 (9, 8) rfl) rfl rfl rfl rfl (hz_cunl29 (h := h) h6 hH t hB hS.1.1 hi hZ.2.1 hm (by omega) (fun I1 w1 hB1 hV1 f1 zc1 e1 => ?_))
    have hS1 : gS (h.1, I1, h.2.2.1, h.2.2.2) := gS_c hS.1 hV1 f1 (by decide)
    refine qm_Ru.go 0 (c' := (10, [.ref 0, .int s2, .int s4, .int s6], [.int w1], (h.1, I1, h.2.2.1, h.2.2.2))) rfl ?_
    refine qm_Ru.rt (v := (some (.int w1))) (h' := (h.1, I1, h.2.2.1, h.2.2.2)) rfl ?_
    refine qm_Ru.go 6 (c' := (657, [.retAddr 0, .ref 0, .ref 118, .int i], [.int (i + 1), .retAddr 0, .ref 118], (h.1, I1, h.2.2.1, h.2.2.2))) rfl ?_
    rw [q_v1]
    refine hk_scr (v := s2) rfl (by omega) (by omega) q_s2 ?_
    refine qm_Ru.go 4 (c' := (662, [.retAddr 0, .ref 0, .ref 118, .int i], [.int (i + 2), .retAddr 0, .int s2, .ref 118], (h.1, I1, h.2.2.1, h.2.2.2))) rfl ?_
    rw [q_v3]
    refine hk_scr (v := s4) rfl (by omega) (by omega) q_s4 ?_
    refine qm_Ru.go 4 (c' := (667, [.retAddr 0, .ref 0, .ref 118, .int i], [.int (i + 3), .retAddr 0, .int s4, .int s2, .ref 118], (h.1, I1, h.2.2.1, h.2.2.2))) rfl ?_
    rw [q_v5]
    refine hk_scr (v := s6) rfl (by omega) (by omega) q_s6 ?_
    refine qm_Ru.go 0 (c' := (668, [.retAddr 0, .ref 0, .ref 118, .int i], [.int s6, .int s4, .int s2, .ref 118], (h.1, I1, h.2.2.1, h.2.2.2))) rfl ?_
    refine hk_inv (o := 118) (r := []) (as := [.ref 118, .int s2, .int s4, .int s6]) rfl rfl (hH.1 118 (17, 105) rfl) rfl rfl rfl rfl (hz_runl0 (h := (h.1, I1, h.2.2.1, h.2.2.2)) h6 hH hB1 hS1.2.1 hi (zR_c (zR_I h.2.1) f1) hm.1 (by omega) (fun I2 w2 hB2 hVS2 f2 zr2 e2 => ?_))
    have ev : w1 = w2 := hk_eqi.mpr (e1.trans e2.symm)
    subst ev
    refine qm_Ru.go 3 (c' := (2081, [.retAddr 0, .ref 0, .ref 118, .int (i + 6)], [], (h.1, I2, h.2.2.1, h.2.2.2))) rfl ?_
    obtain ⟨v10, q_v10, e_v10⟩ := hk_add (x := i) (y := 6) (a := i.toInt) (b := 6) rfl rfl (by omega) (by omega)
    rw [q_v10]
    refine qm_Ru.go 1 (c' := (18, [.retAddr 0, .ref 0, .ref 118, .int v10], [], (h.1, I2, h.2.2.1, h.2.2.2))) rfl ?_
    have hS4 : (gS4B tb) (h.1, I2, h.2.2.1, h.2.2.2) := gz_fin hSX hZ hV1 f1 hVS2 (fun o ho i => f2 o (hk_ms rfl ho) i) (fun i _ => f2 118 rfl i) zc1 zr2 (ulS_K hi hZ.2.2.1)
    exact hE _ v10 (by omega) (qa_Inv_of0 ⟨hH.1, hH.2⟩ hB2 ⟨hS4, Or.inl t⟩ (gS_ru hS4.1.1.1))
  · have hm := gZ_b hZ t.2
    have hi := zI_of (Or.inr ⟨rfl, rfl⟩) hB hS.1 hZ.2.1 hm
    refine qm_Ru.go 5 (c' := (637, [.retAddr 0, .ref 0, .ref 118, .int i], [.int (i + 1), .retAddr 0, .ref 0], h)) rfl ?_
    obtain ⟨v1, q_v1, e_v1⟩ := hk_add (x := i) (y := 1) (a := i.toInt) (b := 1) rfl rfl (by omega) (by omega)
    rw [q_v1]
    obtain ⟨s2, q_s2⟩ : ∃ v_, xs (v1).toNatClampNeg = v_ := ⟨_, rfl⟩
    have := hk_rng s2
    refine hk_scr (v := s2) rfl (by omega) (by omega) q_s2 ?_
    refine qm_Ru.go 4 (c' := (642, [.retAddr 0, .ref 0, .ref 118, .int i], [.int (i + 2), .retAddr 0, .int s2, .ref 0], h)) rfl ?_
    obtain ⟨v3, q_v3, e_v3⟩ := hk_add (x := i) (y := 2) (a := i.toInt) (b := 2) rfl rfl (by omega) (by omega)
    rw [q_v3]
    obtain ⟨s4, q_s4⟩ : ∃ v_, xs (v3).toNatClampNeg = v_ := ⟨_, rfl⟩
    have := hk_rng s4
    refine hk_scr (v := s4) rfl (by omega) (by omega) q_s4 ?_
    refine qm_Ru.go 4 (c' := (647, [.retAddr 0, .ref 0, .ref 118, .int i], [.int (i + 3), .retAddr 0, .int s4, .int s2, .ref 0], h)) rfl ?_
    obtain ⟨v5, q_v5, e_v5⟩ := hk_add (x := i) (y := 3) (a := i.toInt) (b := 3) rfl rfl (by omega) (by omega)
    rw [q_v5]
    obtain ⟨s6, q_s6⟩ : ∃ v_, xs (v5).toNatClampNeg = v_ := ⟨_, rfl⟩
    have := hk_rng s6
    refine hk_scr (v := s6) rfl (by omega) (by omega) q_s6 ?_
    refine qm_Ru.go 0 (c' := (648, [.retAddr 0, .ref 0, .ref 118, .int i], [.int s6, .int s4, .int s2, .ref 0], h)) rfl ?_
    refine hk_inv (o := 0) (r := []) (as := [.ref 0, .int s2, .int s4, .int s6]) rfl rfl (hH.1 0 (16, 10) rfl) rfl rfl rfl rfl ?_
    refine qm_Ru.go 1 (c' := (1, [.ref 0, .int s2, .int s4, .int s6], [.ref 0], h)) rfl ?_
    refine hk_getr rfl (hH.1 0 (16, 10) rfl) rfl (hH.2 0 4 (some 28) rfl) ?_
    refine qm_Ru.go 3 (c' := (7, [.ref 0, .int s2, .int s4, .int s6], [.int s6, .int s4, .int s2, .ref 28], h)) rfl ?_
    refine hk_inv (o := 28) (r := []) (as := [.ref 28, .int s2, .int s4, .int s6]) rfl rfl (hH.1 28 (9, 8) rfl) rfl rfl rfl rfl (hz_cunl111 (h := h) h6 hH t hB hS.1.1 hi hZ.2.1 hm (by omega) (fun I1 w1 hB1 hV1 f1 zc1 e1 => ?_))
    have hS1 : gS (h.1, I1, h.2.2.1, h.2.2.2) := gS_c hS.1 hV1 f1 (by decide)
    refine qm_Ru.go 0 (c' := (10, [.ref 0, .int s2, .int s4, .int s6], [.int w1], (h.1, I1, h.2.2.1, h.2.2.2))) rfl ?_
    refine qm_Ru.rt (v := (some (.int w1))) (h' := (h.1, I1, h.2.2.1, h.2.2.2)) rfl ?_
    refine qm_Ru.go 6 (c' := (657, [.retAddr 0, .ref 0, .ref 118, .int i], [.int (i + 1), .retAddr 0, .ref 118], (h.1, I1, h.2.2.1, h.2.2.2))) rfl ?_
    rw [q_v1]
    refine hk_scr (v := s2) rfl (by omega) (by omega) q_s2 ?_
    refine qm_Ru.go 4 (c' := (662, [.retAddr 0, .ref 0, .ref 118, .int i], [.int (i + 2), .retAddr 0, .int s2, .ref 118], (h.1, I1, h.2.2.1, h.2.2.2))) rfl ?_
    rw [q_v3]
    refine hk_scr (v := s4) rfl (by omega) (by omega) q_s4 ?_
    refine qm_Ru.go 4 (c' := (667, [.retAddr 0, .ref 0, .ref 118, .int i], [.int (i + 3), .retAddr 0, .int s4, .int s2, .ref 118], (h.1, I1, h.2.2.1, h.2.2.2))) rfl ?_
    rw [q_v5]
    refine hk_scr (v := s6) rfl (by omega) (by omega) q_s6 ?_
    refine qm_Ru.go 0 (c' := (668, [.retAddr 0, .ref 0, .ref 118, .int i], [.int s6, .int s4, .int s2, .ref 118], (h.1, I1, h.2.2.1, h.2.2.2))) rfl ?_
    refine hk_inv (o := 118) (r := []) (as := [.ref 118, .int s2, .int s4, .int s6]) rfl rfl (hH.1 118 (17, 105) rfl) rfl rfl rfl rfl (hz_runl1 (h := (h.1, I1, h.2.2.1, h.2.2.2)) h6 hH hB1 hS1.2.1 hi (zR_c (zR_I h.2.1) f1) hm.1 (by omega) (fun I2 w2 hB2 hVS2 f2 zr2 e2 => ?_))
    have ev : w1 = w2 := hk_eqi.mpr (e1.trans e2.symm)
    subst ev
    refine qm_Ru.go 3 (c' := (2081, [.retAddr 0, .ref 0, .ref 118, .int (i + 6)], [], (h.1, I2, h.2.2.1, h.2.2.2))) rfl ?_
    obtain ⟨v10, q_v10, e_v10⟩ := hk_add (x := i) (y := 6) (a := i.toInt) (b := 6) rfl rfl (by omega) (by omega)
    rw [q_v10]
    refine qm_Ru.go 1 (c' := (18, [.retAddr 0, .ref 0, .ref 118, .int v10], [], (h.1, I2, h.2.2.1, h.2.2.2))) rfl ?_
    have hS4 : (gS4B tb) (h.1, I2, h.2.2.1, h.2.2.2) := gz_fin hSX hZ hV1 f1 hVS2 (fun o ho i => f2 o (hk_ms rfl ho) i) (fun i _ => f2 118 rfl i) zc1 zr2 (ulS_K hi hZ.2.2.1)
    exact hE _ v10 (by omega) (qa_Inv_of0 ⟨hH.1, hH.2⟩ hB2 ⟨hS4, Or.inr t⟩ (gS_ru hS4.1.1.1))
