/-! ops of the law: jobs that come -/
variable {tb : Int}
theorem qv_42 {L : Nat} {xs : Nat → Int32} {Z : Option Value → qm_H → Prop} (h6 : 6 ≤ L) (hl : L ≤ 3072) : qv_PB tb tb L xs Z 42 := by
  intro i h i0 i1 hI hE
  obtain ⟨j1, hB, j3, ⟨⟨hSX, hZ⟩, t⟩, -⟩ := hI
  have hS := hSX.1
  have hH : hk_H h := ⟨j1, j3⟩
  have b_i : 0 ≤ i.toInt ∧ i.toInt ≤ 3066 := by omega
  show qm_Ru (some (L, xs)) 300 cd_law (1544, [.retAddr 0, .ref 0, .ref 118, .int i], [], h) Z
  rcases t with t | t
  · have hm := gZ_a hZ t.2
    have hi := zI_of (Or.inl ⟨rfl, rfl⟩) hB hS.1 hZ.2.1 hm
    refine qm_Ru.go 5 (c' := (1549, [.retAddr 0, .ref 0, .ref 118, .int i], [.int (i + 1), .retAddr 0, .ref 0], h)) rfl ?_
    obtain ⟨v1, q_v1, e_v1⟩ := hk_add (x := i) (y := 1) (a := i.toInt) (b := 1) rfl rfl (by omega) (by omega)
    rw [q_v1]
    obtain ⟨s2, q_s2⟩ : ∃ v_, xs (v1).toNatClampNeg = v_ := ⟨_, rfl⟩
    have := hk_rng s2
    refine hk_scr (v := s2) rfl (by omega) (by omega) q_s2 ?_
    refine qm_Ru.go 4 (c' := (1554, [.retAddr 0, .ref 0, .ref 118, .int i], [.int (i + 2), .retAddr 0, .int s2, .ref 0], h)) rfl ?_
    obtain ⟨v3, q_v3, e_v3⟩ := hk_add (x := i) (y := 2) (a := i.toInt) (b := 2) rfl rfl (by omega) (by omega)
    rw [q_v3]
    obtain ⟨s4, q_s4⟩ : ∃ v_, xs (v3).toNatClampNeg = v_ := ⟨_, rfl⟩
    have := hk_rng s4
    refine hk_scr (v := s4) rfl (by omega) (by omega) q_s4 ?_
    refine qm_Ru.go 4 (c' := (1559, [.retAddr 0, .ref 0, .ref 118, .int i], [.int (i + 3), .retAddr 0, .int s4, .int s2, .ref 0], h)) rfl ?_
    obtain ⟨v5, q_v5, e_v5⟩ := hk_add (x := i) (y := 3) (a := i.toInt) (b := 3) rfl rfl (by omega) (by omega)
    rw [q_v5]
    obtain ⟨s6, q_s6⟩ : ∃ v_, xs (v5).toNatClampNeg = v_ := ⟨_, rfl⟩
    have := hk_rng s6
    refine hk_scr (v := s6) rfl (by omega) (by omega) q_s6 ?_
    refine qm_Ru.go 0 (c' := (1560, [.retAddr 0, .ref 0, .ref 118, .int i], [.int s6, .int s4, .int s2, .ref 0], h)) rfl ?_
    have hIg : qa_Inv qp_a gS h := qa_Inv_of ⟨j1, j3⟩ t hB hS.1 (gS_ru hS.1)
    have hn0 : (h.2.1 51 2).toInt = (h.2.1 118 75).toInt := congrArg Int32.toInt hZ.2.2.2.1.1.1
    have hb0 : (h.2.1 6 0).toInt = (h.2.1 118 44).toInt := hZ.2.1.2.1.2
    have hB0 : (h.2.1 29 0).toInt = (h.2.1 127 0).toInt := hm.2.1
    have hs0 : h.2.1 118 18 = 0 := hk_eqi.mpr (hm.1.trans (by decide))
    have hB5 : 2 ≤ (h.2.1 29 0).toInt ∧ (h.2.1 29 0).toInt ≤ 5 := hB 29 0
    have hn40 := hZ.2.2.2.2.1.1.1
    refine hk_inv (o := 0) (r := []) (as := [.ref 0, .int s2, .int s4, .int s6]) rfl rfl (hH.1 0 (16, 10) rfl) rfl rfl rfl rfl (hz_cjl29 (h := h) h6 hIg (by omega) (fun I1 w1 hI1 q1 => ?_))
    rcases q1 with ⟨nc, e1, rfl⟩ | ⟨hc, e1, n2, en2, q1⟩
    · obtain rfl : w1 = -1 := hk_eqi.mpr e1
      refine qm_Ru.go 6 (c' := (1569, [.retAddr 0, .ref 0, .ref 118, .int i], [.int (i + 1), .retAddr 0, .ref 118], h)) rfl ?_
      rw [q_v1]
      refine hk_scr (v := s2) rfl (by omega) (by omega) q_s2 ?_
      refine qm_Ru.go 4 (c' := (1574, [.retAddr 0, .ref 0, .ref 118, .int i], [.int (i + 2), .retAddr 0, .int s2, .ref 118], h)) rfl ?_
      rw [q_v3]
      refine hk_scr (v := s4) rfl (by omega) (by omega) q_s4 ?_
      refine qm_Ru.go 4 (c' := (1579, [.retAddr 0, .ref 0, .ref 118, .int i], [.int (i + 3), .retAddr 0, .int s4, .int s2, .ref 118], h)) rfl ?_
      rw [q_v5]
      refine hk_scr (v := s6) rfl (by omega) (by omega) q_s6 ?_
      refine qm_Ru.go 0 (c' := (1580, [.retAddr 0, .ref 0, .ref 118, .int i], [.int s6, .int s4, .int s2, .ref 118], h)) rfl ?_
      refine hk_inv (o := 118) (r := []) (as := [.ref 118, .int s2, .int s4, .int s6]) rfl rfl (hH.1 118 (17, 105) rfl) rfl rfl rfl rfl (hz_rjl0 (h := h) h6 hIg (hs0) (by rw [← hB0]; exact hB5) (by omega) (fun I2 w2 hI2 q2 => ?_))
      rw [← hn0, ← hB0, ← hb0] at q2
      rcases q2 with ⟨nd, e2, q2⟩ | ⟨hd, e2, m2, em2, q2⟩
      · subst q2
        obtain rfl : w2 = -1 := hk_eqi.mpr e2
        refine qm_Ru.go 3 (c' := (2081, [.retAddr 0, .ref 0, .ref 118, .int (i + 6)], [], h)) rfl ?_
        obtain ⟨v10, q_v10, e_v10⟩ := hk_add (x := i) (y := 6) (a := i.toInt) (b := 6) rfl rfl (by omega) (by omega)
        rw [q_v10]
        refine qm_Ru.go 1 (c' := (18, [.retAddr 0, .ref 0, .ref 118, .int v10], [], h)) rfl ?_
        exact hE _ v10 (by omega) (qa_Inv_of0 ⟨hH.1, hH.2⟩ hB ⟨⟨hSX, hZ⟩, Or.inl t⟩ (gS_ru hSX.1.1))
      · exact absurd hd nc
    · have hk9 : (h.2.1 118 75).toInt.toNat < 40 := by unfold jlC at hc; omega
      rw [hn0] at q1 en2
      have x1 : ∀ o, o ≠ 51 → o ≠ 53 + (h.2.1 118 75).toInt.toNat → I1 o = h.2.1 o := fun o o1 o2 => by rw [q1]; exact adC_o o1 o2
      have x118 : I1 118 = h.2.1 118 := x1 118 (by decide) (by omega)
      have x127 : I1 127 = h.2.1 127 := x1 127 (by decide) (by omega)
      refine qm_Ru.go 6 (c' := (1569, [.retAddr 0, .ref 0, .ref 118, .int i], [.int (i + 1), .retAddr 0, .ref 118], (h.1, I1, h.2.2.1, h.2.2.2))) rfl ?_
      rw [q_v1]
      refine hk_scr (v := s2) rfl (by omega) (by omega) q_s2 ?_
      refine qm_Ru.go 4 (c' := (1574, [.retAddr 0, .ref 0, .ref 118, .int i], [.int (i + 2), .retAddr 0, .int s2, .ref 118], (h.1, I1, h.2.2.1, h.2.2.2))) rfl ?_
      rw [q_v3]
      refine hk_scr (v := s4) rfl (by omega) (by omega) q_s4 ?_
      refine qm_Ru.go 4 (c' := (1579, [.retAddr 0, .ref 0, .ref 118, .int i], [.int (i + 3), .retAddr 0, .int s4, .int s2, .ref 118], (h.1, I1, h.2.2.1, h.2.2.2))) rfl ?_
      rw [q_v5]
      refine hk_scr (v := s6) rfl (by omega) (by omega) q_s6 ?_
      refine qm_Ru.go 0 (c' := (1580, [.retAddr 0, .ref 0, .ref 118, .int i], [.int s6, .int s4, .int s2, .ref 118], (h.1, I1, h.2.2.1, h.2.2.2))) rfl ?_
      refine hk_inv (o := 118) (r := []) (as := [.ref 118, .int s2, .int s4, .int s6]) rfl rfl (hH.1 118 (17, 105) rfl) rfl rfl rfl rfl (hz_rjl0 (h := (h.1, I1, h.2.2.1, h.2.2.2)) h6 hI1 (show I1 118 18 = 0 from by rw [x118]; exact hs0) (show 2 ≤ (I1 127 0).toInt ∧ (I1 127 0).toInt ≤ 5 from by rw [x127, ← hB0]; exact hB5) (by omega) (fun I2 w2 hI2 q2 => ?_))
      dsimp only at q2
      rw [x118, x127] at q2
      rw [← hn0, ← hB0, ← hb0] at q2
      rcases q2 with ⟨nd, e2, q2⟩ | ⟨hd, e2, m2, em2, q2⟩
      · exact absurd hc nd
      · have ev : w1 = w2 := hk_eqi.mpr (e1.trans e2.symm)
        subst ev
        refine qm_Ru.go 3 (c' := (2081, [.retAddr 0, .ref 0, .ref 118, .int (i + 6)], [], (h.1, I2, h.2.2.1, h.2.2.2))) rfl ?_
        obtain ⟨v14, q_v14, e_v14⟩ := hk_add (x := i) (y := 6) (a := i.toInt) (b := 6) rfl rfl (by omega) (by omega)
        rw [q_v14]
        refine qm_Ru.go 1 (c' := (18, [.retAddr 0, .ref 0, .ref 118, .int v14], [], (h.1, I2, h.2.2.1, h.2.2.2))) rfl ?_
        have ek : ((h.2.1 118 75).toInt.toNat : Int) = (h.2.1 118 75).toInt := by omega
        have q2 : I2 = adR (adC h.2.1 (h.2.1 118 75).toInt.toNat s2 s4 s6 (-1) n2) (h.2.1 118 75).toInt.toNat 0 s2 s4 s6 m2 := by rw [q2, q1, hn0]
        have hg : gJ tb I2 := by
          rw [q2]
          exact gJ_add hZ.2.2.2 ek.symm hk9 (by omega) (by omega) (by unfold jlC at hc; omega) (fun _ => ⟨rfl, by have b30 : 0 ≤ (h.2.1 6 0).toInt ∧ (h.2.1 6 0).toInt ≤ 30 := hB 6 0; unfold jlC at hc; omega⟩) (fun z => absurd rfl z)
        have he := ad_e (I := h.2.1) (r0 := s2) (y := s4) (x := s6) (r3 := (-1)) (n2 := n2) (kd := 0) (a := s2) (m2 := m2) hk9
        rw [← q2] at he
        have hS4 : (gS4B tb) (h.1, I2, h.2.2.1, h.2.2.2) := gS4_j (J := h.2.2.1) ⟨hSX, hZ⟩ he.1 he.2 hSX.2.2 hg
        exact hE _ v14 (by omega) (qa_Inv_of0 ⟨hH.1, hH.2⟩ hI2.2.1 ⟨hS4, Or.inl t⟩ (gS_ru hS4.1.1.1))
  · have hm := gZ_b hZ t.2
    have hi := zI_of (Or.inr ⟨rfl, rfl⟩) hB hS.1 hZ.2.1 hm
    refine qm_Ru.go 5 (c' := (1549, [.retAddr 0, .ref 0, .ref 118, .int i], [.int (i + 1), .retAddr 0, .ref 0], h)) rfl ?_
    obtain ⟨v1, q_v1, e_v1⟩ := hk_add (x := i) (y := 1) (a := i.toInt) (b := 1) rfl rfl (by omega) (by omega)
    rw [q_v1]
    obtain ⟨s2, q_s2⟩ : ∃ v_, xs (v1).toNatClampNeg = v_ := ⟨_, rfl⟩
    have := hk_rng s2
    refine hk_scr (v := s2) rfl (by omega) (by omega) q_s2 ?_
    refine qm_Ru.go 4 (c' := (1554, [.retAddr 0, .ref 0, .ref 118, .int i], [.int (i + 2), .retAddr 0, .int s2, .ref 0], h)) rfl ?_
    obtain ⟨v3, q_v3, e_v3⟩ := hk_add (x := i) (y := 2) (a := i.toInt) (b := 2) rfl rfl (by omega) (by omega)
    rw [q_v3]
    obtain ⟨s4, q_s4⟩ : ∃ v_, xs (v3).toNatClampNeg = v_ := ⟨_, rfl⟩
    have := hk_rng s4
    refine hk_scr (v := s4) rfl (by omega) (by omega) q_s4 ?_
    refine qm_Ru.go 4 (c' := (1559, [.retAddr 0, .ref 0, .ref 118, .int i], [.int (i + 3), .retAddr 0, .int s4, .int s2, .ref 0], h)) rfl ?_
    obtain ⟨v5, q_v5, e_v5⟩ := hk_add (x := i) (y := 3) (a := i.toInt) (b := 3) rfl rfl (by omega) (by omega)
    rw [q_v5]
    obtain ⟨s6, q_s6⟩ : ∃ v_, xs (v5).toNatClampNeg = v_ := ⟨_, rfl⟩
    have := hk_rng s6
    refine hk_scr (v := s6) rfl (by omega) (by omega) q_s6 ?_
    refine qm_Ru.go 0 (c' := (1560, [.retAddr 0, .ref 0, .ref 118, .int i], [.int s6, .int s4, .int s2, .ref 0], h)) rfl ?_
    have hIg : qa_Inv qp_b gS h := qa_Inv_of ⟨j1, j3⟩ t hB hS.1 (gS_ru hS.1)
    have hn0 : (h.2.1 51 2).toInt = (h.2.1 118 75).toInt := congrArg Int32.toInt hZ.2.2.2.1.1.1
    have hb0 : (h.2.1 6 0).toInt = (h.2.1 118 44).toInt := hZ.2.1.2.1.2
    have hB0 : (h.2.1 111 0).toInt = (h.2.1 127 1).toInt := hm.2.1
    have hs0 : h.2.1 118 18 = 1 := hk_eqi.mpr (hm.1.trans (by decide))
    have hB5 : 2 ≤ (h.2.1 111 0).toInt ∧ (h.2.1 111 0).toInt ≤ 5 := hB 111 0
    have hn40 := hZ.2.2.2.2.1.1.1
    refine hk_inv (o := 0) (r := []) (as := [.ref 0, .int s2, .int s4, .int s6]) rfl rfl (hH.1 0 (16, 10) rfl) rfl rfl rfl rfl (hz_cjl111 (h := h) h6 hIg (by omega) (fun I1 w1 hI1 q1 => ?_))
    rcases q1 with ⟨nc, e1, rfl⟩ | ⟨hc, e1, n2, en2, q1⟩
    · obtain rfl : w1 = -1 := hk_eqi.mpr e1
      refine qm_Ru.go 6 (c' := (1569, [.retAddr 0, .ref 0, .ref 118, .int i], [.int (i + 1), .retAddr 0, .ref 118], h)) rfl ?_
      rw [q_v1]
      refine hk_scr (v := s2) rfl (by omega) (by omega) q_s2 ?_
      refine qm_Ru.go 4 (c' := (1574, [.retAddr 0, .ref 0, .ref 118, .int i], [.int (i + 2), .retAddr 0, .int s2, .ref 118], h)) rfl ?_
      rw [q_v3]
      refine hk_scr (v := s4) rfl (by omega) (by omega) q_s4 ?_
      refine qm_Ru.go 4 (c' := (1579, [.retAddr 0, .ref 0, .ref 118, .int i], [.int (i + 3), .retAddr 0, .int s4, .int s2, .ref 118], h)) rfl ?_
      rw [q_v5]
      refine hk_scr (v := s6) rfl (by omega) (by omega) q_s6 ?_
      refine qm_Ru.go 0 (c' := (1580, [.retAddr 0, .ref 0, .ref 118, .int i], [.int s6, .int s4, .int s2, .ref 118], h)) rfl ?_
      refine hk_inv (o := 118) (r := []) (as := [.ref 118, .int s2, .int s4, .int s6]) rfl rfl (hH.1 118 (17, 105) rfl) rfl rfl rfl rfl (hz_rjl1 (h := h) h6 hIg (hs0) (by rw [← hB0]; exact hB5) (by omega) (fun I2 w2 hI2 q2 => ?_))
      rw [← hn0, ← hB0, ← hb0] at q2
      rcases q2 with ⟨nd, e2, q2⟩ | ⟨hd, e2, m2, em2, q2⟩
      · subst q2
        obtain rfl : w2 = -1 := hk_eqi.mpr e2
        refine qm_Ru.go 3 (c' := (2081, [.retAddr 0, .ref 0, .ref 118, .int (i + 6)], [], h)) rfl ?_
        obtain ⟨v10, q_v10, e_v10⟩ := hk_add (x := i) (y := 6) (a := i.toInt) (b := 6) rfl rfl (by omega) (by omega)
        rw [q_v10]
        refine qm_Ru.go 1 (c' := (18, [.retAddr 0, .ref 0, .ref 118, .int v10], [], h)) rfl ?_
        exact hE _ v10 (by omega) (qa_Inv_of0 ⟨hH.1, hH.2⟩ hB ⟨⟨hSX, hZ⟩, Or.inr t⟩ (gS_ru hSX.1.1))
      · exact absurd hd nc
    · have hk9 : (h.2.1 118 75).toInt.toNat < 40 := by unfold jlC at hc; omega
      rw [hn0] at q1 en2
      have x1 : ∀ o, o ≠ 51 → o ≠ 53 + (h.2.1 118 75).toInt.toNat → I1 o = h.2.1 o := fun o o1 o2 => by rw [q1]; exact adC_o o1 o2
      have x118 : I1 118 = h.2.1 118 := x1 118 (by decide) (by omega)
      have x127 : I1 127 = h.2.1 127 := x1 127 (by decide) (by omega)
      refine qm_Ru.go 6 (c' := (1569, [.retAddr 0, .ref 0, .ref 118, .int i], [.int (i + 1), .retAddr 0, .ref 118], (h.1, I1, h.2.2.1, h.2.2.2))) rfl ?_
      rw [q_v1]
      refine hk_scr (v := s2) rfl (by omega) (by omega) q_s2 ?_
      refine qm_Ru.go 4 (c' := (1574, [.retAddr 0, .ref 0, .ref 118, .int i], [.int (i + 2), .retAddr 0, .int s2, .ref 118], (h.1, I1, h.2.2.1, h.2.2.2))) rfl ?_
      rw [q_v3]
      refine hk_scr (v := s4) rfl (by omega) (by omega) q_s4 ?_
      refine qm_Ru.go 4 (c' := (1579, [.retAddr 0, .ref 0, .ref 118, .int i], [.int (i + 3), .retAddr 0, .int s4, .int s2, .ref 118], (h.1, I1, h.2.2.1, h.2.2.2))) rfl ?_
      rw [q_v5]
      refine hk_scr (v := s6) rfl (by omega) (by omega) q_s6 ?_
      refine qm_Ru.go 0 (c' := (1580, [.retAddr 0, .ref 0, .ref 118, .int i], [.int s6, .int s4, .int s2, .ref 118], (h.1, I1, h.2.2.1, h.2.2.2))) rfl ?_
      refine hk_inv (o := 118) (r := []) (as := [.ref 118, .int s2, .int s4, .int s6]) rfl rfl (hH.1 118 (17, 105) rfl) rfl rfl rfl rfl (hz_rjl1 (h := (h.1, I1, h.2.2.1, h.2.2.2)) h6 hI1 (show I1 118 18 = 1 from by rw [x118]; exact hs0) (show 2 ≤ (I1 127 1).toInt ∧ (I1 127 1).toInt ≤ 5 from by rw [x127, ← hB0]; exact hB5) (by omega) (fun I2 w2 hI2 q2 => ?_))
      dsimp only at q2
      rw [x118, x127] at q2
      rw [← hn0, ← hB0, ← hb0] at q2
      rcases q2 with ⟨nd, e2, q2⟩ | ⟨hd, e2, m2, em2, q2⟩
      · exact absurd hc nd
      · have ev : w1 = w2 := hk_eqi.mpr (e1.trans e2.symm)
        subst ev
        refine qm_Ru.go 3 (c' := (2081, [.retAddr 0, .ref 0, .ref 118, .int (i + 6)], [], (h.1, I2, h.2.2.1, h.2.2.2))) rfl ?_
        obtain ⟨v14, q_v14, e_v14⟩ := hk_add (x := i) (y := 6) (a := i.toInt) (b := 6) rfl rfl (by omega) (by omega)
        rw [q_v14]
        refine qm_Ru.go 1 (c' := (18, [.retAddr 0, .ref 0, .ref 118, .int v14], [], (h.1, I2, h.2.2.1, h.2.2.2))) rfl ?_
        have ek : ((h.2.1 118 75).toInt.toNat : Int) = (h.2.1 118 75).toInt := by omega
        have q2 : I2 = adR (adC h.2.1 (h.2.1 118 75).toInt.toNat s2 s4 s6 (-1) n2) (h.2.1 118 75).toInt.toNat 0 s2 s4 s6 m2 := by rw [q2, q1, hn0]
        have hg : gJ tb I2 := by
          rw [q2]
          exact gJ_add hZ.2.2.2 ek.symm hk9 (by omega) (by omega) (by unfold jlC at hc; omega) (fun _ => ⟨rfl, by have b30 : 0 ≤ (h.2.1 6 0).toInt ∧ (h.2.1 6 0).toInt ≤ 30 := hB 6 0; unfold jlC at hc; omega⟩) (fun z => absurd rfl z)
        have he := ad_e (I := h.2.1) (r0 := s2) (y := s4) (x := s6) (r3 := (-1)) (n2 := n2) (kd := 0) (a := s2) (m2 := m2) hk9
        rw [← q2] at he
        have hS4 : (gS4B tb) (h.1, I2, h.2.2.1, h.2.2.2) := gS4_j (J := h.2.2.1) ⟨hSX, hZ⟩ he.1 he.2 hSX.2.2 hg
        exact hE _ v14 (by omega) (qa_Inv_of0 ⟨hH.1, hH.2⟩ hI2.2.1 ⟨hS4, Or.inr t⟩ (gS_ru hS4.1.1.1))
theorem qv_43 {L : Nat} {xs : Nat → Int32} {Z : Option Value → qm_H → Prop} (h6 : 6 ≤ L) (hl : L ≤ 3072) : qv_PB tb tb L xs Z 43 := by
  intro i h i0 i1 hI hE
  obtain ⟨j1, hB, j3, ⟨⟨hSX, hZ⟩, t⟩, -⟩ := hI
  have hS := hSX.1
  have hH : hk_H h := ⟨j1, j3⟩
  have b_i : 0 ≤ i.toInt ∧ i.toInt ≤ 3066 := by omega
  show qm_Ru (some (L, xs)) 300 cd_law (1587, [.retAddr 0, .ref 0, .ref 118, .int i], [], h) Z
  rcases t with t | t
  · have hm := gZ_a hZ t.2
    have hi := zI_of (Or.inl ⟨rfl, rfl⟩) hB hS.1 hZ.2.1 hm
    refine qm_Ru.go 5 (c' := (1592, [.retAddr 0, .ref 0, .ref 118, .int i], [.int (i + 1), .retAddr 0, .ref 0], h)) rfl ?_
    obtain ⟨v1, q_v1, e_v1⟩ := hk_add (x := i) (y := 1) (a := i.toInt) (b := 1) rfl rfl (by omega) (by omega)
    rw [q_v1]
    obtain ⟨s2, q_s2⟩ : ∃ v_, xs (v1).toNatClampNeg = v_ := ⟨_, rfl⟩
    have := hk_rng s2
    refine hk_scr (v := s2) rfl (by omega) (by omega) q_s2 ?_
    refine qm_Ru.go 4 (c' := (1597, [.retAddr 0, .ref 0, .ref 118, .int i], [.int (i + 2), .retAddr 0, .int s2, .ref 0], h)) rfl ?_
    obtain ⟨v3, q_v3, e_v3⟩ := hk_add (x := i) (y := 2) (a := i.toInt) (b := 2) rfl rfl (by omega) (by omega)
    rw [q_v3]
    obtain ⟨s4, q_s4⟩ : ∃ v_, xs (v3).toNatClampNeg = v_ := ⟨_, rfl⟩
    have := hk_rng s4
    refine hk_scr (v := s4) rfl (by omega) (by omega) q_s4 ?_
    refine qm_Ru.go 4 (c' := (1602, [.retAddr 0, .ref 0, .ref 118, .int i], [.int (i + 3), .retAddr 0, .int s4, .int s2, .ref 0], h)) rfl ?_
    obtain ⟨v5, q_v5, e_v5⟩ := hk_add (x := i) (y := 3) (a := i.toInt) (b := 3) rfl rfl (by omega) (by omega)
    rw [q_v5]
    obtain ⟨s6, q_s6⟩ : ∃ v_, xs (v5).toNatClampNeg = v_ := ⟨_, rfl⟩
    have := hk_rng s6
    refine hk_scr (v := s6) rfl (by omega) (by omega) q_s6 ?_
    refine qm_Ru.go 0 (c' := (1603, [.retAddr 0, .ref 0, .ref 118, .int i], [.int s6, .int s4, .int s2, .ref 0], h)) rfl ?_
    have hIg : qa_Inv qp_a gS h := qa_Inv_of ⟨j1, j3⟩ t hB hS.1 (gS_ru hS.1)
    have hn0 : (h.2.1 51 2).toInt = (h.2.1 118 75).toInt := congrArg Int32.toInt hZ.2.2.2.1.1.1
    have hb0 : (h.2.1 6 0).toInt = (h.2.1 118 44).toInt := hZ.2.1.2.1.2
    have hB0 : (h.2.1 29 0).toInt = (h.2.1 127 0).toInt := hm.2.1
    have hs0 : h.2.1 118 18 = 0 := hk_eqi.mpr (hm.1.trans (by decide))
    have hB5 : 2 ≤ (h.2.1 29 0).toInt ∧ (h.2.1 29 0).toInt ≤ 5 := hB 29 0
    have hn40 := hZ.2.2.2.2.1.1.1
    refine hk_inv (o := 0) (r := []) (as := [.ref 0, .int s2, .int s4, .int s6]) rfl rfl (hH.1 0 (16, 10) rfl) rfl rfl rfl rfl (hz_cju29 (h := h) h6 hIg (by omega) (fun I1 w1 hI1 q1 => ?_))
    rcases q1 with ⟨nc, e1, rfl⟩ | ⟨hc, e1, n2, en2, q1⟩
    · obtain rfl : w1 = -1 := hk_eqi.mpr e1
      refine qm_Ru.go 6 (c' := (1612, [.retAddr 0, .ref 0, .ref 118, .int i], [.int (i + 1), .retAddr 0, .ref 118], h)) rfl ?_
      rw [q_v1]
      refine hk_scr (v := s2) rfl (by omega) (by omega) q_s2 ?_
      refine qm_Ru.go 4 (c' := (1617, [.retAddr 0, .ref 0, .ref 118, .int i], [.int (i + 2), .retAddr 0, .int s2, .ref 118], h)) rfl ?_
      rw [q_v3]
      refine hk_scr (v := s4) rfl (by omega) (by omega) q_s4 ?_
      refine qm_Ru.go 4 (c' := (1622, [.retAddr 0, .ref 0, .ref 118, .int i], [.int (i + 3), .retAddr 0, .int s4, .int s2, .ref 118], h)) rfl ?_
      rw [q_v5]
      refine hk_scr (v := s6) rfl (by omega) (by omega) q_s6 ?_
      refine qm_Ru.go 0 (c' := (1623, [.retAddr 0, .ref 0, .ref 118, .int i], [.int s6, .int s4, .int s2, .ref 118], h)) rfl ?_
      refine hk_inv (o := 118) (r := []) (as := [.ref 118, .int s2, .int s4, .int s6]) rfl rfl (hH.1 118 (17, 105) rfl) rfl rfl rfl rfl (hz_rju0 (h := h) h6 hIg (hs0) (by rw [← hB0]; exact hB5) (by omega) (fun I2 w2 hI2 q2 => ?_))
      rw [← hn0, ← hB0] at q2
      rcases q2 with ⟨nd, e2, q2⟩ | ⟨hd, e2, m2, em2, q2⟩
      · subst q2
        obtain rfl : w2 = -1 := hk_eqi.mpr e2
        refine qm_Ru.go 3 (c' := (2081, [.retAddr 0, .ref 0, .ref 118, .int (i + 6)], [], h)) rfl ?_
        obtain ⟨v10, q_v10, e_v10⟩ := hk_add (x := i) (y := 6) (a := i.toInt) (b := 6) rfl rfl (by omega) (by omega)
        rw [q_v10]
        refine qm_Ru.go 1 (c' := (18, [.retAddr 0, .ref 0, .ref 118, .int v10], [], h)) rfl ?_
        exact hE _ v10 (by omega) (qa_Inv_of0 ⟨hH.1, hH.2⟩ hB ⟨⟨hSX, hZ⟩, Or.inl t⟩ (gS_ru hSX.1.1))
      · exact absurd hd nc
    · have hk9 : (h.2.1 118 75).toInt.toNat < 40 := by unfold juC at hc; omega
      rw [hn0] at q1 en2
      have x1 : ∀ o, o ≠ 51 → o ≠ 53 + (h.2.1 118 75).toInt.toNat → I1 o = h.2.1 o := fun o o1 o2 => by rw [q1]; exact adC_o o1 o2
      have x118 : I1 118 = h.2.1 118 := x1 118 (by decide) (by omega)
      have x127 : I1 127 = h.2.1 127 := x1 127 (by decide) (by omega)
      refine qm_Ru.go 6 (c' := (1612, [.retAddr 0, .ref 0, .ref 118, .int i], [.int (i + 1), .retAddr 0, .ref 118], (h.1, I1, h.2.2.1, h.2.2.2))) rfl ?_
      rw [q_v1]
      refine hk_scr (v := s2) rfl (by omega) (by omega) q_s2 ?_
      refine qm_Ru.go 4 (c' := (1617, [.retAddr 0, .ref 0, .ref 118, .int i], [.int (i + 2), .retAddr 0, .int s2, .ref 118], (h.1, I1, h.2.2.1, h.2.2.2))) rfl ?_
      rw [q_v3]
      refine hk_scr (v := s4) rfl (by omega) (by omega) q_s4 ?_
      refine qm_Ru.go 4 (c' := (1622, [.retAddr 0, .ref 0, .ref 118, .int i], [.int (i + 3), .retAddr 0, .int s4, .int s2, .ref 118], (h.1, I1, h.2.2.1, h.2.2.2))) rfl ?_
      rw [q_v5]
      refine hk_scr (v := s6) rfl (by omega) (by omega) q_s6 ?_
      refine qm_Ru.go 0 (c' := (1623, [.retAddr 0, .ref 0, .ref 118, .int i], [.int s6, .int s4, .int s2, .ref 118], (h.1, I1, h.2.2.1, h.2.2.2))) rfl ?_
      refine hk_inv (o := 118) (r := []) (as := [.ref 118, .int s2, .int s4, .int s6]) rfl rfl (hH.1 118 (17, 105) rfl) rfl rfl rfl rfl (hz_rju0 (h := (h.1, I1, h.2.2.1, h.2.2.2)) h6 hI1 (show I1 118 18 = 0 from by rw [x118]; exact hs0) (show 2 ≤ (I1 127 0).toInt ∧ (I1 127 0).toInt ≤ 5 from by rw [x127, ← hB0]; exact hB5) (by omega) (fun I2 w2 hI2 q2 => ?_))
      dsimp only at q2
      rw [x118, x127] at q2
      rw [← hn0, ← hB0] at q2
      rcases q2 with ⟨nd, e2, q2⟩ | ⟨hd, e2, m2, em2, q2⟩
      · exact absurd hc nd
      · have ev : w1 = w2 := hk_eqi.mpr (e1.trans e2.symm)
        subst ev
        refine qm_Ru.go 3 (c' := (2081, [.retAddr 0, .ref 0, .ref 118, .int (i + 6)], [], (h.1, I2, h.2.2.1, h.2.2.2))) rfl ?_
        obtain ⟨v14, q_v14, e_v14⟩ := hk_add (x := i) (y := 6) (a := i.toInt) (b := 6) rfl rfl (by omega) (by omega)
        rw [q_v14]
        refine qm_Ru.go 1 (c' := (18, [.retAddr 0, .ref 0, .ref 118, .int v14], [], (h.1, I2, h.2.2.1, h.2.2.2))) rfl ?_
        have ek : ((h.2.1 118 75).toInt.toNat : Int) = (h.2.1 118 75).toInt := by omega
        have q2 : I2 = adR (adC h.2.1 (h.2.1 118 75).toInt.toNat (-1) s2 s4 s6 n2) (h.2.1 118 75).toInt.toNat 1 s6 s2 s4 m2 := by rw [q2, q1, hn0]
        have hg : gJ tb I2 := by
          rw [q2]
          exact gJ_add hZ.2.2.2 ek.symm hk9 (by omega) (by omega) (by unfold juC at hc; omega) (fun z => absurd z (by decide)) (fun _ => ⟨rfl, rfl⟩)
        have he := ad_e (I := h.2.1) (r0 := (-1)) (y := s2) (x := s4) (r3 := s6) (n2 := n2) (kd := 1) (a := s6) (m2 := m2) hk9
        rw [← q2] at he
        have hS4 : (gS4B tb) (h.1, I2, h.2.2.1, h.2.2.2) := gS4_j (J := h.2.2.1) ⟨hSX, hZ⟩ he.1 he.2 hSX.2.2 hg
        exact hE _ v14 (by omega) (qa_Inv_of0 ⟨hH.1, hH.2⟩ hI2.2.1 ⟨hS4, Or.inl t⟩ (gS_ru hS4.1.1.1))
  · have hm := gZ_b hZ t.2
    have hi := zI_of (Or.inr ⟨rfl, rfl⟩) hB hS.1 hZ.2.1 hm
    refine qm_Ru.go 5 (c' := (1592, [.retAddr 0, .ref 0, .ref 118, .int i], [.int (i + 1), .retAddr 0, .ref 0], h)) rfl ?_
    obtain ⟨v1, q_v1, e_v1⟩ := hk_add (x := i) (y := 1) (a := i.toInt) (b := 1) rfl rfl (by omega) (by omega)
    rw [q_v1]
    obtain ⟨s2, q_s2⟩ : ∃ v_, xs (v1).toNatClampNeg = v_ := ⟨_, rfl⟩
    have := hk_rng s2
    refine hk_scr (v := s2) rfl (by omega) (by omega) q_s2 ?_
    refine qm_Ru.go 4 (c' := (1597, [.retAddr 0, .ref 0, .ref 118, .int i], [.int (i + 2), .retAddr 0, .int s2, .ref 0], h)) rfl ?_
    obtain ⟨v3, q_v3, e_v3⟩ := hk_add (x := i) (y := 2) (a := i.toInt) (b := 2) rfl rfl (by omega) (by omega)
    rw [q_v3]
    obtain ⟨s4, q_s4⟩ : ∃ v_, xs (v3).toNatClampNeg = v_ := ⟨_, rfl⟩
    have := hk_rng s4
    refine hk_scr (v := s4) rfl (by omega) (by omega) q_s4 ?_
    refine qm_Ru.go 4 (c' := (1602, [.retAddr 0, .ref 0, .ref 118, .int i], [.int (i + 3), .retAddr 0, .int s4, .int s2, .ref 0], h)) rfl ?_
    obtain ⟨v5, q_v5, e_v5⟩ := hk_add (x := i) (y := 3) (a := i.toInt) (b := 3) rfl rfl (by omega) (by omega)
    rw [q_v5]
    obtain ⟨s6, q_s6⟩ : ∃ v_, xs (v5).toNatClampNeg = v_ := ⟨_, rfl⟩
    have := hk_rng s6
    refine hk_scr (v := s6) rfl (by omega) (by omega) q_s6 ?_
    refine qm_Ru.go 0 (c' := (1603, [.retAddr 0, .ref 0, .ref 118, .int i], [.int s6, .int s4, .int s2, .ref 0], h)) rfl ?_
    have hIg : qa_Inv qp_b gS h := qa_Inv_of ⟨j1, j3⟩ t hB hS.1 (gS_ru hS.1)
    have hn0 : (h.2.1 51 2).toInt = (h.2.1 118 75).toInt := congrArg Int32.toInt hZ.2.2.2.1.1.1
    have hb0 : (h.2.1 6 0).toInt = (h.2.1 118 44).toInt := hZ.2.1.2.1.2
    have hB0 : (h.2.1 111 0).toInt = (h.2.1 127 1).toInt := hm.2.1
    have hs0 : h.2.1 118 18 = 1 := hk_eqi.mpr (hm.1.trans (by decide))
    have hB5 : 2 ≤ (h.2.1 111 0).toInt ∧ (h.2.1 111 0).toInt ≤ 5 := hB 111 0
    have hn40 := hZ.2.2.2.2.1.1.1
    refine hk_inv (o := 0) (r := []) (as := [.ref 0, .int s2, .int s4, .int s6]) rfl rfl (hH.1 0 (16, 10) rfl) rfl rfl rfl rfl (hz_cju111 (h := h) h6 hIg (by omega) (fun I1 w1 hI1 q1 => ?_))
    rcases q1 with ⟨nc, e1, rfl⟩ | ⟨hc, e1, n2, en2, q1⟩
    · obtain rfl : w1 = -1 := hk_eqi.mpr e1
      refine qm_Ru.go 6 (c' := (1612, [.retAddr 0, .ref 0, .ref 118, .int i], [.int (i + 1), .retAddr 0, .ref 118], h)) rfl ?_
      rw [q_v1]
      refine hk_scr (v := s2) rfl (by omega) (by omega) q_s2 ?_
      refine qm_Ru.go 4 (c' := (1617, [.retAddr 0, .ref 0, .ref 118, .int i], [.int (i + 2), .retAddr 0, .int s2, .ref 118], h)) rfl ?_
      rw [q_v3]
      refine hk_scr (v := s4) rfl (by omega) (by omega) q_s4 ?_
      refine qm_Ru.go 4 (c' := (1622, [.retAddr 0, .ref 0, .ref 118, .int i], [.int (i + 3), .retAddr 0, .int s4, .int s2, .ref 118], h)) rfl ?_
      rw [q_v5]
      refine hk_scr (v := s6) rfl (by omega) (by omega) q_s6 ?_
      refine qm_Ru.go 0 (c' := (1623, [.retAddr 0, .ref 0, .ref 118, .int i], [.int s6, .int s4, .int s2, .ref 118], h)) rfl ?_
      refine hk_inv (o := 118) (r := []) (as := [.ref 118, .int s2, .int s4, .int s6]) rfl rfl (hH.1 118 (17, 105) rfl) rfl rfl rfl rfl (hz_rju1 (h := h) h6 hIg (hs0) (by rw [← hB0]; exact hB5) (by omega) (fun I2 w2 hI2 q2 => ?_))
      rw [← hn0, ← hB0] at q2
      rcases q2 with ⟨nd, e2, q2⟩ | ⟨hd, e2, m2, em2, q2⟩
      · subst q2
        obtain rfl : w2 = -1 := hk_eqi.mpr e2
        refine qm_Ru.go 3 (c' := (2081, [.retAddr 0, .ref 0, .ref 118, .int (i + 6)], [], h)) rfl ?_
        obtain ⟨v10, q_v10, e_v10⟩ := hk_add (x := i) (y := 6) (a := i.toInt) (b := 6) rfl rfl (by omega) (by omega)
        rw [q_v10]
        refine qm_Ru.go 1 (c' := (18, [.retAddr 0, .ref 0, .ref 118, .int v10], [], h)) rfl ?_
        exact hE _ v10 (by omega) (qa_Inv_of0 ⟨hH.1, hH.2⟩ hB ⟨⟨hSX, hZ⟩, Or.inr t⟩ (gS_ru hSX.1.1))
      · exact absurd hd nc
    · have hk9 : (h.2.1 118 75).toInt.toNat < 40 := by unfold juC at hc; omega
      rw [hn0] at q1 en2
      have x1 : ∀ o, o ≠ 51 → o ≠ 53 + (h.2.1 118 75).toInt.toNat → I1 o = h.2.1 o := fun o o1 o2 => by rw [q1]; exact adC_o o1 o2
      have x118 : I1 118 = h.2.1 118 := x1 118 (by decide) (by omega)
      have x127 : I1 127 = h.2.1 127 := x1 127 (by decide) (by omega)
      refine qm_Ru.go 6 (c' := (1612, [.retAddr 0, .ref 0, .ref 118, .int i], [.int (i + 1), .retAddr 0, .ref 118], (h.1, I1, h.2.2.1, h.2.2.2))) rfl ?_
      rw [q_v1]
      refine hk_scr (v := s2) rfl (by omega) (by omega) q_s2 ?_
      refine qm_Ru.go 4 (c' := (1617, [.retAddr 0, .ref 0, .ref 118, .int i], [.int (i + 2), .retAddr 0, .int s2, .ref 118], (h.1, I1, h.2.2.1, h.2.2.2))) rfl ?_
      rw [q_v3]
      refine hk_scr (v := s4) rfl (by omega) (by omega) q_s4 ?_
      refine qm_Ru.go 4 (c' := (1622, [.retAddr 0, .ref 0, .ref 118, .int i], [.int (i + 3), .retAddr 0, .int s4, .int s2, .ref 118], (h.1, I1, h.2.2.1, h.2.2.2))) rfl ?_
      rw [q_v5]
      refine hk_scr (v := s6) rfl (by omega) (by omega) q_s6 ?_
      refine qm_Ru.go 0 (c' := (1623, [.retAddr 0, .ref 0, .ref 118, .int i], [.int s6, .int s4, .int s2, .ref 118], (h.1, I1, h.2.2.1, h.2.2.2))) rfl ?_
      refine hk_inv (o := 118) (r := []) (as := [.ref 118, .int s2, .int s4, .int s6]) rfl rfl (hH.1 118 (17, 105) rfl) rfl rfl rfl rfl (hz_rju1 (h := (h.1, I1, h.2.2.1, h.2.2.2)) h6 hI1 (show I1 118 18 = 1 from by rw [x118]; exact hs0) (show 2 ≤ (I1 127 1).toInt ∧ (I1 127 1).toInt ≤ 5 from by rw [x127, ← hB0]; exact hB5) (by omega) (fun I2 w2 hI2 q2 => ?_))
      dsimp only at q2
      rw [x118, x127] at q2
      rw [← hn0, ← hB0] at q2
      rcases q2 with ⟨nd, e2, q2⟩ | ⟨hd, e2, m2, em2, q2⟩
      · exact absurd hc nd
      · have ev : w1 = w2 := hk_eqi.mpr (e1.trans e2.symm)
        subst ev
        refine qm_Ru.go 3 (c' := (2081, [.retAddr 0, .ref 0, .ref 118, .int (i + 6)], [], (h.1, I2, h.2.2.1, h.2.2.2))) rfl ?_
        obtain ⟨v14, q_v14, e_v14⟩ := hk_add (x := i) (y := 6) (a := i.toInt) (b := 6) rfl rfl (by omega) (by omega)
        rw [q_v14]
        refine qm_Ru.go 1 (c' := (18, [.retAddr 0, .ref 0, .ref 118, .int v14], [], (h.1, I2, h.2.2.1, h.2.2.2))) rfl ?_
        have ek : ((h.2.1 118 75).toInt.toNat : Int) = (h.2.1 118 75).toInt := by omega
        have q2 : I2 = adR (adC h.2.1 (h.2.1 118 75).toInt.toNat (-1) s2 s4 s6 n2) (h.2.1 118 75).toInt.toNat 1 s6 s2 s4 m2 := by rw [q2, q1, hn0]
        have hg : gJ tb I2 := by
          rw [q2]
          exact gJ_add hZ.2.2.2 ek.symm hk9 (by omega) (by omega) (by unfold juC at hc; omega) (fun z => absurd z (by decide)) (fun _ => ⟨rfl, rfl⟩)
        have he := ad_e (I := h.2.1) (r0 := (-1)) (y := s2) (x := s4) (r3 := s6) (n2 := n2) (kd := 1) (a := s6) (m2 := m2) hk9
        rw [← q2] at he
        have hS4 : (gS4B tb) (h.1, I2, h.2.2.1, h.2.2.2) := gS4_j (J := h.2.2.1) ⟨hSX, hZ⟩ he.1 he.2 hSX.2.2 hg
        exact hE _ v14 (by omega) (qa_Inv_of0 ⟨hH.1, hH.2⟩ hI2.2.1 ⟨hS4, Or.inr t⟩ (gS_ru hS4.1.1.1))
theorem qv_44 {L : Nat} {xs : Nat → Int32} {Z : Option Value → qm_H → Prop} (h6 : 6 ≤ L) (hl : L ≤ 3072) (h9 : tb ≤ 900000000) : qv_PB tb (tb + 200) L xs Z 44 := by
  intro i h i0 i1 hI hE
  obtain ⟨j1, hB, j3, ⟨⟨hSX, hZ⟩, t⟩, -⟩ := hI
  have hS := hSX.1
  have hH : hk_H h := ⟨j1, j3⟩
  have b_i : 0 ≤ i.toInt ∧ i.toInt ≤ 3066 := by omega
  show qm_Ru (some (L, xs)) 300 cd_law (1630, [.retAddr 0, .ref 0, .ref 118, .int i], [], h) Z
  rcases t with t | t
  · have hm := gZ_a hZ t.2
    have hi := zI_of (Or.inl ⟨rfl, rfl⟩) hB hS.1 hZ.2.1 hm
    refine qm_Ru.go 5 (c' := (1635, [.retAddr 0, .ref 0, .ref 118, .int i], [.int (i + 1), .retAddr 0, .ref 0], h)) rfl ?_
    obtain ⟨v1, q_v1, e_v1⟩ := hk_add (x := i) (y := 1) (a := i.toInt) (b := 1) rfl rfl (by omega) (by omega)
    rw [q_v1]
    obtain ⟨s2, q_s2⟩ : ∃ v_, xs (v1).toNatClampNeg = v_ := ⟨_, rfl⟩
    have := hk_rng s2
    refine hk_scr (v := s2) rfl (by omega) (by omega) q_s2 ?_
    refine qm_Ru.go 0 (c' := (1636, [.retAddr 0, .ref 0, .ref 118, .int i], [.int s2, .ref 0], h)) rfl ?_
    have hIg : qa_Inv qp_a gS h := qa_Inv_of ⟨j1, j3⟩ t hB hS.1 (gS_ru hS.1)
    have jp := jP_of hi hm hZ
    have jb : 0 ≤ (h.2.1 118 85).toInt ∧ (h.2.1 118 85).toInt ≤ tb := hZ.2.2.2.2.2
    have jw := jWk_P (n := s2) jp (show (h.2.1 118 85).toInt ≤ 900000000 by omega)
    have jw2 : ((jWk 0 (pI h.2.1, h.2.1) s2).2 118 85).toInt ≤ (h.2.1 118 85).toInt + 200 := jw.2
    refine hk_inv (o := 0) (r := []) (as := [.ref 0, .int s2]) rfl rfl (hH.1 0 (16, 10) rfl) rfl rfl rfl rfl (hz_cwork29 (h := h) h6 hIg hi hm hZ h9 (by omega) (fun I1 w1 hI1 f1 g1 zc1 zj1 a1 => ?_))
    refine qm_Ru.go 6 (c' := (1645, [.retAddr 0, .ref 0, .ref 118, .int i], [.int (i + 1), .retAddr 0, .ref 118], (h.1, I1, h.2.2.1, h.2.2.2))) rfl ?_
    rw [q_v1]
    refine hk_scr (v := s2) rfl (by omega) (by omega) q_s2 ?_
    refine qm_Ru.go 0 (c' := (1646, [.retAddr 0, .ref 0, .ref 118, .int i], [.int s2, .ref 118], (h.1, I1, h.2.2.1, h.2.2.2))) rfl ?_
    have bq : (0 ≤ (I1 118 93).toInt ∧ (I1 118 93).toInt ≤ 500) ∧ (0 ≤ (I1 118 94).toInt ∧ (I1 118 94).toInt ≤ 500) := by
      rw [f1 118 (by decide) rfl 93, f1 118 (by decide) rfl 94, ← hZ.2.2.2.1.1.2.2.2.2.1, ← hZ.2.2.2.1.1.2.2.2.2.2]
      exact ⟨hB 51 11, hB 51 12⟩
    refine hk_inv (o := 118) (r := []) (as := [.ref 118, .int s2]) rfl rfl (hH.1 118 (17, 105) rfl) rfl rfl rfl rfl (hz_rwork0 (h := (h.1, I1, h.2.2.1, h.2.2.2)) (p := (pI h.2.1, h.2.1)) h6 hI1 jp (zR_k (zR_I h.2.1) f1) (jEq_k f1) (show (h.2.1 118 85).toInt ≤ 900000000 by omega) bq (by omega) (fun I2 w2 hI2 f2 f8 zr2 je2 a2 => ?_))
    have a2 : (0 ≤ s2.toInt ∧ s2.toInt ≤ 200) ∧ w2 = I2 181 0 + I2 181 1 - (I1 181 0 + I1 181 1) ∨ ¬ (0 ≤ s2.toInt ∧ s2.toInt ≤ 200) ∧ w2 = -1 := a2
    have ev : w1 = w2 := by
      rcases a1 with ⟨q, a⟩ | ⟨q, a⟩
      · rcases a2 with ⟨-, b⟩ | ⟨q2, -⟩
        · rw [a, b, (zj1.2.1 0 (by decide)).2.2.2.2, (zj1.2.1 1 (by decide)).2.2.2.2, je2.1 181 (by decide) (by decide), (hZ.2.2.2.1.2.1 0 (by decide)).2.2.2.2, (hZ.2.2.2.1.2.1 1 (by decide)).2.2.2.2, f1 181 (by decide) rfl 0, f1 181 (by decide) rfl 1]
        · exact absurd q q2
      · rcases a2 with ⟨q2, -⟩ | ⟨-, b⟩
        · exact absurd q2 q
        · rw [a, b]
    subst ev
    refine qm_Ru.go 3 (c' := (2081, [.retAddr 0, .ref 0, .ref 118, .int (i + 6)], [], (h.1, I2, h.2.2.1, h.2.2.2))) rfl ?_
    obtain ⟨v4, q_v4, e_v4⟩ := hk_add (x := i) (y := 6) (a := i.toInt) (b := 6) rfl rfl (by omega) (by omega)
    rw [q_v4]
    refine qm_Ru.go 1 (c' := (18, [.retAddr 0, .ref 0, .ref 118, .int v4], [], (h.1, I2, h.2.2.1, h.2.2.2))) rfl ?_
    have hg : gJ (tb + 200) I2 := gJ_work zj1 je2 jw.1.2.2.2.1 ⟨jw.1.2.2.2.2, by omega⟩ f2
    have hS4 : gS4B (tb + 200) (h.1, I2, h.2.2.1, h.2.2.2) := gz_work hSX hZ hI2.2.2.2.1 hSX.2.2 f1 f2 f8 zc1 zr2 jw.1.2.1 hg
    exact hE _ v4 (by omega) (qa_Inv_of0 ⟨hH.1, hH.2⟩ hI2.2.1 ⟨hS4, Or.inl t⟩ (gS_ru hS4.1.1.1))
  · have hm := gZ_b hZ t.2
    have hi := zI_of (Or.inr ⟨rfl, rfl⟩) hB hS.1 hZ.2.1 hm
    refine qm_Ru.go 5 (c' := (1635, [.retAddr 0, .ref 0, .ref 118, .int i], [.int (i + 1), .retAddr 0, .ref 0], h)) rfl ?_
    obtain ⟨v1, q_v1, e_v1⟩ := hk_add (x := i) (y := 1) (a := i.toInt) (b := 1) rfl rfl (by omega) (by omega)
    rw [q_v1]
    obtain ⟨s2, q_s2⟩ : ∃ v_, xs (v1).toNatClampNeg = v_ := ⟨_, rfl⟩
    have := hk_rng s2
    refine hk_scr (v := s2) rfl (by omega) (by omega) q_s2 ?_
    refine qm_Ru.go 0 (c' := (1636, [.retAddr 0, .ref 0, .ref 118, .int i], [.int s2, .ref 0], h)) rfl ?_
    have hIg : qa_Inv qp_b gS h := qa_Inv_of ⟨j1, j3⟩ t hB hS.1 (gS_ru hS.1)
    have jp := jP_of hi hm hZ
    have jb : 0 ≤ (h.2.1 118 85).toInt ∧ (h.2.1 118 85).toInt ≤ tb := hZ.2.2.2.2.2
    have jw := jWk_P (n := s2) jp (show (h.2.1 118 85).toInt ≤ 900000000 by omega)
    have jw2 : ((jWk 1 (pI h.2.1, h.2.1) s2).2 118 85).toInt ≤ (h.2.1 118 85).toInt + 200 := jw.2
    refine hk_inv (o := 0) (r := []) (as := [.ref 0, .int s2]) rfl rfl (hH.1 0 (16, 10) rfl) rfl rfl rfl rfl (hz_cwork111 (h := h) h6 hIg hi hm hZ h9 (by omega) (fun I1 w1 hI1 f1 g1 zc1 zj1 a1 => ?_))
    refine qm_Ru.go 6 (c' := (1645, [.retAddr 0, .ref 0, .ref 118, .int i], [.int (i + 1), .retAddr 0, .ref 118], (h.1, I1, h.2.2.1, h.2.2.2))) rfl ?_
    rw [q_v1]
    refine hk_scr (v := s2) rfl (by omega) (by omega) q_s2 ?_
    refine qm_Ru.go 0 (c' := (1646, [.retAddr 0, .ref 0, .ref 118, .int i], [.int s2, .ref 118], (h.1, I1, h.2.2.1, h.2.2.2))) rfl ?_
    have bq : (0 ≤ (I1 118 93).toInt ∧ (I1 118 93).toInt ≤ 500) ∧ (0 ≤ (I1 118 94).toInt ∧ (I1 118 94).toInt ≤ 500) := by
      rw [f1 118 (by decide) rfl 93, f1 118 (by decide) rfl 94, ← hZ.2.2.2.1.1.2.2.2.2.1, ← hZ.2.2.2.1.1.2.2.2.2.2]
      exact ⟨hB 51 11, hB 51 12⟩
    refine hk_inv (o := 118) (r := []) (as := [.ref 118, .int s2]) rfl rfl (hH.1 118 (17, 105) rfl) rfl rfl rfl rfl (hz_rwork1 (h := (h.1, I1, h.2.2.1, h.2.2.2)) (p := (pI h.2.1, h.2.1)) h6 hI1 jp (zR_k (zR_I h.2.1) f1) (jEq_k f1) (show (h.2.1 118 85).toInt ≤ 900000000 by omega) bq (by omega) (fun I2 w2 hI2 f2 f8 zr2 je2 a2 => ?_))
    have a2 : (0 ≤ s2.toInt ∧ s2.toInt ≤ 200) ∧ w2 = I2 181 0 + I2 181 1 - (I1 181 0 + I1 181 1) ∨ ¬ (0 ≤ s2.toInt ∧ s2.toInt ≤ 200) ∧ w2 = -1 := a2
    have ev : w1 = w2 := by
      rcases a1 with ⟨q, a⟩ | ⟨q, a⟩
      · rcases a2 with ⟨-, b⟩ | ⟨q2, -⟩
        · rw [a, b, (zj1.2.1 0 (by decide)).2.2.2.2, (zj1.2.1 1 (by decide)).2.2.2.2, je2.1 181 (by decide) (by decide), (hZ.2.2.2.1.2.1 0 (by decide)).2.2.2.2, (hZ.2.2.2.1.2.1 1 (by decide)).2.2.2.2, f1 181 (by decide) rfl 0, f1 181 (by decide) rfl 1]
        · exact absurd q q2
      · rcases a2 with ⟨q2, -⟩ | ⟨-, b⟩
        · exact absurd q2 q
        · rw [a, b]
    subst ev
    refine qm_Ru.go 3 (c' := (2081, [.retAddr 0, .ref 0, .ref 118, .int (i + 6)], [], (h.1, I2, h.2.2.1, h.2.2.2))) rfl ?_
    obtain ⟨v4, q_v4, e_v4⟩ := hk_add (x := i) (y := 6) (a := i.toInt) (b := 6) rfl rfl (by omega) (by omega)
    rw [q_v4]
    refine qm_Ru.go 1 (c' := (18, [.retAddr 0, .ref 0, .ref 118, .int v4], [], (h.1, I2, h.2.2.1, h.2.2.2))) rfl ?_
    have hg : gJ (tb + 200) I2 := gJ_work zj1 je2 jw.1.2.2.2.1 ⟨jw.1.2.2.2.2, by omega⟩ f2
    have hS4 : gS4B (tb + 200) (h.1, I2, h.2.2.1, h.2.2.2) := gz_work hSX hZ hI2.2.2.2.1 hSX.2.2 f1 f2 f8 zc1 zr2 jw.1.2.1 hg
    exact hE _ v4 (by omega) (qa_Inv_of0 ⟨hH.1, hH.2⟩ hI2.2.1 ⟨hS4, Or.inr t⟩ (gS_ru hS4.1.1.1))
theorem qv_47 {L : Nat} {xs : Nat → Int32} {Z : Option Value → qm_H → Prop} (h6 : 6 ≤ L) (hl : L ≤ 3072) : qv_PB tb tb L xs Z 47 := by
  intro i h i0 i1 hI hE
  obtain ⟨j1, hB, j3, ⟨⟨hSX, hZ⟩, t⟩, -⟩ := hI
  have hH : hk_H h := ⟨j1, j3⟩
  have b_i : 0 ≤ i.toInt ∧ i.toInt ≤ 3066 := by omega
  show qm_Ru (some (L, xs)) 300 cd_law (1719, [.retAddr 0, .ref 0, .ref 118, .int i], [], h) Z
  refine qm_Ru.go 5 (c' := (1724, [.retAddr 0, .ref 0, .ref 118, .int i], [.int (i + 1), .retAddr 0, .ref 0], h)) rfl ?_
  obtain ⟨v1, q_v1, e_v1⟩ := hk_add (x := i) (y := 1) (a := i.toInt) (b := 1) rfl rfl (by omega) (by omega)
  rw [q_v1]
  obtain ⟨s2, q_s2⟩ : ∃ v_, xs (v1).toNatClampNeg = v_ := ⟨_, rfl⟩
  have := hk_rng s2
  refine hk_scr (v := s2) rfl (by omega) (by omega) q_s2 ?_
  refine qm_Ru.go 4 (c' := (1729, [.retAddr 0, .ref 0, .ref 118, .int i], [.int (i + 2), .retAddr 0, .int s2, .ref 0], h)) rfl ?_
  obtain ⟨v3, q_v3, e_v3⟩ := hk_add (x := i) (y := 2) (a := i.toInt) (b := 2) rfl rfl (by omega) (by omega)
  rw [q_v3]
  obtain ⟨s4, q_s4⟩ : ∃ v_, xs (v3).toNatClampNeg = v_ := ⟨_, rfl⟩
  have := hk_rng s4
  refine hk_scr (v := s4) rfl (by omega) (by omega) q_s4 ?_
  refine qm_Ru.go 0 (c' := (1730, [.retAddr 0, .ref 0, .ref 118, .int i], [.int s4, .int s2, .ref 0], h)) rfl ?_
  refine hk_inv (o := 0) (r := []) (as := [.ref 0, .int s2, .int s4]) rfl rfl (hH.1 0 (16, 10) rfl) rfl rfl rfl rfl ?_
  refine qm_Ru.go 1 (c' := (1, [.ref 0, .int s2, .int s4], [.int s2], h)) rfl ?_
  refine hk_zlt (ix := s2.toInt) rfl rfl (fun z5 => ?_) (fun z5 => ?_)
  · refine qm_Ru.go 1 (c' := (17, [.ref 0, .int s2, .int s4], [.int 0], h)) rfl ?_
    refine qm_Ru.rt (v := (some (.int 0))) (h' := h) rfl ?_
    refine qm_Ru.go 6 (c' := (1739, [.retAddr 0, .ref 0, .ref 118, .int i], [.int (i + 1), .retAddr 0, .ref 118], h)) rfl ?_
    rw [q_v1]
    refine hk_scr (v := s2) rfl (by omega) (by omega) q_s2 ?_
    refine qm_Ru.go 4 (c' := (1744, [.retAddr 0, .ref 0, .ref 118, .int i], [.int (i + 2), .retAddr 0, .int s2, .ref 118], h)) rfl ?_
    rw [q_v3]
    refine hk_scr (v := s4) rfl (by omega) (by omega) q_s4 ?_
    refine qm_Ru.go 0 (c' := (1745, [.retAddr 0, .ref 0, .ref 118, .int i], [.int s4, .int s2, .ref 118], h)) rfl ?_
    refine hk_inv (o := 118) (r := []) (as := [.ref 118, .int s2, .int s4]) rfl rfl (hH.1 118 (17, 105) rfl) rfl rfl rfl rfl ?_
    refine qm_Ru.go 1 (c' := (1, [.ref 118, .int s2, .int s4], [.int s2], h)) rfl ?_
    refine hk_zlt (ix := s2.toInt) rfl rfl (fun z8 => ?_) (fun z8 => by exfalso; omega)
    refine qm_Ru.go 1 (c' := (17, [.ref 118, .int s2, .int s4], [.int 0], h)) rfl ?_
    refine qm_Ru.rt (v := (some (.int 0))) (h' := h) rfl ?_
    refine qm_Ru.go 3 (c' := (2081, [.retAddr 0, .ref 0, .ref 118, .int (i + 6)], [], h)) rfl ?_
    obtain ⟨v9, q_v9, e_v9⟩ := hk_add (x := i) (y := 6) (a := i.toInt) (b := 6) rfl rfl (by omega) (by omega)
    rw [q_v9]
    refine qm_Ru.go 1 (c' := (18, [.retAddr 0, .ref 0, .ref 118, .int v9], [], h)) rfl ?_
    exact hE _ v9 (by omega) (qa_Inv_of0 ⟨hH.1, hH.2⟩ hB ⟨⟨hSX, hZ⟩, t⟩ (gS_ru hSX.1.1))
  · refine qm_Ru.go 2 (c' := (6, [.ref 0, .int s2, .int s4], [.int s2, .int s4], h)) rfl ?_
    refine hk_clt (ix := s4.toInt) (iy := s2.toInt) rfl rfl rfl (fun z10 => ?_) (fun z10 => ?_)
    · refine qm_Ru.go 1 (c' := (17, [.ref 0, .int s2, .int s4], [.int 0], h)) rfl ?_
      refine qm_Ru.rt (v := (some (.int 0))) (h' := h) rfl ?_
      refine qm_Ru.go 6 (c' := (1739, [.retAddr 0, .ref 0, .ref 118, .int i], [.int (i + 1), .retAddr 0, .ref 118], h)) rfl ?_
      rw [q_v1]
      refine hk_scr (v := s2) rfl (by omega) (by omega) q_s2 ?_
      refine qm_Ru.go 4 (c' := (1744, [.retAddr 0, .ref 0, .ref 118, .int i], [.int (i + 2), .retAddr 0, .int s2, .ref 118], h)) rfl ?_
      rw [q_v3]
      refine hk_scr (v := s4) rfl (by omega) (by omega) q_s4 ?_
      refine qm_Ru.go 0 (c' := (1745, [.retAddr 0, .ref 0, .ref 118, .int i], [.int s4, .int s2, .ref 118], h)) rfl ?_
      refine hk_inv (o := 118) (r := []) (as := [.ref 118, .int s2, .int s4]) rfl rfl (hH.1 118 (17, 105) rfl) rfl rfl rfl rfl ?_
      refine qm_Ru.go 1 (c' := (1, [.ref 118, .int s2, .int s4], [.int s2], h)) rfl ?_
      refine hk_zlt (ix := s2.toInt) rfl rfl (fun z13 => by exfalso; omega) (fun z13 => ?_)
      refine qm_Ru.go 2 (c' := (6, [.ref 118, .int s2, .int s4], [.int s2, .int s4], h)) rfl ?_
      refine hk_clt (ix := s4.toInt) (iy := s2.toInt) rfl rfl rfl (fun z14 => ?_) (fun z14 => by exfalso; omega)
      refine qm_Ru.go 1 (c' := (17, [.ref 118, .int s2, .int s4], [.int 0], h)) rfl ?_
      refine qm_Ru.rt (v := (some (.int 0))) (h' := h) rfl ?_
      refine qm_Ru.go 3 (c' := (2081, [.retAddr 0, .ref 0, .ref 118, .int (i + 6)], [], h)) rfl ?_
      obtain ⟨v15, q_v15, e_v15⟩ := hk_add (x := i) (y := 6) (a := i.toInt) (b := 6) rfl rfl (by omega) (by omega)
      rw [q_v15]
      refine qm_Ru.go 1 (c' := (18, [.retAddr 0, .ref 0, .ref 118, .int v15], [], h)) rfl ?_
      exact hE _ v15 (by omega) (qa_Inv_of0 ⟨hH.1, hH.2⟩ hB ⟨⟨hSX, hZ⟩, t⟩ (gS_ru hSX.1.1))
    · refine qm_Ru.go 2 (c' := (13, [.ref 0, .int s2, .int s4], [.int 9999, .int s4], h)) rfl ?_
      refine hk_cle (ix := s4.toInt) (iy := 9999) rfl rfl rfl (fun z16 => ?_) (fun z16 => ?_)
      · refine qm_Ru.go 1 (c' := (19, [.ref 0, .int s2, .int s4], [.ref 0], h)) rfl ?_
        refine hk_getr rfl (hH.1 0 (16, 10) rfl) rfl (hH.2 0 7 (some 51) rfl) ?_
        refine qm_Ru.go 1 (c' := (23, [.ref 0, .int s2, .int s4], [.int s2, .ref 51], h)) rfl ?_
        refine hk_puti rfl (hH.1 51 (14, 13) rfl) rfl ?_
        refine qm_Ru.go 1 (c' := (27, [.ref 0, .int s2, .int s4], [.ref 0], (h.1, qm_up h.2.1 51 9 s2, h.2.2.1, h.2.2.2))) rfl ?_
        refine hk_getr rfl (hH.1 0 (16, 10) rfl) rfl (hH.2 0 7 (some 51) rfl) ?_
        refine qm_Ru.go 1 (c' := (31, [.ref 0, .int s2, .int s4], [.int s4, .ref 51], (h.1, qm_up h.2.1 51 9 s2, h.2.2.1, h.2.2.2))) rfl ?_
        refine hk_puti rfl (hH.1 51 (14, 13) rfl) rfl ?_
        refine qm_Ru.go 1 (c' := (35, [.ref 0, .int s2, .int s4], [.int 1], (h.1, qm_up (qm_up h.2.1 51 9 s2) 51 10 s4, h.2.2.1, h.2.2.2))) rfl ?_
        refine qm_Ru.rt (v := (some (.int 1))) (h' := (h.1, qm_up (qm_up h.2.1 51 9 s2) 51 10 s4, h.2.2.1, h.2.2.2)) rfl ?_
        refine qm_Ru.go 6 (c' := (1739, [.retAddr 0, .ref 0, .ref 118, .int i], [.int (i + 1), .retAddr 0, .ref 118], (h.1, qm_up (qm_up h.2.1 51 9 s2) 51 10 s4, h.2.2.1, h.2.2.2))) rfl ?_
        rw [q_v1]
        refine hk_scr (v := s2) rfl (by omega) (by omega) q_s2 ?_
        refine qm_Ru.go 4 (c' := (1744, [.retAddr 0, .ref 0, .ref 118, .int i], [.int (i + 2), .retAddr 0, .int s2, .ref 118], (h.1, qm_up (qm_up h.2.1 51 9 s2) 51 10 s4, h.2.2.1, h.2.2.2))) rfl ?_
        rw [q_v3]
        refine hk_scr (v := s4) rfl (by omega) (by omega) q_s4 ?_
        refine qm_Ru.go 0 (c' := (1745, [.retAddr 0, .ref 0, .ref 118, .int i], [.int s4, .int s2, .ref 118], (h.1, qm_up (qm_up h.2.1 51 9 s2) 51 10 s4, h.2.2.1, h.2.2.2))) rfl ?_
        refine hk_inv (o := 118) (r := []) (as := [.ref 118, .int s2, .int s4]) rfl rfl (hH.1 118 (17, 105) rfl) rfl rfl rfl rfl ?_
        refine qm_Ru.go 1 (c' := (1, [.ref 118, .int s2, .int s4], [.int s2], (h.1, qm_up (qm_up h.2.1 51 9 s2) 51 10 s4, h.2.2.1, h.2.2.2))) rfl ?_
        refine hk_zlt (ix := s2.toInt) rfl rfl (fun z19 => by exfalso; omega) (fun z19 => ?_)
        refine qm_Ru.go 2 (c' := (6, [.ref 118, .int s2, .int s4], [.int s2, .int s4], (h.1, qm_up (qm_up h.2.1 51 9 s2) 51 10 s4, h.2.2.1, h.2.2.2))) rfl ?_
        refine hk_clt (ix := s4.toInt) (iy := s2.toInt) rfl rfl rfl (fun z20 => by exfalso; omega) (fun z20 => ?_)
        refine qm_Ru.go 2 (c' := (13, [.ref 118, .int s2, .int s4], [.int 9999, .int s4], (h.1, qm_up (qm_up h.2.1 51 9 s2) 51 10 s4, h.2.2.1, h.2.2.2))) rfl ?_
        refine hk_cle (ix := s4.toInt) (iy := 9999) rfl rfl rfl (fun z21 => ?_) (fun z21 => by exfalso; omega)
        refine qm_Ru.go 2 (c' := (20, [.ref 118, .int s2, .int s4], [.int s2, .ref 118], (h.1, qm_up (qm_up h.2.1 51 9 s2) 51 10 s4, h.2.2.1, h.2.2.2))) rfl ?_
        refine hk_puti rfl (hH.1 118 (17, 105) rfl) rfl ?_
        refine qm_Ru.go 2 (c' := (25, [.ref 118, .int s2, .int s4], [.int s4, .ref 118], (h.1, qm_up (qm_up (qm_up h.2.1 51 9 s2) 51 10 s4) 118 91 s2, h.2.2.1, h.2.2.2))) rfl ?_
        refine hk_puti rfl (hH.1 118 (17, 105) rfl) rfl ?_
        refine qm_Ru.go 1 (c' := (29, [.ref 118, .int s2, .int s4], [.int 1], (h.1, qm_up (qm_up (qm_up (qm_up h.2.1 51 9 s2) 51 10 s4) 118 91 s2) 118 92 s4, h.2.2.1, h.2.2.2))) rfl ?_
        refine qm_Ru.rt (v := (some (.int 1))) (h' := (h.1, qm_up (qm_up (qm_up (qm_up h.2.1 51 9 s2) 51 10 s4) 118 91 s2) 118 92 s4, h.2.2.1, h.2.2.2)) rfl ?_
        refine qm_Ru.go 3 (c' := (2081, [.retAddr 0, .ref 0, .ref 118, .int (i + 6)], [], (h.1, qm_up (qm_up (qm_up (qm_up h.2.1 51 9 s2) 51 10 s4) 118 91 s2) 118 92 s4, h.2.2.1, h.2.2.2))) rfl ?_
        obtain ⟨v22, q_v22, e_v22⟩ := hk_add (x := i) (y := 6) (a := i.toInt) (b := 6) rfl rfl (by omega) (by omega)
        rw [q_v22]
        refine qm_Ru.go 1 (c' := (18, [.retAddr 0, .ref 0, .ref 118, .int v22], [], (h.1, qm_up (qm_up (qm_up (qm_up h.2.1 51 9 s2) 51 10 s4) 118 91 s2) 118 92 s4, h.2.2.1, h.2.2.2))) rfl ?_
        have ef : ∀ o, o ≠ 51 → o ≠ 118 → (qm_up (qm_up (qm_up (qm_up h.2.1 51 9 s2) 51 10 s4) 118 91 s2) 118 92 s4) o = h.2.1 o := fun o a b => ((up_o b).trans ((up_o b).trans ((up_o a).trans ((up_o a).trans rfl))))
        have hg : gJ tb (qm_up (qm_up (qm_up (qm_up h.2.1 51 9 s2) 51 10 s4) 118 91 s2) 118 92 s4) := gJ_fl hZ.2.2.2 ef ⟨hZ.2.2.2.1.1.1, hZ.2.2.2.1.1.2.1, rfl, rfl, hZ.2.2.2.1.1.2.2.2.2.1, hZ.2.2.2.1.1.2.2.2.2.2⟩ rfl rfl
        have hS4 : (gS4B tb) (h.1, qm_up (qm_up (qm_up (qm_up h.2.1 51 9 s2) 51 10 s4) 118 91 s2) 118 92 s4, h.2.2.1, h.2.2.2) := gS4_j (J := h.2.2.1) ⟨hSX, hZ⟩ (fun o a b _ i => congrFun (ef o (by omega) b) i) (fun i hi => ((hk_neq (fun z => by subst z; cases hi)).trans ((hk_neq (fun z => by subst z; cases hi)).trans ((hk_ot rfl).trans ((hk_ot rfl).trans rfl))))) hSX.2.2 hg
        exact hE _ v22 (by omega) (qa_Inv_of0 ⟨hH.1, hH.2⟩ (hb_up (o := 118) (k := 92) (x := s4) (hb_up (o := 118) (k := 91) (x := s2) (hb_up (o := 51) (k := 10) (x := s4) (hb_up (o := 51) (k := 9) (x := s2) hB ⟨by show (0 : Int) ≤ s2.toInt; omega, by show s2.toInt ≤ (9999 : Int); omega⟩) ⟨by show (-1 : Int) ≤ s4.toInt; omega, by show s4.toInt ≤ (9999 : Int); omega⟩) ⟨by show (0 : Int) ≤ s2.toInt; omega, by show s2.toInt ≤ (9999 : Int); omega⟩) ⟨by show (-1 : Int) ≤ s4.toInt; omega, by show s4.toInt ≤ (9999 : Int); omega⟩) ⟨hS4, t⟩ (gS_ru hS4.1.1.1))
      · refine qm_Ru.go 1 (c' := (17, [.ref 0, .int s2, .int s4], [.int 0], h)) rfl ?_
        refine qm_Ru.rt (v := (some (.int 0))) (h' := h) rfl ?_
        refine qm_Ru.go 6 (c' := (1739, [.retAddr 0, .ref 0, .ref 118, .int i], [.int (i + 1), .retAddr 0, .ref 118], h)) rfl ?_
        rw [q_v1]
        refine hk_scr (v := s2) rfl (by omega) (by omega) q_s2 ?_
        refine qm_Ru.go 4 (c' := (1744, [.retAddr 0, .ref 0, .ref 118, .int i], [.int (i + 2), .retAddr 0, .int s2, .ref 118], h)) rfl ?_
        rw [q_v3]
        refine hk_scr (v := s4) rfl (by omega) (by omega) q_s4 ?_
        refine qm_Ru.go 0 (c' := (1745, [.retAddr 0, .ref 0, .ref 118, .int i], [.int s4, .int s2, .ref 118], h)) rfl ?_
        refine hk_inv (o := 118) (r := []) (as := [.ref 118, .int s2, .int s4]) rfl rfl (hH.1 118 (17, 105) rfl) rfl rfl rfl rfl ?_
        refine qm_Ru.go 1 (c' := (1, [.ref 118, .int s2, .int s4], [.int s2], h)) rfl ?_
        refine hk_zlt (ix := s2.toInt) rfl rfl (fun z25 => by exfalso; omega) (fun z25 => ?_)
        refine qm_Ru.go 2 (c' := (6, [.ref 118, .int s2, .int s4], [.int s2, .int s4], h)) rfl ?_
        refine hk_clt (ix := s4.toInt) (iy := s2.toInt) rfl rfl rfl (fun z26 => by exfalso; omega) (fun z26 => ?_)
        refine qm_Ru.go 2 (c' := (13, [.ref 118, .int s2, .int s4], [.int 9999, .int s4], h)) rfl ?_
        refine hk_cle (ix := s4.toInt) (iy := 9999) rfl rfl rfl (fun z27 => by exfalso; omega) (fun z27 => ?_)
        refine qm_Ru.go 1 (c' := (17, [.ref 118, .int s2, .int s4], [.int 0], h)) rfl ?_
        refine qm_Ru.rt (v := (some (.int 0))) (h' := h) rfl ?_
        refine qm_Ru.go 3 (c' := (2081, [.retAddr 0, .ref 0, .ref 118, .int (i + 6)], [], h)) rfl ?_
        obtain ⟨v28, q_v28, e_v28⟩ := hk_add (x := i) (y := 6) (a := i.toInt) (b := 6) rfl rfl (by omega) (by omega)
        rw [q_v28]
        refine qm_Ru.go 1 (c' := (18, [.retAddr 0, .ref 0, .ref 118, .int v28], [], h)) rfl ?_
        exact hE _ v28 (by omega) (qa_Inv_of0 ⟨hH.1, hH.2⟩ hB ⟨⟨hSX, hZ⟩, t⟩ (gS_ru hSX.1.1))
theorem qv_48 {L : Nat} {xs : Nat → Int32} {Z : Option Value → qm_H → Prop} (h6 : 6 ≤ L) (hl : L ≤ 3072) : qv_PB tb tb L xs Z 48 := by
  intro i h i0 i1 hI hE
  obtain ⟨j1, hB, j3, ⟨⟨hSX, hZ⟩, t⟩, -⟩ := hI
  have hH : hk_H h := ⟨j1, j3⟩
  have b_i : 0 ≤ i.toInt ∧ i.toInt ≤ 3066 := by omega
  show qm_Ru (some (L, xs)) 300 cd_law (1752, [.retAddr 0, .ref 0, .ref 118, .int i], [], h) Z
  refine qm_Ru.go 5 (c' := (1757, [.retAddr 0, .ref 0, .ref 118, .int i], [.int (i + 1), .retAddr 0, .ref 0], h)) rfl ?_
  obtain ⟨v1, q_v1, e_v1⟩ := hk_add (x := i) (y := 1) (a := i.toInt) (b := 1) rfl rfl (by omega) (by omega)
  rw [q_v1]
  obtain ⟨s2, q_s2⟩ : ∃ v_, xs (v1).toNatClampNeg = v_ := ⟨_, rfl⟩
  have := hk_rng s2
  refine hk_scr (v := s2) rfl (by omega) (by omega) q_s2 ?_
  refine qm_Ru.go 4 (c' := (1762, [.retAddr 0, .ref 0, .ref 118, .int i], [.int (i + 2), .retAddr 0, .int s2, .ref 0], h)) rfl ?_
  obtain ⟨v3, q_v3, e_v3⟩ := hk_add (x := i) (y := 2) (a := i.toInt) (b := 2) rfl rfl (by omega) (by omega)
  rw [q_v3]
  obtain ⟨s4, q_s4⟩ : ∃ v_, xs (v3).toNatClampNeg = v_ := ⟨_, rfl⟩
  have := hk_rng s4
  refine hk_scr (v := s4) rfl (by omega) (by omega) q_s4 ?_
  refine qm_Ru.go 0 (c' := (1763, [.retAddr 0, .ref 0, .ref 118, .int i], [.int s4, .int s2, .ref 0], h)) rfl ?_
  refine hk_inv (o := 0) (r := []) (as := [.ref 0, .int s2, .int s4]) rfl rfl (hH.1 0 (16, 10) rfl) rfl rfl rfl rfl ?_
  refine qm_Ru.go 1 (c' := (1, [.ref 0, .int s2, .int s4], [.int s2], h)) rfl ?_
  refine hk_zlt (ix := s2.toInt) rfl rfl (fun z5 => ?_) (fun z5 => ?_)
  · refine qm_Ru.go 1 (c' := (23, [.ref 0, .int s2, .int s4], [.int 0], h)) rfl ?_
    refine qm_Ru.rt (v := (some (.int 0))) (h' := h) rfl ?_
    refine qm_Ru.go 6 (c' := (1772, [.retAddr 0, .ref 0, .ref 118, .int i], [.int (i + 1), .retAddr 0, .ref 118], h)) rfl ?_
    rw [q_v1]
    refine hk_scr (v := s2) rfl (by omega) (by omega) q_s2 ?_
    refine qm_Ru.go 4 (c' := (1777, [.retAddr 0, .ref 0, .ref 118, .int i], [.int (i + 2), .retAddr 0, .int s2, .ref 118], h)) rfl ?_
    rw [q_v3]
    refine hk_scr (v := s4) rfl (by omega) (by omega) q_s4 ?_
    refine qm_Ru.go 0 (c' := (1778, [.retAddr 0, .ref 0, .ref 118, .int i], [.int s4, .int s2, .ref 118], h)) rfl ?_
    refine hk_inv (o := 118) (r := []) (as := [.ref 118, .int s2, .int s4]) rfl rfl (hH.1 118 (17, 105) rfl) rfl rfl rfl rfl ?_
    refine qm_Ru.go 3 (c' := (5, [.ref 118, .int s2, .int s4], [.int 500, .int 0, .int s2], h)) rfl ?_
    refine qm_Ru.call (j := 270) (as := [.int s2, .int 0, .int 500]) (c' := (8, [.ref 118, .int s2, .int s4], [], h)) rfl rfl rfl ?_
    refine qm_Ru.go 2 (c' := (2, [.int s2, .int 0, .int 500], [.int 0, .int s2], h)) rfl ?_
    refine hk_clt (ix := s2.toInt) (iy := 0) rfl rfl rfl (fun z8 => ?_) (fun z8 => by exfalso; omega)
    refine qm_Ru.go 1 (c' := (15, [.int s2, .int 0, .int 500], [.int 0], h)) rfl ?_
    refine qm_Ru.rt (v := (some (.int 0))) (h' := h) rfl ?_
    refine qm_Ru.go 2 (c' := (23, [.ref 118, .int s2, .int s4], [.int 0], h)) rfl ?_
    refine qm_Ru.rt (v := (some (.int 0))) (h' := h) rfl ?_
    refine qm_Ru.go 3 (c' := (2081, [.retAddr 0, .ref 0, .ref 118, .int (i + 6)], [], h)) rfl ?_
    obtain ⟨v9, q_v9, e_v9⟩ := hk_add (x := i) (y := 6) (a := i.toInt) (b := 6) rfl rfl (by omega) (by omega)
    rw [q_v9]
    refine qm_Ru.go 1 (c' := (18, [.retAddr 0, .ref 0, .ref 118, .int v9], [], h)) rfl ?_
    exact hE _ v9 (by omega) (qa_Inv_of0 ⟨hH.1, hH.2⟩ hB ⟨⟨hSX, hZ⟩, t⟩ (gS_ru hSX.1.1))
  · refine qm_Ru.go 2 (c' := (8, [.ref 0, .int s2, .int s4], [.int 500, .int s2], h)) rfl ?_
    refine hk_cgt (ix := s2.toInt) (iy := 500) rfl rfl rfl (fun z10 => ?_) (fun z10 => ?_)
    · refine qm_Ru.go 1 (c' := (23, [.ref 0, .int s2, .int s4], [.int 0], h)) rfl ?_
      refine qm_Ru.rt (v := (some (.int 0))) (h' := h) rfl ?_
      refine qm_Ru.go 6 (c' := (1772, [.retAddr 0, .ref 0, .ref 118, .int i], [.int (i + 1), .retAddr 0, .ref 118], h)) rfl ?_
      rw [q_v1]
      refine hk_scr (v := s2) rfl (by omega) (by omega) q_s2 ?_
      refine qm_Ru.go 4 (c' := (1777, [.retAddr 0, .ref 0, .ref 118, .int i], [.int (i + 2), .retAddr 0, .int s2, .ref 118], h)) rfl ?_
      rw [q_v3]
      refine hk_scr (v := s4) rfl (by omega) (by omega) q_s4 ?_
      refine qm_Ru.go 0 (c' := (1778, [.retAddr 0, .ref 0, .ref 118, .int i], [.int s4, .int s2, .ref 118], h)) rfl ?_
      refine hk_inv (o := 118) (r := []) (as := [.ref 118, .int s2, .int s4]) rfl rfl (hH.1 118 (17, 105) rfl) rfl rfl rfl rfl ?_
      refine qm_Ru.go 3 (c' := (5, [.ref 118, .int s2, .int s4], [.int 500, .int 0, .int s2], h)) rfl ?_
      refine qm_Ru.call (j := 270) (as := [.int s2, .int 0, .int 500]) (c' := (8, [.ref 118, .int s2, .int s4], [], h)) rfl rfl rfl ?_
      refine qm_Ru.go 2 (c' := (2, [.int s2, .int 0, .int 500], [.int 0, .int s2], h)) rfl ?_
      refine hk_clt (ix := s2.toInt) (iy := 0) rfl rfl rfl (fun z13 => by exfalso; omega) (fun z13 => ?_)
      refine qm_Ru.go 2 (c' := (7, [.int s2, .int 0, .int 500], [.int 500, .int s2], h)) rfl ?_
      refine hk_cgt (ix := s2.toInt) (iy := 500) rfl rfl rfl (fun z14 => ?_) (fun z14 => by exfalso; omega)
      refine qm_Ru.go 1 (c' := (15, [.int s2, .int 0, .int 500], [.int 0], h)) rfl ?_
      refine qm_Ru.rt (v := (some (.int 0))) (h' := h) rfl ?_
      refine qm_Ru.go 2 (c' := (23, [.ref 118, .int s2, .int s4], [.int 0], h)) rfl ?_
      refine qm_Ru.rt (v := (some (.int 0))) (h' := h) rfl ?_
      refine qm_Ru.go 3 (c' := (2081, [.retAddr 0, .ref 0, .ref 118, .int (i + 6)], [], h)) rfl ?_
      obtain ⟨v15, q_v15, e_v15⟩ := hk_add (x := i) (y := 6) (a := i.toInt) (b := 6) rfl rfl (by omega) (by omega)
      rw [q_v15]
      refine qm_Ru.go 1 (c' := (18, [.retAddr 0, .ref 0, .ref 118, .int v15], [], h)) rfl ?_
      exact hE _ v15 (by omega) (qa_Inv_of0 ⟨hH.1, hH.2⟩ hB ⟨⟨hSX, hZ⟩, t⟩ (gS_ru hSX.1.1))
    · refine qm_Ru.go 1 (c' := (12, [.ref 0, .int s2, .int s4], [.int s4], h)) rfl ?_
      refine hk_zlt (ix := s4.toInt) rfl rfl (fun z16 => ?_) (fun z16 => ?_)
      · refine qm_Ru.go 1 (c' := (23, [.ref 0, .int s2, .int s4], [.int 0], h)) rfl ?_
        refine qm_Ru.rt (v := (some (.int 0))) (h' := h) rfl ?_
        refine qm_Ru.go 6 (c' := (1772, [.retAddr 0, .ref 0, .ref 118, .int i], [.int (i + 1), .retAddr 0, .ref 118], h)) rfl ?_
        rw [q_v1]
        refine hk_scr (v := s2) rfl (by omega) (by omega) q_s2 ?_
        refine qm_Ru.go 4 (c' := (1777, [.retAddr 0, .ref 0, .ref 118, .int i], [.int (i + 2), .retAddr 0, .int s2, .ref 118], h)) rfl ?_
        rw [q_v3]
        refine hk_scr (v := s4) rfl (by omega) (by omega) q_s4 ?_
        refine qm_Ru.go 0 (c' := (1778, [.retAddr 0, .ref 0, .ref 118, .int i], [.int s4, .int s2, .ref 118], h)) rfl ?_
        refine hk_inv (o := 118) (r := []) (as := [.ref 118, .int s2, .int s4]) rfl rfl (hH.1 118 (17, 105) rfl) rfl rfl rfl rfl ?_
        refine qm_Ru.go 3 (c' := (5, [.ref 118, .int s2, .int s4], [.int 500, .int 0, .int s2], h)) rfl ?_
        refine qm_Ru.call (j := 270) (as := [.int s2, .int 0, .int 500]) (c' := (8, [.ref 118, .int s2, .int s4], [], h)) rfl rfl rfl ?_
        refine qm_Ru.go 2 (c' := (2, [.int s2, .int 0, .int 500], [.int 0, .int s2], h)) rfl ?_
        refine hk_clt (ix := s2.toInt) (iy := 0) rfl rfl rfl (fun z19 => by exfalso; omega) (fun z19 => ?_)
        refine qm_Ru.go 2 (c' := (7, [.int s2, .int 0, .int 500], [.int 500, .int s2], h)) rfl ?_
        refine hk_cgt (ix := s2.toInt) (iy := 500) rfl rfl rfl (fun z20 => by exfalso; omega) (fun z20 => ?_)
        refine qm_Ru.go 2 (c' := (15, [.int s2, .int 0, .int 500], [.int 1], h)) rfl ?_
        refine qm_Ru.rt (v := (some (.int 1))) (h' := h) rfl ?_
        refine qm_Ru.go 4 (c' := (16, [.ref 118, .int s2, .int s4], [.int 500, .int 0, .int s4], h)) rfl ?_
        refine qm_Ru.call (j := 270) (as := [.int s4, .int 0, .int 500]) (c' := (19, [.ref 118, .int s2, .int s4], [], h)) rfl rfl rfl ?_
        refine qm_Ru.go 2 (c' := (2, [.int s4, .int 0, .int 500], [.int 0, .int s4], h)) rfl ?_
        refine hk_clt (ix := s4.toInt) (iy := 0) rfl rfl rfl (fun z21 => ?_) (fun z21 => by exfalso; omega)
        refine qm_Ru.go 1 (c' := (15, [.int s4, .int 0, .int 500], [.int 0], h)) rfl ?_
        refine qm_Ru.rt (v := (some (.int 0))) (h' := h) rfl ?_
        refine qm_Ru.go 2 (c' := (23, [.ref 118, .int s2, .int s4], [.int 0], h)) rfl ?_
        refine qm_Ru.rt (v := (some (.int 0))) (h' := h) rfl ?_
        refine qm_Ru.go 3 (c' := (2081, [.retAddr 0, .ref 0, .ref 118, .int (i + 6)], [], h)) rfl ?_
        obtain ⟨v22, q_v22, e_v22⟩ := hk_add (x := i) (y := 6) (a := i.toInt) (b := 6) rfl rfl (by omega) (by omega)
        rw [q_v22]
        refine qm_Ru.go 1 (c' := (18, [.retAddr 0, .ref 0, .ref 118, .int v22], [], h)) rfl ?_
        exact hE _ v22 (by omega) (qa_Inv_of0 ⟨hH.1, hH.2⟩ hB ⟨⟨hSX, hZ⟩, t⟩ (gS_ru hSX.1.1))
      · refine qm_Ru.go 2 (c' := (19, [.ref 0, .int s2, .int s4], [.int 500, .int s4], h)) rfl ?_
        refine hk_cle (ix := s4.toInt) (iy := 500) rfl rfl rfl (fun z23 => ?_) (fun z23 => ?_)
        · refine qm_Ru.go 1 (c' := (25, [.ref 0, .int s2, .int s4], [.ref 0], h)) rfl ?_
          refine hk_getr rfl (hH.1 0 (16, 10) rfl) rfl (hH.2 0 7 (some 51) rfl) ?_
          refine qm_Ru.go 1 (c' := (29, [.ref 0, .int s2, .int s4], [.int s2, .ref 51], h)) rfl ?_
          refine hk_puti rfl (hH.1 51 (14, 13) rfl) rfl ?_
          refine qm_Ru.go 1 (c' := (33, [.ref 0, .int s2, .int s4], [.ref 0], (h.1, qm_up h.2.1 51 11 s2, h.2.2.1, h.2.2.2))) rfl ?_
          refine hk_getr rfl (hH.1 0 (16, 10) rfl) rfl (hH.2 0 7 (some 51) rfl) ?_
          refine qm_Ru.go 1 (c' := (37, [.ref 0, .int s2, .int s4], [.int s4, .ref 51], (h.1, qm_up h.2.1 51 11 s2, h.2.2.1, h.2.2.2))) rfl ?_
          refine hk_puti rfl (hH.1 51 (14, 13) rfl) rfl ?_
          refine qm_Ru.go 1 (c' := (41, [.ref 0, .int s2, .int s4], [.int 1], (h.1, qm_up (qm_up h.2.1 51 11 s2) 51 12 s4, h.2.2.1, h.2.2.2))) rfl ?_
          refine qm_Ru.rt (v := (some (.int 1))) (h' := (h.1, qm_up (qm_up h.2.1 51 11 s2) 51 12 s4, h.2.2.1, h.2.2.2)) rfl ?_
          refine qm_Ru.go 6 (c' := (1772, [.retAddr 0, .ref 0, .ref 118, .int i], [.int (i + 1), .retAddr 0, .ref 118], (h.1, qm_up (qm_up h.2.1 51 11 s2) 51 12 s4, h.2.2.1, h.2.2.2))) rfl ?_
          rw [q_v1]
          refine hk_scr (v := s2) rfl (by omega) (by omega) q_s2 ?_
          refine qm_Ru.go 4 (c' := (1777, [.retAddr 0, .ref 0, .ref 118, .int i], [.int (i + 2), .retAddr 0, .int s2, .ref 118], (h.1, qm_up (qm_up h.2.1 51 11 s2) 51 12 s4, h.2.2.1, h.2.2.2))) rfl ?_
          rw [q_v3]
          refine hk_scr (v := s4) rfl (by omega) (by omega) q_s4 ?_
          refine qm_Ru.go 0 (c' := (1778, [.retAddr 0, .ref 0, .ref 118, .int i], [.int s4, .int s2, .ref 118], (h.1, qm_up (qm_up h.2.1 51 11 s2) 51 12 s4, h.2.2.1, h.2.2.2))) rfl ?_
          refine hk_inv (o := 118) (r := []) (as := [.ref 118, .int s2, .int s4]) rfl rfl (hH.1 118 (17, 105) rfl) rfl rfl rfl rfl ?_
          refine qm_Ru.go 3 (c' := (5, [.ref 118, .int s2, .int s4], [.int 500, .int 0, .int s2], (h.1, qm_up (qm_up h.2.1 51 11 s2) 51 12 s4, h.2.2.1, h.2.2.2))) rfl ?_
          refine qm_Ru.call (j := 270) (as := [.int s2, .int 0, .int 500]) (c' := (8, [.ref 118, .int s2, .int s4], [], (h.1, qm_up (qm_up h.2.1 51 11 s2) 51 12 s4, h.2.2.1, h.2.2.2))) rfl rfl rfl ?_
          refine qm_Ru.go 2 (c' := (2, [.int s2, .int 0, .int 500], [.int 0, .int s2], (h.1, qm_up (qm_up h.2.1 51 11 s2) 51 12 s4, h.2.2.1, h.2.2.2))) rfl ?_
          refine hk_clt (ix := s2.toInt) (iy := 0) rfl rfl rfl (fun z26 => by exfalso; omega) (fun z26 => ?_)
          refine qm_Ru.go 2 (c' := (7, [.int s2, .int 0, .int 500], [.int 500, .int s2], (h.1, qm_up (qm_up h.2.1 51 11 s2) 51 12 s4, h.2.2.1, h.2.2.2))) rfl ?_
          refine hk_cgt (ix := s2.toInt) (iy := 500) rfl rfl rfl (fun z27 => by exfalso; omega) (fun z27 => ?_)
          refine qm_Ru.go 2 (c' := (15, [.int s2, .int 0, .int 500], [.int 1], (h.1, qm_up (qm_up h.2.1 51 11 s2) 51 12 s4, h.2.2.1, h.2.2.2))) rfl ?_
          refine qm_Ru.rt (v := (some (.int 1))) (h' := (h.1, qm_up (qm_up h.2.1 51 11 s2) 51 12 s4, h.2.2.1, h.2.2.2)) rfl ?_
          refine qm_Ru.go 4 (c' := (16, [.ref 118, .int s2, .int s4], [.int 500, .int 0, .int s4], (h.1, qm_up (qm_up h.2.1 51 11 s2) 51 12 s4, h.2.2.1, h.2.2.2))) rfl ?_
          refine qm_Ru.call (j := 270) (as := [.int s4, .int 0, .int 500]) (c' := (19, [.ref 118, .int s2, .int s4], [], (h.1, qm_up (qm_up h.2.1 51 11 s2) 51 12 s4, h.2.2.1, h.2.2.2))) rfl rfl rfl ?_
          refine qm_Ru.go 2 (c' := (2, [.int s4, .int 0, .int 500], [.int 0, .int s4], (h.1, qm_up (qm_up h.2.1 51 11 s2) 51 12 s4, h.2.2.1, h.2.2.2))) rfl ?_
          refine hk_clt (ix := s4.toInt) (iy := 0) rfl rfl rfl (fun z28 => by exfalso; omega) (fun z28 => ?_)
          refine qm_Ru.go 2 (c' := (7, [.int s4, .int 0, .int 500], [.int 500, .int s4], (h.1, qm_up (qm_up h.2.1 51 11 s2) 51 12 s4, h.2.2.1, h.2.2.2))) rfl ?_
          refine hk_cgt (ix := s4.toInt) (iy := 500) rfl rfl rfl (fun z29 => by exfalso; omega) (fun z29 => ?_)
          refine qm_Ru.go 2 (c' := (15, [.int s4, .int 0, .int 500], [.int 1], (h.1, qm_up (qm_up h.2.1 51 11 s2) 51 12 s4, h.2.2.1, h.2.2.2))) rfl ?_
          refine qm_Ru.rt (v := (some (.int 1))) (h' := (h.1, qm_up (qm_up h.2.1 51 11 s2) 51 12 s4, h.2.2.1, h.2.2.2)) rfl ?_
          refine qm_Ru.go 3 (c' := (26, [.ref 118, .int s2, .int s4], [.int s2, .ref 118], (h.1, qm_up (qm_up h.2.1 51 11 s2) 51 12 s4, h.2.2.1, h.2.2.2))) rfl ?_
          refine hk_puti rfl (hH.1 118 (17, 105) rfl) rfl ?_
          refine qm_Ru.go 2 (c' := (31, [.ref 118, .int s2, .int s4], [.int s4, .ref 118], (h.1, qm_up (qm_up (qm_up h.2.1 51 11 s2) 51 12 s4) 118 93 s2, h.2.2.1, h.2.2.2))) rfl ?_
          refine hk_puti rfl (hH.1 118 (17, 105) rfl) rfl ?_
          refine qm_Ru.go 1 (c' := (35, [.ref 118, .int s2, .int s4], [.int 1], (h.1, qm_up (qm_up (qm_up (qm_up h.2.1 51 11 s2) 51 12 s4) 118 93 s2) 118 94 s4, h.2.2.1, h.2.2.2))) rfl ?_
          refine qm_Ru.rt (v := (some (.int 1))) (h' := (h.1, qm_up (qm_up (qm_up (qm_up h.2.1 51 11 s2) 51 12 s4) 118 93 s2) 118 94 s4, h.2.2.1, h.2.2.2)) rfl ?_
          refine qm_Ru.go 3 (c' := (2081, [.retAddr 0, .ref 0, .ref 118, .int (i + 6)], [], (h.1, qm_up (qm_up (qm_up (qm_up h.2.1 51 11 s2) 51 12 s4) 118 93 s2) 118 94 s4, h.2.2.1, h.2.2.2))) rfl ?_
          obtain ⟨v30, q_v30, e_v30⟩ := hk_add (x := i) (y := 6) (a := i.toInt) (b := 6) rfl rfl (by omega) (by omega)
          rw [q_v30]
          refine qm_Ru.go 1 (c' := (18, [.retAddr 0, .ref 0, .ref 118, .int v30], [], (h.1, qm_up (qm_up (qm_up (qm_up h.2.1 51 11 s2) 51 12 s4) 118 93 s2) 118 94 s4, h.2.2.1, h.2.2.2))) rfl ?_
          have ef : ∀ o, o ≠ 51 → o ≠ 118 → (qm_up (qm_up (qm_up (qm_up h.2.1 51 11 s2) 51 12 s4) 118 93 s2) 118 94 s4) o = h.2.1 o := fun o a b => ((up_o b).trans ((up_o b).trans ((up_o a).trans ((up_o a).trans rfl))))
          have hg : gJ tb (qm_up (qm_up (qm_up (qm_up h.2.1 51 11 s2) 51 12 s4) 118 93 s2) 118 94 s4) := gJ_fl hZ.2.2.2 ef ⟨hZ.2.2.2.1.1.1, hZ.2.2.2.1.1.2.1, hZ.2.2.2.1.1.2.2.1, hZ.2.2.2.1.1.2.2.2.1, rfl, rfl⟩ rfl rfl
          have hS4 : (gS4B tb) (h.1, qm_up (qm_up (qm_up (qm_up h.2.1 51 11 s2) 51 12 s4) 118 93 s2) 118 94 s4, h.2.2.1, h.2.2.2) := gS4_j (J := h.2.2.1) ⟨hSX, hZ⟩ (fun o a b _ i => congrFun (ef o (by omega) b) i) (fun i hi => ((hk_neq (fun z => by subst z; cases hi)).trans ((hk_neq (fun z => by subst z; cases hi)).trans ((hk_ot rfl).trans ((hk_ot rfl).trans rfl))))) hSX.2.2 hg
          exact hE _ v30 (by omega) (qa_Inv_of0 ⟨hH.1, hH.2⟩ (hb_up (o := 118) (k := 94) (x := s4) (hb_up (o := 118) (k := 93) (x := s2) (hb_up (o := 51) (k := 12) (x := s4) (hb_up (o := 51) (k := 11) (x := s2) hB ⟨by show (0 : Int) ≤ s2.toInt; omega, by show s2.toInt ≤ (500 : Int); omega⟩) ⟨by show (0 : Int) ≤ s4.toInt; omega, by show s4.toInt ≤ (500 : Int); omega⟩) ⟨by show (0 : Int) ≤ s2.toInt; omega, by show s2.toInt ≤ (500 : Int); omega⟩) ⟨by show (0 : Int) ≤ s4.toInt; omega, by show s4.toInt ≤ (500 : Int); omega⟩) ⟨hS4, t⟩ (gS_ru hS4.1.1.1))
        · refine qm_Ru.go 1 (c' := (23, [.ref 0, .int s2, .int s4], [.int 0], h)) rfl ?_
          refine qm_Ru.rt (v := (some (.int 0))) (h' := h) rfl ?_
          refine qm_Ru.go 6 (c' := (1772, [.retAddr 0, .ref 0, .ref 118, .int i], [.int (i + 1), .retAddr 0, .ref 118], h)) rfl ?_
          rw [q_v1]
          refine hk_scr (v := s2) rfl (by omega) (by omega) q_s2 ?_
          refine qm_Ru.go 4 (c' := (1777, [.retAddr 0, .ref 0, .ref 118, .int i], [.int (i + 2), .retAddr 0, .int s2, .ref 118], h)) rfl ?_
          rw [q_v3]
          refine hk_scr (v := s4) rfl (by omega) (by omega) q_s4 ?_
          refine qm_Ru.go 0 (c' := (1778, [.retAddr 0, .ref 0, .ref 118, .int i], [.int s4, .int s2, .ref 118], h)) rfl ?_
          refine hk_inv (o := 118) (r := []) (as := [.ref 118, .int s2, .int s4]) rfl rfl (hH.1 118 (17, 105) rfl) rfl rfl rfl rfl ?_
          refine qm_Ru.go 3 (c' := (5, [.ref 118, .int s2, .int s4], [.int 500, .int 0, .int s2], h)) rfl ?_
          refine qm_Ru.call (j := 270) (as := [.int s2, .int 0, .int 500]) (c' := (8, [.ref 118, .int s2, .int s4], [], h)) rfl rfl rfl ?_
          refine qm_Ru.go 2 (c' := (2, [.int s2, .int 0, .int 500], [.int 0, .int s2], h)) rfl ?_
          refine hk_clt (ix := s2.toInt) (iy := 0) rfl rfl rfl (fun z33 => by exfalso; omega) (fun z33 => ?_)
          refine qm_Ru.go 2 (c' := (7, [.int s2, .int 0, .int 500], [.int 500, .int s2], h)) rfl ?_
          refine hk_cgt (ix := s2.toInt) (iy := 500) rfl rfl rfl (fun z34 => by exfalso; omega) (fun z34 => ?_)
          refine qm_Ru.go 2 (c' := (15, [.int s2, .int 0, .int 500], [.int 1], h)) rfl ?_
          refine qm_Ru.rt (v := (some (.int 1))) (h' := h) rfl ?_
          refine qm_Ru.go 4 (c' := (16, [.ref 118, .int s2, .int s4], [.int 500, .int 0, .int s4], h)) rfl ?_
          refine qm_Ru.call (j := 270) (as := [.int s4, .int 0, .int 500]) (c' := (19, [.ref 118, .int s2, .int s4], [], h)) rfl rfl rfl ?_
          refine qm_Ru.go 2 (c' := (2, [.int s4, .int 0, .int 500], [.int 0, .int s4], h)) rfl ?_
          refine hk_clt (ix := s4.toInt) (iy := 0) rfl rfl rfl (fun z35 => by exfalso; omega) (fun z35 => ?_)
          refine qm_Ru.go 2 (c' := (7, [.int s4, .int 0, .int 500], [.int 500, .int s4], h)) rfl ?_
          refine hk_cgt (ix := s4.toInt) (iy := 500) rfl rfl rfl (fun z36 => ?_) (fun z36 => by exfalso; omega)
          refine qm_Ru.go 1 (c' := (15, [.int s4, .int 0, .int 500], [.int 0], h)) rfl ?_
          refine qm_Ru.rt (v := (some (.int 0))) (h' := h) rfl ?_
          refine qm_Ru.go 2 (c' := (23, [.ref 118, .int s2, .int s4], [.int 0], h)) rfl ?_
          refine qm_Ru.rt (v := (some (.int 0))) (h' := h) rfl ?_
          refine qm_Ru.go 3 (c' := (2081, [.retAddr 0, .ref 0, .ref 118, .int (i + 6)], [], h)) rfl ?_
          obtain ⟨v37, q_v37, e_v37⟩ := hk_add (x := i) (y := 6) (a := i.toInt) (b := 6) rfl rfl (by omega) (by omega)
          rw [q_v37]
          refine qm_Ru.go 1 (c' := (18, [.retAddr 0, .ref 0, .ref 118, .int v37], [], h)) rfl ?_
          exact hE _ v37 (by omega) (qa_Inv_of0 ⟨hH.1, hH.2⟩ hB ⟨⟨hSX, hZ⟩, t⟩ (gS_ru hSX.1.1))
