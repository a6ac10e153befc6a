/-! contracts of the reference by hand -/
theorem hc_runload : hk_ct v_R (fun _ => True) (fun as I => ∃ y r s : Int32, as = [.ref 118, .int y, .int r, .int s]) 298 (some (-3, 2)) [146, 147, 148, 149, 150, 151, 152, 153, 154, 155, 156] 60 := by
  intro L xs d Z h as h6 hH hT hB hV hp hd k
  obtain ⟨y, r, s, rfl⟩ := hp
  obtain ⟨d, rfl⟩ : ∃ e, d = e + 60 := ⟨d - 60, by omega⟩
  show qm_Ru (some (L, xs)) (d + 60) cd_298 (qm_ent 9 [.ref 118, .int y, .int r, .int s] h) Z
  refine qm_Ru.go 2 (c' := (2, [.ref 118, .int y, .int r, .int s, .float 0, .float 0, .float 0, .float 0, .float 0], [.int y, .ref 118], h)) rfl ?_
  refine hk_inv (o := 118) (r := []) (as := [.ref 118, .int y]) rfl rfl (hH.1 118 (17, 105) rfl) rfl rfl rfl rfl ?_
  refine qm_Ru.go 3 (c' := (3, [.ref 118, .int y], [.ref 118, .int 0, .int y], h)) rfl ?_
  refine hk_getr rfl (hH.1 118 (17, 105) rfl) rfl (hH.2 118 22 (some 127) rfl) ?_
  refine qm_Ru.go 1 (c' := (7, [.ref 118, .int y], [.ref 118, .ref 127, .int 0, .int y], h)) rfl ?_
  obtain ⟨v1, q_v1⟩ : ∃ v, h.2.1 118 18 = v := ⟨_, rfl⟩
  have b_v1 : (0 : Int) ≤ v1.toInt ∧ v1.toInt ≤ 1 := by rw [← q_v1]; exact hB 118 18
  refine hk_geti (v := v1) rfl (hH.1 118 (17, 105) rfl) rfl q_v1 ?_
  refine qm_Ru.go 0 (c' := (10, [.ref 118, .int y], [.int v1, .ref 127, .int 0, .int y], h)) rfl ?_
  obtain ⟨v2, q_v2⟩ : ∃ v, h.2.1 127 (v1.toInt.toNat) = v := ⟨_, rfl⟩
  have b_v2 : (0 : Int) ≤ v2.toInt ∧ v2.toInt ≤ 5 := by rw [← q_v2]; exact hB 127 (v1.toInt.toNat)
  refine hk_ial (v := v2) rfl (hH.1 127 (0, 2) rfl) (by omega) (by omega) q_v2 ?_
  refine qm_Ru.go 2 (c' := (13, [.ref 118, .int y], [.int (v2 - 1), .int 0, .int y], h)) rfl ?_
  obtain ⟨v3, q_v3, e_v3⟩ := hk_sub (x := v2) (y := 1) (a := v2.toInt) (b := 1) rfl rfl (by omega) (by omega)
  rw [q_v3]
  refine qm_Ru.call (j := 270) (as := [.int y, .int 0, .int v3]) (c' := (16, [.ref 118, .int y], [], h)) rfl rfl rfl ?_
  refine qm_Ru.go 2 (c' := (2, [.int y, .int 0, .int v3], [.int 0, .int y], h)) rfl ?_
  refine hk_clt (ix := y.toInt) (iy := 0) rfl rfl rfl (fun z4 => ?_) (fun z4 => ?_)
  · refine qm_Ru.go 1 (c' := (15, [.int y, .int 0, .int v3], [.int 0], h)) rfl ?_
    refine qm_Ru.rt (v := (some (.int 0))) (h' := h) rfl ?_
    refine qm_Ru.go 0 (c' := (16, [.ref 118, .int y], [.int 0], h)) rfl ?_
    refine qm_Ru.rt (v := (some (.int 0))) (h' := h) rfl ?_
    refine qm_Ru.go 2 (c' := (28, [.ref 118, .int y, .int r, .int s, .float 0, .float 0, .float 0, .float 0, .float 0], [.int (-1)], h)) rfl ?_
    refine qm_Ru.rt (v := (some (.int (-1)))) (h' := h) rfl ?_
    exact k (some (.int (-1))) (h.2.1) (h.2.2.1) ⟨_, rfl, ⟨by decide, by decide⟩⟩ hB hV (fun o ho i => rfl)
  · refine qm_Ru.go 2 (c' := (7, [.int y, .int 0, .int v3], [.int v3, .int y], h)) rfl ?_
    refine hk_cgt (ix := y.toInt) (iy := v3.toInt) rfl rfl rfl (fun z5 => ?_) (fun z5 => ?_)
    · refine qm_Ru.go 1 (c' := (15, [.int y, .int 0, .int v3], [.int 0], h)) rfl ?_
      refine qm_Ru.rt (v := (some (.int 0))) (h' := h) rfl ?_
      refine qm_Ru.go 0 (c' := (16, [.ref 118, .int y], [.int 0], h)) rfl ?_
      refine qm_Ru.rt (v := (some (.int 0))) (h' := h) rfl ?_
      refine qm_Ru.go 2 (c' := (28, [.ref 118, .int y, .int r, .int s, .float 0, .float 0, .float 0, .float 0, .float 0], [.int (-1)], h)) rfl ?_
      refine qm_Ru.rt (v := (some (.int (-1)))) (h' := h) rfl ?_
      exact k (some (.int (-1))) (h.2.1) (h.2.2.1) ⟨_, rfl, ⟨by decide, by decide⟩⟩ hB hV (fun o ho i => rfl)
    · refine qm_Ru.go 2 (c' := (15, [.int y, .int 0, .int v3], [.int 1], h)) rfl ?_
      refine qm_Ru.rt (v := (some (.int 1))) (h' := h) rfl ?_
      refine qm_Ru.go 0 (c' := (16, [.ref 118, .int y], [.int 1], h)) rfl ?_
      refine qm_Ru.rt (v := (some (.int 1))) (h' := h) rfl ?_
      refine qm_Ru.go 2 (c' := (9, [.ref 118, .int y, .int r, .int s, .float 0, .float 0, .float 0, .float 0, .float 0], [.int r], h)) rfl ?_
      refine qm_Ru.call (j := 278) (as := [.int r]) (c' := (12, [.ref 118, .int y, .int r, .int s, .float 0, .float 0, .float 0, .float 0, .float 0], [], h)) rfl rfl rfl ?_
      refine qm_Ru.go 3 (c' := (3, [.int r], [.int 3, .int 0, .int r], h)) rfl ?_
      refine qm_Ru.call (j := 270) (as := [.int r, .int 0, .int 3]) (c' := (6, [.int r], [], h)) rfl rfl rfl ?_
      refine qm_Ru.go 2 (c' := (2, [.int r, .int 0, .int 3], [.int 0, .int r], h)) rfl ?_
      refine hk_clt (ix := r.toInt) (iy := 0) rfl rfl rfl (fun z6 => ?_) (fun z6 => ?_)
      · refine qm_Ru.go 1 (c' := (15, [.int r, .int 0, .int 3], [.int 0], h)) rfl ?_
        refine qm_Ru.rt (v := (some (.int 0))) (h' := h) rfl ?_
        refine qm_Ru.go 0 (c' := (6, [.int r], [.int 0], h)) rfl ?_
        refine qm_Ru.rt (v := (some (.int 0))) (h' := h) rfl ?_
        refine qm_Ru.go 2 (c' := (28, [.ref 118, .int y, .int r, .int s, .float 0, .float 0, .float 0, .float 0, .float 0], [.int (-1)], h)) rfl ?_
        refine qm_Ru.rt (v := (some (.int (-1)))) (h' := h) rfl ?_
        exact k (some (.int (-1))) (h.2.1) (h.2.2.1) ⟨_, rfl, ⟨by decide, by decide⟩⟩ hB hV (fun o ho i => rfl)
      · refine qm_Ru.go 2 (c' := (7, [.int r, .int 0, .int 3], [.int 3, .int r], h)) rfl ?_
        refine hk_cgt (ix := r.toInt) (iy := 3) rfl rfl rfl (fun z7 => ?_) (fun z7 => ?_)
        · refine qm_Ru.go 1 (c' := (15, [.int r, .int 0, .int 3], [.int 0], h)) rfl ?_
          refine qm_Ru.rt (v := (some (.int 0))) (h' := h) rfl ?_
          refine qm_Ru.go 0 (c' := (6, [.int r], [.int 0], h)) rfl ?_
          refine qm_Ru.rt (v := (some (.int 0))) (h' := h) rfl ?_
          refine qm_Ru.go 2 (c' := (28, [.ref 118, .int y, .int r, .int s, .float 0, .float 0, .float 0, .float 0, .float 0], [.int (-1)], h)) rfl ?_
          refine qm_Ru.rt (v := (some (.int (-1)))) (h' := h) rfl ?_
          exact k (some (.int (-1))) (h.2.1) (h.2.2.1) ⟨_, rfl, ⟨by decide, by decide⟩⟩ hB hV (fun o ho i => rfl)
        · refine qm_Ru.go 2 (c' := (15, [.int r, .int 0, .int 3], [.int 1], h)) rfl ?_
          refine qm_Ru.rt (v := (some (.int 1))) (h' := h) rfl ?_
          refine qm_Ru.go 0 (c' := (6, [.int r], [.int 1], h)) rfl ?_
          refine qm_Ru.rt (v := (some (.int 1))) (h' := h) rfl ?_
          refine qm_Ru.go 3 (c' := (17, [.ref 118, .int y, .int r, .int s, .float 0, .float 0, .float 0, .float 0, .float 0], [.int (-1), .int s], h)) rfl ?_
          refine hk_ceq (ix := s.toInt) (iy := (-1)) rfl rfl rfl (fun z8 => ?_) (fun z8 => ?_)
          · refine qm_Ru.go 3 (c' := (33, [.ref 118, .int y, .int r, .int s, .float 0, .float 0, .float 0, .float 0, .float 0], [.int (16 * y)], h)) rfl ?_
            obtain ⟨v9, q_v9, e_v9⟩ := hk_mul (x := 16) (y := y) (a := 16) (b := y.toInt) rfl rfl (by omega) (by omega)
            rw [q_v9]
            refine qm_Ru.go 3 (c' := (36, [.ref 118, .int y, .int r, .int s, .float 0, .float 0, .float 0, .float 0, .float 0], [.int (4 * r), .int v9], h)) rfl ?_
            obtain ⟨v10, q_v10, e_v10⟩ := hk_mul (x := 4) (y := r) (a := 4) (b := r.toInt) rfl rfl (by omega) (by omega)
            rw [q_v10]
            refine qm_Ru.go 1 (c' := (37, [.ref 118, .int y, .int r, .int s, .float 0, .float 0, .float 0, .float 0, .float 0], [.int (v9 + v10)], h)) rfl ?_
            obtain ⟨v11, q_v11, e_v11⟩ := hk_add (x := v9) (y := v10) (a := v9.toInt) (b := v10.toInt) rfl rfl (by omega) (by omega)
            rw [q_v11]
            refine qm_Ru.go 2 (c' := (39, [.ref 118, .int y, .int r, .int s, .float 0, .float 0, .float 0, .float 0, .float 0], [.int y, .ref 118, .int v11], h)) rfl ?_
            refine hk_inv (o := 118) (r := [.int v11]) (as := [.ref 118, .int y]) rfl rfl (hH.1 118 (17, 105) rfl) rfl rfl rfl rfl ?_
            refine qm_Ru.go 1 (c' := (1, [.ref 118, .int y], [.ref 118], h)) rfl ?_
            obtain ⟨v12, q_v12⟩ : ∃ v, h.2.1 118 54 = v := ⟨_, rfl⟩
            refine hk_geti (v := v12) rfl (hH.1 118 (17, 105) rfl) rfl q_v12 ?_
            refine qm_Ru.go 2 (c' := (6, [.ref 118, .int y], [.int (v12 >>> (y &&& 31))], h)) rfl ?_
            obtain ⟨v13, q_v13⟩ : ∃ v, (v12 >>> (y &&& 31)) = v := ⟨_, rfl⟩
            rw [q_v13]
            refine qm_Ru.go 2 (c' := (8, [.ref 118, .int y], [.int (v13 &&& 1)], h)) rfl ?_
            obtain ⟨v14, q_v14⟩ : ∃ v, (v13 &&& 1) = v := ⟨_, rfl⟩
            rw [q_v14]
            refine qm_Ru.go 1 (c' := (9, [.ref 118, .int y], [.int 1, .int v14], h)) rfl ?_
            refine hk_cne (ix := v14.toInt) (iy := 1) rfl rfl rfl (fun z15 => ?_) (fun z15 => ?_)
            · refine qm_Ru.go 1 (c' := (17, [.ref 118, .int y], [.int 0], h)) rfl ?_
              refine qm_Ru.rt (v := (some (.int 0))) (h' := h) rfl ?_
              refine qm_Ru.go 3 (c' := (51, [.ref 118, .int y, .int r, .int s, .float 0, .float 0, .float 0, .float 0, .float 0], [.int (v11 + 0)], h)) rfl ?_
              obtain ⟨v16, q_v16, e_v16⟩ := hk_add (x := v11) (y := 0) (a := v11.toInt) (b := 0) rfl rfl (by omega) (by omega)
              rw [q_v16]
              refine qm_Ru.go 2 (c' := (54, [.ref 118, .int y, .int r, .int s, .int v16, .float 0, .float 0, .float 0, .float 0], [.ref 118], h)) rfl ?_
              refine hk_getr rfl (hH.1 118 (17, 105) rfl) rfl (hH.2 118 51 (some 152) rfl) ?_
              refine qm_Ru.go 3 (c' := (61, [.ref 118, .int y, .int r, .int s, .int v16, .float 0, .float 0, .float 0, .float 0], [.int (v16 + 1), .ref 152], h)) rfl ?_
              obtain ⟨v17, q_v17, e_v17⟩ := hk_add (x := v16) (y := 1) (a := v16.toInt) (b := 1) rfl rfl (by omega) (by omega)
              rw [q_v17]
              obtain ⟨v18, q_v18⟩ : ∃ v, h.2.1 152 (v17.toInt.toNat) = v := ⟨_, rfl⟩
              have b_v18 : (-1 : Int) ≤ v18.toInt ∧ v18.toInt ≤ 29 := by rw [← q_v18]; exact hB 152 (v17.toInt.toNat)
              refine hk_ial (v := v18) rfl (hH.1 152 (0, 80) rfl) (by omega) (by omega) q_v18 ?_
              refine qm_Ru.go 1 (c' := (63, [.ref 118, .int y, .int r, .int s, .int v16, .float 0, .float 0, .float 0, .float 0], [.int (-1), .int v18], h)) rfl ?_
              refine hk_ceq (ix := v18.toInt) (iy := (-1)) rfl rfl rfl (fun z19 => ?_) (fun z19 => ?_)
              · refine qm_Ru.go 3 (c' := (78, [.ref 118, .int y, .int r, .int s, .int v16, .int v16, .float 0, .float 0, .float 0], [.ref 118], h)) rfl ?_
                refine hk_getr rfl (hH.1 118 (17, 105) rfl) rfl (hH.2 118 51 (some 152) rfl) ?_
                refine qm_Ru.go 1 (c' := (83, [.ref 118, .int y, .int r, .int s, .int v16, .int v16, .float 0, .float 0, .float 0], [.int v16, .ref 152], h)) rfl ?_
                obtain ⟨v20, q_v20⟩ : ∃ v, h.2.1 152 (v16.toInt.toNat) = v := ⟨_, rfl⟩
                have b_v20 : (-1 : Int) ≤ v20.toInt ∧ v20.toInt ≤ 29 := by rw [← q_v20]; exact hB 152 (v16.toInt.toNat)
                refine hk_ial (v := v20) rfl (hH.1 152 (0, 80) rfl) (by omega) (by omega) q_v20 ?_
                refine qm_Ru.go 3 (c' := (89, [.ref 118, .int y, .int r, .int s, .int v16, .int v16, .int v20, .float 0, .float 0], [.int (-1), .int v20], h)) rfl ?_
                refine hk_cne (ix := v20.toInt) (iy := (-1)) rfl rfl rfl (fun z21 => ?_) (fun z21 => ?_)
                · refine qm_Ru.go 1 (c' := (95, [.ref 118, .int y, .int r, .int s, .int v16, .int v16, .int v20, .float 0, .float 0], [.ref 118], h)) rfl ?_
                  refine hk_getr rfl (hH.1 118 (17, 105) rfl) rfl (hH.2 118 48 (some 149) rfl) ?_
                  refine qm_Ru.go 1 (c' := (100, [.ref 118, .int y, .int r, .int s, .int v16, .int v16, .int v20, .float 0, .float 0], [.int v20, .ref 149], h)) rfl ?_
                  obtain ⟨v22, q_v22⟩ : ∃ v, h.2.1 149 (v20.toInt.toNat) = v := ⟨_, rfl⟩
                  have b_v22 : (0 : Int) ≤ v22.toInt ∧ v22.toInt ≤ 1 := by rw [← q_v22]; exact hB 149 (v20.toInt.toNat)
                  refine hk_bal (v := v22) rfl (hH.1 149 (2, 30) rfl) (by decide) (by omega) (by omega) q_v22 ?_
                  refine qm_Ru.go 0 (c' := (101, [.ref 118, .int y, .int r, .int s, .int v16, .int v16, .int v20, .float 0, .float 0], [.int v22], h)) rfl ?_
                  refine hk_zeq (ix := v22.toInt) rfl rfl (fun z23 => ?_) (fun z23 => ?_)
                  · refine qm_Ru.go 10 (c' := (139, [.ref 118, .int y, .int r, .int s, .int v16, .int v16, .int v20, .int (-1), .int 1], [.int (-1), .int s], h)) rfl ?_
                    refine hk_ceq (ix := s.toInt) (iy := (-1)) rfl rfl rfl (fun z24 => ?_) (fun z24 => by exfalso; omega)
                    refine qm_Ru.go 1 (c' := (158, [.ref 118, .int y, .int r, .int s, .int v16, .int v16, .int v20, .int (-1), .int 1], [.ref 118], h)) rfl ?_
                    refine hk_getr rfl (hH.1 118 (17, 105) rfl) rfl (hH.2 118 45 (some 146) rfl) ?_
                    refine qm_Ru.go 1 (c' := (163, [.ref 118, .int y, .int r, .int s, .int v16, .int v16, .int v20, .int (-1), .int 1], [.int v20, .ref 146], h)) rfl ?_
                    obtain ⟨v25, q_v25⟩ : ∃ v, h.2.1 146 (v20.toInt.toNat) = v := ⟨_, rfl⟩
                    have b_v25 : (0 : Int) ≤ v25.toInt ∧ v25.toInt ≤ 40 := by rw [← q_v25]; exact hB 146 (v20.toInt.toNat)
                    refine hk_ial (v := v25) rfl (hH.1 146 (0, 30) rfl) (by omega) (by omega) q_v25 ?_
                    refine qm_Ru.go 6 (c' := (182, [.ref 118, .int y, .int r, .int s, .int v16, .int v16, .int v20, .int (-1), .int 1], [.int (v25 + 0)], h)) rfl ?_
                    obtain ⟨v26, q_v26, e_v26⟩ := hk_add (x := v25) (y := 0) (a := v25.toInt) (b := 0) rfl rfl (by omega) (by omega)
                    rw [q_v26]
                    refine qm_Ru.go 1 (c' := (183, [.ref 118, .int y, .int r, .int s, .int v16, .int v16, .int v20, .int (-1), .int 1], [.ref 118, .int v26], h)) rfl ?_
                    refine hk_getr rfl (hH.1 118 (17, 105) rfl) rfl (hH.2 118 24 (some 129) rfl) ?_
                    refine qm_Ru.go 1 (c' := (187, [.ref 118, .int y, .int r, .int s, .int v16, .int v16, .int v20, .int (-1), .int 1], [.ref 118, .ref 129, .int v26], h)) rfl ?_
                    refine hk_geti (v := v1) rfl (hH.1 118 (17, 105) rfl) rfl q_v1 ?_
                    refine qm_Ru.go 0 (c' := (190, [.ref 118, .int y, .int r, .int s, .int v16, .int v16, .int v20, .int (-1), .int 1], [.int v1, .ref 129, .int v26], h)) rfl ?_
                    obtain ⟨v27, q_v27⟩ : ∃ v, h.2.1 129 (v1.toInt.toNat) = v := ⟨_, rfl⟩
                    refine hk_ial (v := v27) rfl (hH.1 129 (0, 2) rfl) (by omega) (by omega) q_v27 ?_
                    refine qm_Ru.go 0 (c' := (191, [.ref 118, .int y, .int r, .int s, .int v16, .int v16, .int v20, .int (-1), .int 1], [.int v27, .int v26], h)) rfl ?_
                    refine hk_cle (ix := v26.toInt) (iy := v27.toInt) rfl rfl rfl (fun z28 => ?_) (fun z28 => ?_)
                    · refine qm_Ru.go 0 (c' := (197, [.ref 118, .int y, .int r, .int s, .int v16, .int v16, .int v20, .int (-1), .int 1], [], h)) rfl ?_
                      have a_v20 := ra_of hV.1 (by omega) q_v20 (by omega)
                      obtain ⟨v29, q_v29⟩ : ∃ v, h.2.1 118 44 = v := ⟨_, rfl⟩
                      have b_v29 : (0 : Int) ≤ v29.toInt ∧ v29.toInt ≤ 30 := by rw [← q_v29]; exact hB 118 44
                      have l_v20 : ((v20.toInt.toNat : Nat) : Int) < v29.toInt := by rw [← q_v29]; exact hV.1.2.2.2 (v20.toInt.toNat) (by show (h.2.1 150 (v20.toInt.toNat)).toInt ≠ 0; omega)
                      obtain ⟨v30, q_v30⟩ : ∃ v, h.2.1 150 (v20.toInt.toNat) = v := ⟨_, rfl⟩
                      have b_v30 : (0 : Int) ≤ v30.toInt ∧ v30.toInt ≤ 2 := by rw [← q_v30]; exact hB 150 (v20.toInt.toNat)
                      obtain ⟨v31, q_v31⟩ : ∃ v, h.2.1 151 (v20.toInt.toNat) = v := ⟨_, rfl⟩
                      have b_v31 : (0 : Int) ≤ v31.toInt ∧ v31.toInt ≤ 79 := by rw [← q_v31]; exact hB 151 (v20.toInt.toNat)
                      rw [q_v30, q_v31] at a_v20
                      refine qm_Ru.go 1 (c' := (198, [.ref 118, .int y, .int r, .int s, .int v16, .int v16, .int v20, .int (-1), .int 1], [.ref 118], h)) rfl ?_
                      refine hk_inv (o := 118) (r := []) (as := [.ref 118]) rfl rfl (hH.1 118 (17, 105) rfl) rfl rfl rfl rfl (hs_looks (h := h) h6 hH hB (v_R_ru hV)  (by omega) (fun I32 J33 hB_I32 e_I32 => ?_))
                      have hV_I32 : v_R I32 := v_R_cg hV e_I32 rfl
                      refine qm_Ru.go 2 (c' := (204, [.ref 118, .int y, .int r, .int s, .int v16, .int v16, .int v20, .int (-1), .int 1], [.int v20, .ref 118], (h.1, I32, J33, h.2.2.2))) rfl ?_
                      refine hk_inv (o := 118) (r := []) (as := [.ref 118, .int v20]) rfl rfl (hH.1 118 (17, 105) rfl) rfl rfl rfl rfl (rl_away (h := (h.1, I32, J33, h.2.2.2)) hH hB_I32 hV_I32 (b := v20) (by omega) (show pI (I32) 150 (v20.toInt.toNat) = 1 from (congrArg Int32.toInt (show (I32) 150 (v20.toInt.toNat) = _ from ((e_I32 150 rfl (v20.toInt.toNat)).trans q_v30))).trans (by omega)) (fun I34 hB_I34 hV_I34 e_I34 p0_I34 pn_I34 => ?_))
                      obtain ⟨v35, q_v35⟩ : ∃ v, I34 150 (v20.toInt.toNat) = v := ⟨_, rfl⟩
                      have f_v35 : v35.toInt = 0 := by rw [← q_v35]; exact p0_I34
                      refine qm_Ru.go 4 (c' := (220, [.ref 118, .int y, .int r, .int s, .int v16, .int v16, .int v20, .int (-1), .int 1], [.ref 118], (h.1, I34, J33, h.2.2.2))) rfl ?_
                      refine hk_inv (o := 118) (r := []) (as := [.ref 118]) rfl rfl (hH.1 118 (17, 105) rfl) rfl rfl rfl rfl (hs_maybe (h := (h.1, I34, J33, h.2.2.2)) h6 hH hB_I34 (v_R_ru hV_I34)  (by omega) (fun v38 I36 J37 c_v38 hB_I36 e_I36 => ?_))
                      have hV_I36 : v_R I36 := v_R_cg hV_I34 e_I36 rfl
                      have b_v38 : (0 : Int) ≤ v38.toInt ∧ v38.toInt ≤ 1 := c_v38
                      refine qm_Ru.go 0 (c' := (223, [.ref 118, .int y, .int r, .int s, .int v16, .int v16, .int v20, .int (-1), .int 1], [.int v38], (h.1, I36, J37, h.2.2.2))) rfl ?_
                      refine hk_zne (ix := v38.toInt) rfl rfl (fun z39 => ?_) (fun z39 => ?_)
                      · refine qm_Ru.go 2 (c' := (253, [.ref 118, .int y, .int r, .int s, .int v16, .int v16, .int v20, .int (-1), .int 1], [.int (-1), .int s], (h.1, I36, J37, h.2.2.2))) rfl ?_
                        refine hk_ceq (ix := s.toInt) (iy := (-1)) rfl rfl rfl (fun z40 => ?_) (fun z40 => by exfalso; omega)
                        refine qm_Ru.go 1 (c' := (278, [.ref 118, .int y, .int r, .int s, .int v16, .int v16, .int v20, .int (-1), .int 1], [.int 1], (h.1, I36, J37, h.2.2.2))) rfl ?_
                        refine qm_Ru.rt (v := (some (.int 1))) (h' := (h.1, I36, J37, h.2.2.2)) rfl ?_
                        exact k (some (.int 1)) (I36) (J37) ⟨_, rfl, ⟨by decide, by decide⟩⟩ hB_I36 hV_I36 (fun o ho i => ((e_I36 o (hk_ms rfl ho) i).trans ((e_I34 o (hk_ms rfl ho) i).trans ((e_I32 o (hk_ms rfl ho) i).trans rfl))))
                      · refine qm_Ru.go 3 (c' := (231, [.ref 118, .int y, .int r, .int s, .int v16, .int v16, .int v20, .int (-1), .int 1], [.int v16, .int v20, .ref 118], (h.1, I36, J37, h.2.2.2))) rfl ?_
                        refine hk_inv (o := 118) (r := []) (as := [.ref 118, .int v20, .int v16]) rfl rfl (hH.1 118 (17, 105) rfl) rfl rfl rfl rfl (rb_boards (h := (h.1, I36, J37, h.2.2.2)) hH hB_I36 hV_I36 (b := v20) (k0 := v16) (by omega) (by omega) (show pI (I36) 150 (v20.toInt.toNat) = 0 from (congrArg Int32.toInt (show (I36) 150 (v20.toInt.toNat) = _ from ((e_I36 150 rfl (v20.toInt.toNat)).trans q_v35))).trans (by omega)) (show ((v20.toInt.toNat : Nat) : Int) < ((I36) 118 44).toInt from by rw [(show (I36) 118 44 = _ from ((e_I36 118 rfl 44).trans ((e_I34 118 rfl 44).trans ((e_I32 118 rfl 44).trans q_v29))))]; omega) (fun I41 hB_I41 hV_I41 e_I41 p0_I41 pn_I41 p1_I41 pm_I41 => ?_))
                        obtain ⟨v42, q_v42⟩ : ∃ v, I41 150 (v20.toInt.toNat) = v := ⟨_, rfl⟩
                        have f_v42 : v42.toInt = 1 := by rw [← q_v42]; exact p0_I41
                        obtain ⟨v43, q_v43⟩ : ∃ v, I41 151 (v20.toInt.toNat) = v := ⟨_, rfl⟩
                        have f_v43 : v43.toInt = v16.toInt := by rw [← q_v43]; exact (congrArg Int32.toInt p1_I41)
                        refine qm_Ru.go 4 (c' := (250, [.ref 118, .int y, .int r, .int s, .int v16, .int v16, .int v20, .int (-1), .int 1], [.int (-3)], (h.1, I41, J37, h.2.2.2))) rfl ?_
                        refine qm_Ru.rt (v := (some (.int (-3)))) (h' := (h.1, I41, J37, h.2.2.2)) rfl ?_
                        exact k (some (.int (-3))) (I41) (J37) ⟨_, rfl, ⟨by decide, by decide⟩⟩ hB_I41 hV_I41 (fun o ho i => ((e_I41 o (hk_ms rfl ho) i).trans ((e_I36 o (hk_ms rfl ho) i).trans ((e_I34 o (hk_ms rfl ho) i).trans ((e_I32 o (hk_ms rfl ho) i).trans rfl)))))
                    · refine qm_Ru.go 1 (c' := (196, [.ref 118, .int y, .int r, .int s, .int v16, .int v16, .int v20, .int (-1), .int 1], [.int (-2)], h)) rfl ?_
                      refine qm_Ru.rt (v := (some (.int (-2)))) (h' := h) rfl ?_
                      exact k (some (.int (-2))) (h.2.1) (h.2.2.1) ⟨_, rfl, ⟨by decide, by decide⟩⟩ hB hV (fun o ho i => rfl)
                  · refine qm_Ru.go 2 (c' := (108, [.ref 118, .int y, .int r, .int s, .int v16, .int v16, .int v20, .float 0, .float 0], [.int v16, .int v16], h)) rfl ?_
                    refine hk_cle (ix := v16.toInt) (iy := v16.toInt) rfl rfl rfl (fun z44 => ?_) (fun z44 => by exfalso; omega)
                    refine qm_Ru.go 10 (c' := (139, [.ref 118, .int y, .int r, .int s, .int v16, .int v16, .int v20, .int (-1), .int 1], [.int (-1), .int s], h)) rfl ?_
                    refine hk_ceq (ix := s.toInt) (iy := (-1)) rfl rfl rfl (fun z45 => ?_) (fun z45 => by exfalso; omega)
                    refine qm_Ru.go 1 (c' := (158, [.ref 118, .int y, .int r, .int s, .int v16, .int v16, .int v20, .int (-1), .int 1], [.ref 118], h)) rfl ?_
                    refine hk_getr rfl (hH.1 118 (17, 105) rfl) rfl (hH.2 118 45 (some 146) rfl) ?_
                    refine qm_Ru.go 1 (c' := (163, [.ref 118, .int y, .int r, .int s, .int v16, .int v16, .int v20, .int (-1), .int 1], [.int v20, .ref 146], h)) rfl ?_
                    obtain ⟨v46, q_v46⟩ : ∃ v, h.2.1 146 (v20.toInt.toNat) = v := ⟨_, rfl⟩
                    have b_v46 : (0 : Int) ≤ v46.toInt ∧ v46.toInt ≤ 40 := by rw [← q_v46]; exact hB 146 (v20.toInt.toNat)
                    refine hk_ial (v := v46) rfl (hH.1 146 (0, 30) rfl) (by omega) (by omega) q_v46 ?_
                    refine qm_Ru.go 6 (c' := (182, [.ref 118, .int y, .int r, .int s, .int v16, .int v16, .int v20, .int (-1), .int 1], [.int (v46 + 0)], h)) rfl ?_
                    obtain ⟨v47, q_v47, e_v47⟩ := hk_add (x := v46) (y := 0) (a := v46.toInt) (b := 0) rfl rfl (by omega) (by omega)
                    rw [q_v47]
                    refine qm_Ru.go 1 (c' := (183, [.ref 118, .int y, .int r, .int s, .int v16, .int v16, .int v20, .int (-1), .int 1], [.ref 118, .int v47], h)) rfl ?_
                    refine hk_getr rfl (hH.1 118 (17, 105) rfl) rfl (hH.2 118 24 (some 129) rfl) ?_
                    refine qm_Ru.go 1 (c' := (187, [.ref 118, .int y, .int r, .int s, .int v16, .int v16, .int v20, .int (-1), .int 1], [.ref 118, .ref 129, .int v47], h)) rfl ?_
                    refine hk_geti (v := v1) rfl (hH.1 118 (17, 105) rfl) rfl q_v1 ?_
                    refine qm_Ru.go 0 (c' := (190, [.ref 118, .int y, .int r, .int s, .int v16, .int v16, .int v20, .int (-1), .int 1], [.int v1, .ref 129, .int v47], h)) rfl ?_
                    obtain ⟨v48, q_v48⟩ : ∃ v, h.2.1 129 (v1.toInt.toNat) = v := ⟨_, rfl⟩
                    refine hk_ial (v := v48) rfl (hH.1 129 (0, 2) rfl) (by omega) (by omega) q_v48 ?_
                    refine qm_Ru.go 0 (c' := (191, [.ref 118, .int y, .int r, .int s, .int v16, .int v16, .int v20, .int (-1), .int 1], [.int v48, .int v47], h)) rfl ?_
                    refine hk_cle (ix := v47.toInt) (iy := v48.toInt) rfl rfl rfl (fun z49 => ?_) (fun z49 => ?_)
                    · refine qm_Ru.go 0 (c' := (197, [.ref 118, .int y, .int r, .int s, .int v16, .int v16, .int v20, .int (-1), .int 1], [], h)) rfl ?_
                      have a_v20 := ra_of hV.1 (by omega) q_v20 (by omega)
                      obtain ⟨v50, q_v50⟩ : ∃ v, h.2.1 118 44 = v := ⟨_, rfl⟩
                      have b_v50 : (0 : Int) ≤ v50.toInt ∧ v50.toInt ≤ 30 := by rw [← q_v50]; exact hB 118 44
                      have l_v20 : ((v20.toInt.toNat : Nat) : Int) < v50.toInt := by rw [← q_v50]; exact hV.1.2.2.2 (v20.toInt.toNat) (by show (h.2.1 150 (v20.toInt.toNat)).toInt ≠ 0; omega)
                      obtain ⟨v51, q_v51⟩ : ∃ v, h.2.1 150 (v20.toInt.toNat) = v := ⟨_, rfl⟩
                      have b_v51 : (0 : Int) ≤ v51.toInt ∧ v51.toInt ≤ 2 := by rw [← q_v51]; exact hB 150 (v20.toInt.toNat)
                      obtain ⟨v52, q_v52⟩ : ∃ v, h.2.1 151 (v20.toInt.toNat) = v := ⟨_, rfl⟩
                      have b_v52 : (0 : Int) ≤ v52.toInt ∧ v52.toInt ≤ 79 := by rw [← q_v52]; exact hB 151 (v20.toInt.toNat)
                      rw [q_v51, q_v52] at a_v20
                      refine qm_Ru.go 1 (c' := (198, [.ref 118, .int y, .int r, .int s, .int v16, .int v16, .int v20, .int (-1), .int 1], [.ref 118], h)) rfl ?_
                      refine hk_inv (o := 118) (r := []) (as := [.ref 118]) rfl rfl (hH.1 118 (17, 105) rfl) rfl rfl rfl rfl (hs_looks (h := h) h6 hH hB (v_R_ru hV)  (by omega) (fun I53 J54 hB_I53 e_I53 => ?_))
                      have hV_I53 : v_R I53 := v_R_cg hV e_I53 rfl
                      refine qm_Ru.go 2 (c' := (204, [.ref 118, .int y, .int r, .int s, .int v16, .int v16, .int v20, .int (-1), .int 1], [.int v20, .ref 118], (h.1, I53, J54, h.2.2.2))) rfl ?_
                      refine hk_inv (o := 118) (r := []) (as := [.ref 118, .int v20]) rfl rfl (hH.1 118 (17, 105) rfl) rfl rfl rfl rfl (rl_away (h := (h.1, I53, J54, h.2.2.2)) hH hB_I53 hV_I53 (b := v20) (by omega) (show pI (I53) 150 (v20.toInt.toNat) = 1 from (congrArg Int32.toInt (show (I53) 150 (v20.toInt.toNat) = _ from ((e_I53 150 rfl (v20.toInt.toNat)).trans q_v51))).trans (by omega)) (fun I55 hB_I55 hV_I55 e_I55 p0_I55 pn_I55 => ?_))
                      obtain ⟨v56, q_v56⟩ : ∃ v, I55 150 (v20.toInt.toNat) = v := ⟨_, rfl⟩
                      have f_v56 : v56.toInt = 0 := by rw [← q_v56]; exact p0_I55
                      refine qm_Ru.go 4 (c' := (220, [.ref 118, .int y, .int r, .int s, .int v16, .int v16, .int v20, .int (-1), .int 1], [.ref 118], (h.1, I55, J54, h.2.2.2))) rfl ?_
                      refine hk_inv (o := 118) (r := []) (as := [.ref 118]) rfl rfl (hH.1 118 (17, 105) rfl) rfl rfl rfl rfl (hs_maybe (h := (h.1, I55, J54, h.2.2.2)) h6 hH hB_I55 (v_R_ru hV_I55)  (by omega) (fun v59 I57 J58 c_v59 hB_I57 e_I57 => ?_))
                      have hV_I57 : v_R I57 := v_R_cg hV_I55 e_I57 rfl
                      have b_v59 : (0 : Int) ≤ v59.toInt ∧ v59.toInt ≤ 1 := c_v59
                      refine qm_Ru.go 0 (c' := (223, [.ref 118, .int y, .int r, .int s, .int v16, .int v16, .int v20, .int (-1), .int 1], [.int v59], (h.1, I57, J58, h.2.2.2))) rfl ?_
                      refine hk_zne (ix := v59.toInt) rfl rfl (fun z60 => ?_) (fun z60 => ?_)
                      · refine qm_Ru.go 2 (c' := (253, [.ref 118, .int y, .int r, .int s, .int v16, .int v16, .int v20, .int (-1), .int 1], [.int (-1), .int s], (h.1, I57, J58, h.2.2.2))) rfl ?_
                        refine hk_ceq (ix := s.toInt) (iy := (-1)) rfl rfl rfl (fun z61 => ?_) (fun z61 => by exfalso; omega)
                        refine qm_Ru.go 1 (c' := (278, [.ref 118, .int y, .int r, .int s, .int v16, .int v16, .int v20, .int (-1), .int 1], [.int 1], (h.1, I57, J58, h.2.2.2))) rfl ?_
                        refine qm_Ru.rt (v := (some (.int 1))) (h' := (h.1, I57, J58, h.2.2.2)) rfl ?_
                        exact k (some (.int 1)) (I57) (J58) ⟨_, rfl, ⟨by decide, by decide⟩⟩ hB_I57 hV_I57 (fun o ho i => ((e_I57 o (hk_ms rfl ho) i).trans ((e_I55 o (hk_ms rfl ho) i).trans ((e_I53 o (hk_ms rfl ho) i).trans rfl))))
                      · refine qm_Ru.go 3 (c' := (231, [.ref 118, .int y, .int r, .int s, .int v16, .int v16, .int v20, .int (-1), .int 1], [.int v16, .int v20, .ref 118], (h.1, I57, J58, h.2.2.2))) rfl ?_
                        refine hk_inv (o := 118) (r := []) (as := [.ref 118, .int v20, .int v16]) rfl rfl (hH.1 118 (17, 105) rfl) rfl rfl rfl rfl (rb_boards (h := (h.1, I57, J58, h.2.2.2)) hH hB_I57 hV_I57 (b := v20) (k0 := v16) (by omega) (by omega) (show pI (I57) 150 (v20.toInt.toNat) = 0 from (congrArg Int32.toInt (show (I57) 150 (v20.toInt.toNat) = _ from ((e_I57 150 rfl (v20.toInt.toNat)).trans q_v56))).trans (by omega)) (show ((v20.toInt.toNat : Nat) : Int) < ((I57) 118 44).toInt from by rw [(show (I57) 118 44 = _ from ((e_I57 118 rfl 44).trans ((e_I55 118 rfl 44).trans ((e_I53 118 rfl 44).trans q_v50))))]; omega) (fun I62 hB_I62 hV_I62 e_I62 p0_I62 pn_I62 p1_I62 pm_I62 => ?_))
                        obtain ⟨v63, q_v63⟩ : ∃ v, I62 150 (v20.toInt.toNat) = v := ⟨_, rfl⟩
                        have f_v63 : v63.toInt = 1 := by rw [← q_v63]; exact p0_I62
                        obtain ⟨v64, q_v64⟩ : ∃ v, I62 151 (v20.toInt.toNat) = v := ⟨_, rfl⟩
                        have f_v64 : v64.toInt = v16.toInt := by rw [← q_v64]; exact (congrArg Int32.toInt p1_I62)
                        refine qm_Ru.go 4 (c' := (250, [.ref 118, .int y, .int r, .int s, .int v16, .int v16, .int v20, .int (-1), .int 1], [.int (-3)], (h.1, I62, J58, h.2.2.2))) rfl ?_
                        refine qm_Ru.rt (v := (some (.int (-3)))) (h' := (h.1, I62, J58, h.2.2.2)) rfl ?_
                        exact k (some (.int (-3))) (I62) (J58) ⟨_, rfl, ⟨by decide, by decide⟩⟩ hB_I62 hV_I62 (fun o ho i => ((e_I62 o (hk_ms rfl ho) i).trans ((e_I57 o (hk_ms rfl ho) i).trans ((e_I55 o (hk_ms rfl ho) i).trans ((e_I53 o (hk_ms rfl ho) i).trans rfl)))))
                    · refine qm_Ru.go 1 (c' := (196, [.ref 118, .int y, .int r, .int s, .int v16, .int v16, .int v20, .int (-1), .int 1], [.int (-2)], h)) rfl ?_
                      refine qm_Ru.rt (v := (some (.int (-2)))) (h' := h) rfl ?_
                      exact k (some (.int (-2))) (h.2.1) (h.2.2.1) ⟨_, rfl, ⟨by decide, by decide⟩⟩ hB hV (fun o ho i => rfl)
                · refine qm_Ru.go 1 (c' := (93, [.ref 118, .int y, .int r, .int s, .int v16, .int v16, .int v20, .float 0, .float 0], [.int (-1)], h)) rfl ?_
                  refine qm_Ru.rt (v := (some (.int (-1)))) (h' := h) rfl ?_
                  exact k (some (.int (-1))) (h.2.1) (h.2.2.1) ⟨_, rfl, ⟨by decide, by decide⟩⟩ hB hV (fun o ho i => rfl)
              · refine qm_Ru.go 3 (c' := (70, [.ref 118, .int y, .int r, .int s, .int v16, .float 0, .float 0, .float 0, .float 0], [.int (v16 + 1)], h)) rfl ?_
                rw [q_v17]
                refine qm_Ru.go 3 (c' := (78, [.ref 118, .int y, .int r, .int s, .int v16, .int v17, .float 0, .float 0, .float 0], [.ref 118], h)) rfl ?_
                refine hk_getr rfl (hH.1 118 (17, 105) rfl) rfl (hH.2 118 51 (some 152) rfl) ?_
                refine qm_Ru.go 1 (c' := (83, [.ref 118, .int y, .int r, .int s, .int v16, .int v17, .float 0, .float 0, .float 0], [.int v17, .ref 152], h)) rfl ?_
                refine hk_ial (v := v18) rfl (hH.1 152 (0, 80) rfl) (by omega) (by omega) q_v18 ?_
                refine qm_Ru.go 3 (c' := (89, [.ref 118, .int y, .int r, .int s, .int v16, .int v17, .int v18, .float 0, .float 0], [.int (-1), .int v18], h)) rfl ?_
                refine hk_cne (ix := v18.toInt) (iy := (-1)) rfl rfl rfl (fun z66 => ?_) (fun z66 => by exfalso; omega)
                refine qm_Ru.go 1 (c' := (95, [.ref 118, .int y, .int r, .int s, .int v16, .int v17, .int v18, .float 0, .float 0], [.ref 118], h)) rfl ?_
                refine hk_getr rfl (hH.1 118 (17, 105) rfl) rfl (hH.2 118 48 (some 149) rfl) ?_
                refine qm_Ru.go 1 (c' := (100, [.ref 118, .int y, .int r, .int s, .int v16, .int v17, .int v18, .float 0, .float 0], [.int v18, .ref 149], h)) rfl ?_
                obtain ⟨v67, q_v67⟩ : ∃ v, h.2.1 149 (v18.toInt.toNat) = v := ⟨_, rfl⟩
                have b_v67 : (0 : Int) ≤ v67.toInt ∧ v67.toInt ≤ 1 := by rw [← q_v67]; exact hB 149 (v18.toInt.toNat)
                refine hk_bal (v := v67) rfl (hH.1 149 (2, 30) rfl) (by decide) (by omega) (by omega) q_v67 ?_
                refine qm_Ru.go 0 (c' := (101, [.ref 118, .int y, .int r, .int s, .int v16, .int v17, .int v18, .float 0, .float 0], [.int v67], h)) rfl ?_
                refine hk_zeq (ix := v67.toInt) rfl rfl (fun z68 => ?_) (fun z68 => ?_)
                · refine qm_Ru.go 10 (c' := (139, [.ref 118, .int y, .int r, .int s, .int v16, .int v17, .int v18, .int (-1), .int 1], [.int (-1), .int s], h)) rfl ?_
                  refine hk_ceq (ix := s.toInt) (iy := (-1)) rfl rfl rfl (fun z69 => ?_) (fun z69 => by exfalso; omega)
                  refine qm_Ru.go 1 (c' := (158, [.ref 118, .int y, .int r, .int s, .int v16, .int v17, .int v18, .int (-1), .int 1], [.ref 118], h)) rfl ?_
                  refine hk_getr rfl (hH.1 118 (17, 105) rfl) rfl (hH.2 118 45 (some 146) rfl) ?_
                  refine qm_Ru.go 1 (c' := (163, [.ref 118, .int y, .int r, .int s, .int v16, .int v17, .int v18, .int (-1), .int 1], [.int v18, .ref 146], h)) rfl ?_
                  obtain ⟨v70, q_v70⟩ : ∃ v, h.2.1 146 (v18.toInt.toNat) = v := ⟨_, rfl⟩
                  have b_v70 : (0 : Int) ≤ v70.toInt ∧ v70.toInt ≤ 40 := by rw [← q_v70]; exact hB 146 (v18.toInt.toNat)
                  refine hk_ial (v := v70) rfl (hH.1 146 (0, 30) rfl) (by omega) (by omega) q_v70 ?_
                  refine qm_Ru.go 6 (c' := (182, [.ref 118, .int y, .int r, .int s, .int v16, .int v17, .int v18, .int (-1), .int 1], [.int (v70 + 0)], h)) rfl ?_
                  obtain ⟨v71, q_v71, e_v71⟩ := hk_add (x := v70) (y := 0) (a := v70.toInt) (b := 0) rfl rfl (by omega) (by omega)
                  rw [q_v71]
                  refine qm_Ru.go 1 (c' := (183, [.ref 118, .int y, .int r, .int s, .int v16, .int v17, .int v18, .int (-1), .int 1], [.ref 118, .int v71], h)) rfl ?_
                  refine hk_getr rfl (hH.1 118 (17, 105) rfl) rfl (hH.2 118 24 (some 129) rfl) ?_
                  refine qm_Ru.go 1 (c' := (187, [.ref 118, .int y, .int r, .int s, .int v16, .int v17, .int v18, .int (-1), .int 1], [.ref 118, .ref 129, .int v71], h)) rfl ?_
                  refine hk_geti (v := v1) rfl (hH.1 118 (17, 105) rfl) rfl q_v1 ?_
                  refine qm_Ru.go 0 (c' := (190, [.ref 118, .int y, .int r, .int s, .int v16, .int v17, .int v18, .int (-1), .int 1], [.int v1, .ref 129, .int v71], h)) rfl ?_
                  obtain ⟨v72, q_v72⟩ : ∃ v, h.2.1 129 (v1.toInt.toNat) = v := ⟨_, rfl⟩
                  refine hk_ial (v := v72) rfl (hH.1 129 (0, 2) rfl) (by omega) (by omega) q_v72 ?_
                  refine qm_Ru.go 0 (c' := (191, [.ref 118, .int y, .int r, .int s, .int v16, .int v17, .int v18, .int (-1), .int 1], [.int v72, .int v71], h)) rfl ?_
                  refine hk_cle (ix := v71.toInt) (iy := v72.toInt) rfl rfl rfl (fun z73 => ?_) (fun z73 => ?_)
                  · refine qm_Ru.go 0 (c' := (197, [.ref 118, .int y, .int r, .int s, .int v16, .int v17, .int v18, .int (-1), .int 1], [], h)) rfl ?_
                    have a_v18 := ra_of hV.1 (by omega) q_v18 (by omega)
                    obtain ⟨v74, q_v74⟩ : ∃ v, h.2.1 118 44 = v := ⟨_, rfl⟩
                    have b_v74 : (0 : Int) ≤ v74.toInt ∧ v74.toInt ≤ 30 := by rw [← q_v74]; exact hB 118 44
                    have l_v18 : ((v18.toInt.toNat : Nat) : Int) < v74.toInt := by rw [← q_v74]; exact hV.1.2.2.2 (v18.toInt.toNat) (by show (h.2.1 150 (v18.toInt.toNat)).toInt ≠ 0; omega)
                    obtain ⟨v75, q_v75⟩ : ∃ v, h.2.1 150 (v18.toInt.toNat) = v := ⟨_, rfl⟩
                    have b_v75 : (0 : Int) ≤ v75.toInt ∧ v75.toInt ≤ 2 := by rw [← q_v75]; exact hB 150 (v18.toInt.toNat)
                    obtain ⟨v76, q_v76⟩ : ∃ v, h.2.1 151 (v18.toInt.toNat) = v := ⟨_, rfl⟩
                    have b_v76 : (0 : Int) ≤ v76.toInt ∧ v76.toInt ≤ 79 := by rw [← q_v76]; exact hB 151 (v18.toInt.toNat)
                    rw [q_v75, q_v76] at a_v18
                    refine qm_Ru.go 1 (c' := (198, [.ref 118, .int y, .int r, .int s, .int v16, .int v17, .int v18, .int (-1), .int 1], [.ref 118], h)) rfl ?_
                    refine hk_inv (o := 118) (r := []) (as := [.ref 118]) rfl rfl (hH.1 118 (17, 105) rfl) rfl rfl rfl rfl (hs_looks (h := h) h6 hH hB (v_R_ru hV)  (by omega) (fun I77 J78 hB_I77 e_I77 => ?_))
                    have hV_I77 : v_R I77 := v_R_cg hV e_I77 rfl
                    refine qm_Ru.go 2 (c' := (204, [.ref 118, .int y, .int r, .int s, .int v16, .int v17, .int v18, .int (-1), .int 1], [.int v18, .ref 118], (h.1, I77, J78, h.2.2.2))) rfl ?_
                    refine hk_inv (o := 118) (r := []) (as := [.ref 118, .int v18]) rfl rfl (hH.1 118 (17, 105) rfl) rfl rfl rfl rfl (rl_away (h := (h.1, I77, J78, h.2.2.2)) hH hB_I77 hV_I77 (b := v18) (by omega) (show pI (I77) 150 (v18.toInt.toNat) = 1 from (congrArg Int32.toInt (show (I77) 150 (v18.toInt.toNat) = _ from ((e_I77 150 rfl (v18.toInt.toNat)).trans q_v75))).trans (by omega)) (fun I79 hB_I79 hV_I79 e_I79 p0_I79 pn_I79 => ?_))
                    obtain ⟨v80, q_v80⟩ : ∃ v, I79 150 (v18.toInt.toNat) = v := ⟨_, rfl⟩
                    have f_v80 : v80.toInt = 0 := by rw [← q_v80]; exact p0_I79
                    refine qm_Ru.go 4 (c' := (220, [.ref 118, .int y, .int r, .int s, .int v16, .int v17, .int v18, .int (-1), .int 1], [.ref 118], (h.1, I79, J78, h.2.2.2))) rfl ?_
                    refine hk_inv (o := 118) (r := []) (as := [.ref 118]) rfl rfl (hH.1 118 (17, 105) rfl) rfl rfl rfl rfl (hs_maybe (h := (h.1, I79, J78, h.2.2.2)) h6 hH hB_I79 (v_R_ru hV_I79)  (by omega) (fun v83 I81 J82 c_v83 hB_I81 e_I81 => ?_))
                    have hV_I81 : v_R I81 := v_R_cg hV_I79 e_I81 rfl
                    have b_v83 : (0 : Int) ≤ v83.toInt ∧ v83.toInt ≤ 1 := c_v83
                    refine qm_Ru.go 0 (c' := (223, [.ref 118, .int y, .int r, .int s, .int v16, .int v17, .int v18, .int (-1), .int 1], [.int v83], (h.1, I81, J82, h.2.2.2))) rfl ?_
                    refine hk_zne (ix := v83.toInt) rfl rfl (fun z84 => ?_) (fun z84 => ?_)
                    · refine qm_Ru.go 2 (c' := (253, [.ref 118, .int y, .int r, .int s, .int v16, .int v17, .int v18, .int (-1), .int 1], [.int (-1), .int s], (h.1, I81, J82, h.2.2.2))) rfl ?_
                      refine hk_ceq (ix := s.toInt) (iy := (-1)) rfl rfl rfl (fun z85 => ?_) (fun z85 => by exfalso; omega)
                      refine qm_Ru.go 1 (c' := (278, [.ref 118, .int y, .int r, .int s, .int v16, .int v17, .int v18, .int (-1), .int 1], [.int 1], (h.1, I81, J82, h.2.2.2))) rfl ?_
                      refine qm_Ru.rt (v := (some (.int 1))) (h' := (h.1, I81, J82, h.2.2.2)) rfl ?_
                      exact k (some (.int 1)) (I81) (J82) ⟨_, rfl, ⟨by decide, by decide⟩⟩ hB_I81 hV_I81 (fun o ho i => ((e_I81 o (hk_ms rfl ho) i).trans ((e_I79 o (hk_ms rfl ho) i).trans ((e_I77 o (hk_ms rfl ho) i).trans rfl))))
                    · refine qm_Ru.go 3 (c' := (231, [.ref 118, .int y, .int r, .int s, .int v16, .int v17, .int v18, .int (-1), .int 1], [.int v17, .int v18, .ref 118], (h.1, I81, J82, h.2.2.2))) rfl ?_
                      refine hk_inv (o := 118) (r := []) (as := [.ref 118, .int v18, .int v17]) rfl rfl (hH.1 118 (17, 105) rfl) rfl rfl rfl rfl (rb_boards (h := (h.1, I81, J82, h.2.2.2)) hH hB_I81 hV_I81 (b := v18) (k0 := v17) (by omega) (by omega) (show pI (I81) 150 (v18.toInt.toNat) = 0 from (congrArg Int32.toInt (show (I81) 150 (v18.toInt.toNat) = _ from ((e_I81 150 rfl (v18.toInt.toNat)).trans q_v80))).trans (by omega)) (show ((v18.toInt.toNat : Nat) : Int) < ((I81) 118 44).toInt from by rw [(show (I81) 118 44 = _ from ((e_I81 118 rfl 44).trans ((e_I79 118 rfl 44).trans ((e_I77 118 rfl 44).trans q_v74))))]; omega) (fun I86 hB_I86 hV_I86 e_I86 p0_I86 pn_I86 p1_I86 pm_I86 => ?_))
                      obtain ⟨v87, q_v87⟩ : ∃ v, I86 150 (v18.toInt.toNat) = v := ⟨_, rfl⟩
                      have f_v87 : v87.toInt = 1 := by rw [← q_v87]; exact p0_I86
                      obtain ⟨v88, q_v88⟩ : ∃ v, I86 151 (v18.toInt.toNat) = v := ⟨_, rfl⟩
                      have f_v88 : v88.toInt = v17.toInt := by rw [← q_v88]; exact (congrArg Int32.toInt p1_I86)
                      refine qm_Ru.go 4 (c' := (250, [.ref 118, .int y, .int r, .int s, .int v16, .int v17, .int v18, .int (-1), .int 1], [.int (-3)], (h.1, I86, J82, h.2.2.2))) rfl ?_
                      refine qm_Ru.rt (v := (some (.int (-3)))) (h' := (h.1, I86, J82, h.2.2.2)) rfl ?_
                      exact k (some (.int (-3))) (I86) (J82) ⟨_, rfl, ⟨by decide, by decide⟩⟩ hB_I86 hV_I86 (fun o ho i => ((e_I86 o (hk_ms rfl ho) i).trans ((e_I81 o (hk_ms rfl ho) i).trans ((e_I79 o (hk_ms rfl ho) i).trans ((e_I77 o (hk_ms rfl ho) i).trans rfl)))))
                  · refine qm_Ru.go 1 (c' := (196, [.ref 118, .int y, .int r, .int s, .int v16, .int v17, .int v18, .int (-1), .int 1], [.int (-2)], h)) rfl ?_
                    refine qm_Ru.rt (v := (some (.int (-2)))) (h' := h) rfl ?_
                    exact k (some (.int (-2))) (h.2.1) (h.2.2.1) ⟨_, rfl, ⟨by decide, by decide⟩⟩ hB hV (fun o ho i => rfl)
                · refine qm_Ru.go 2 (c' := (108, [.ref 118, .int y, .int r, .int s, .int v16, .int v17, .int v18, .float 0, .float 0], [.int v16, .int v17], h)) rfl ?_
                  refine hk_cle (ix := v17.toInt) (iy := v16.toInt) rfl rfl rfl (fun z89 => ?_) (fun z89 => ?_)
                  · refine qm_Ru.go 10 (c' := (139, [.ref 118, .int y, .int r, .int s, .int v16, .int v17, .int v18, .int (-1), .int 1], [.int (-1), .int s], h)) rfl ?_
                    refine hk_ceq (ix := s.toInt) (iy := (-1)) rfl rfl rfl (fun z90 => ?_) (fun z90 => by exfalso; omega)
                    refine qm_Ru.go 1 (c' := (158, [.ref 118, .int y, .int r, .int s, .int v16, .int v17, .int v18, .int (-1), .int 1], [.ref 118], h)) rfl ?_
                    refine hk_getr rfl (hH.1 118 (17, 105) rfl) rfl (hH.2 118 45 (some 146) rfl) ?_
                    refine qm_Ru.go 1 (c' := (163, [.ref 118, .int y, .int r, .int s, .int v16, .int v17, .int v18, .int (-1), .int 1], [.int v18, .ref 146], h)) rfl ?_
                    obtain ⟨v91, q_v91⟩ : ∃ v, h.2.1 146 (v18.toInt.toNat) = v := ⟨_, rfl⟩
                    have b_v91 : (0 : Int) ≤ v91.toInt ∧ v91.toInt ≤ 40 := by rw [← q_v91]; exact hB 146 (v18.toInt.toNat)
                    refine hk_ial (v := v91) rfl (hH.1 146 (0, 30) rfl) (by omega) (by omega) q_v91 ?_
                    refine qm_Ru.go 6 (c' := (182, [.ref 118, .int y, .int r, .int s, .int v16, .int v17, .int v18, .int (-1), .int 1], [.int (v91 + 0)], h)) rfl ?_
                    obtain ⟨v92, q_v92, e_v92⟩ := hk_add (x := v91) (y := 0) (a := v91.toInt) (b := 0) rfl rfl (by omega) (by omega)
                    rw [q_v92]
                    refine qm_Ru.go 1 (c' := (183, [.ref 118, .int y, .int r, .int s, .int v16, .int v17, .int v18, .int (-1), .int 1], [.ref 118, .int v92], h)) rfl ?_
                    refine hk_getr rfl (hH.1 118 (17, 105) rfl) rfl (hH.2 118 24 (some 129) rfl) ?_
                    refine qm_Ru.go 1 (c' := (187, [.ref 118, .int y, .int r, .int s, .int v16, .int v17, .int v18, .int (-1), .int 1], [.ref 118, .ref 129, .int v92], h)) rfl ?_
                    refine hk_geti (v := v1) rfl (hH.1 118 (17, 105) rfl) rfl q_v1 ?_
                    refine qm_Ru.go 0 (c' := (190, [.ref 118, .int y, .int r, .int s, .int v16, .int v17, .int v18, .int (-1), .int 1], [.int v1, .ref 129, .int v92], h)) rfl ?_
                    obtain ⟨v93, q_v93⟩ : ∃ v, h.2.1 129 (v1.toInt.toNat) = v := ⟨_, rfl⟩
                    refine hk_ial (v := v93) rfl (hH.1 129 (0, 2) rfl) (by omega) (by omega) q_v93 ?_
                    refine qm_Ru.go 0 (c' := (191, [.ref 118, .int y, .int r, .int s, .int v16, .int v17, .int v18, .int (-1), .int 1], [.int v93, .int v92], h)) rfl ?_
                    refine hk_cle (ix := v92.toInt) (iy := v93.toInt) rfl rfl rfl (fun z94 => ?_) (fun z94 => ?_)
                    · refine qm_Ru.go 0 (c' := (197, [.ref 118, .int y, .int r, .int s, .int v16, .int v17, .int v18, .int (-1), .int 1], [], h)) rfl ?_
                      have a_v18 := ra_of hV.1 (by omega) q_v18 (by omega)
                      obtain ⟨v95, q_v95⟩ : ∃ v, h.2.1 118 44 = v := ⟨_, rfl⟩
                      have b_v95 : (0 : Int) ≤ v95.toInt ∧ v95.toInt ≤ 30 := by rw [← q_v95]; exact hB 118 44
                      have l_v18 : ((v18.toInt.toNat : Nat) : Int) < v95.toInt := by rw [← q_v95]; exact hV.1.2.2.2 (v18.toInt.toNat) (by show (h.2.1 150 (v18.toInt.toNat)).toInt ≠ 0; omega)
                      obtain ⟨v96, q_v96⟩ : ∃ v, h.2.1 150 (v18.toInt.toNat) = v := ⟨_, rfl⟩
                      have b_v96 : (0 : Int) ≤ v96.toInt ∧ v96.toInt ≤ 2 := by rw [← q_v96]; exact hB 150 (v18.toInt.toNat)
                      obtain ⟨v97, q_v97⟩ : ∃ v, h.2.1 151 (v18.toInt.toNat) = v := ⟨_, rfl⟩
                      have b_v97 : (0 : Int) ≤ v97.toInt ∧ v97.toInt ≤ 79 := by rw [← q_v97]; exact hB 151 (v18.toInt.toNat)
                      rw [q_v96, q_v97] at a_v18
                      refine qm_Ru.go 1 (c' := (198, [.ref 118, .int y, .int r, .int s, .int v16, .int v17, .int v18, .int (-1), .int 1], [.ref 118], h)) rfl ?_
                      refine hk_inv (o := 118) (r := []) (as := [.ref 118]) rfl rfl (hH.1 118 (17, 105) rfl) rfl rfl rfl rfl (hs_looks (h := h) h6 hH hB (v_R_ru hV)  (by omega) (fun I98 J99 hB_I98 e_I98 => ?_))
                      have hV_I98 : v_R I98 := v_R_cg hV e_I98 rfl
                      refine qm_Ru.go 2 (c' := (204, [.ref 118, .int y, .int r, .int s, .int v16, .int v17, .int v18, .int (-1), .int 1], [.int v18, .ref 118], (h.1, I98, J99, h.2.2.2))) rfl ?_
                      refine hk_inv (o := 118) (r := []) (as := [.ref 118, .int v18]) rfl rfl (hH.1 118 (17, 105) rfl) rfl rfl rfl rfl (rl_away (h := (h.1, I98, J99, h.2.2.2)) hH hB_I98 hV_I98 (b := v18) (by omega) (show pI (I98) 150 (v18.toInt.toNat) = 1 from (congrArg Int32.toInt (show (I98) 150 (v18.toInt.toNat) = _ from ((e_I98 150 rfl (v18.toInt.toNat)).trans q_v96))).trans (by omega)) (fun I100 hB_I100 hV_I100 e_I100 p0_I100 pn_I100 => ?_))
                      obtain ⟨v101, q_v101⟩ : ∃ v, I100 150 (v18.toInt.toNat) = v := ⟨_, rfl⟩
                      have f_v101 : v101.toInt = 0 := by rw [← q_v101]; exact p0_I100
                      refine qm_Ru.go 4 (c' := (220, [.ref 118, .int y, .int r, .int s, .int v16, .int v17, .int v18, .int (-1), .int 1], [.ref 118], (h.1, I100, J99, h.2.2.2))) rfl ?_
                      refine hk_inv (o := 118) (r := []) (as := [.ref 118]) rfl rfl (hH.1 118 (17, 105) rfl) rfl rfl rfl rfl (hs_maybe (h := (h.1, I100, J99, h.2.2.2)) h6 hH hB_I100 (v_R_ru hV_I100)  (by omega) (fun v104 I102 J103 c_v104 hB_I102 e_I102 => ?_))
                      have hV_I102 : v_R I102 := v_R_cg hV_I100 e_I102 rfl
                      have b_v104 : (0 : Int) ≤ v104.toInt ∧ v104.toInt ≤ 1 := c_v104
                      refine qm_Ru.go 0 (c' := (223, [.ref 118, .int y, .int r, .int s, .int v16, .int v17, .int v18, .int (-1), .int 1], [.int v104], (h.1, I102, J103, h.2.2.2))) rfl ?_
                      refine hk_zne (ix := v104.toInt) rfl rfl (fun z105 => ?_) (fun z105 => ?_)
                      · refine qm_Ru.go 2 (c' := (253, [.ref 118, .int y, .int r, .int s, .int v16, .int v17, .int v18, .int (-1), .int 1], [.int (-1), .int s], (h.1, I102, J103, h.2.2.2))) rfl ?_
                        refine hk_ceq (ix := s.toInt) (iy := (-1)) rfl rfl rfl (fun z106 => ?_) (fun z106 => by exfalso; omega)
                        refine qm_Ru.go 1 (c' := (278, [.ref 118, .int y, .int r, .int s, .int v16, .int v17, .int v18, .int (-1), .int 1], [.int 1], (h.1, I102, J103, h.2.2.2))) rfl ?_
                        refine qm_Ru.rt (v := (some (.int 1))) (h' := (h.1, I102, J103, h.2.2.2)) rfl ?_
                        exact k (some (.int 1)) (I102) (J103) ⟨_, rfl, ⟨by decide, by decide⟩⟩ hB_I102 hV_I102 (fun o ho i => ((e_I102 o (hk_ms rfl ho) i).trans ((e_I100 o (hk_ms rfl ho) i).trans ((e_I98 o (hk_ms rfl ho) i).trans rfl))))
                      · refine qm_Ru.go 3 (c' := (231, [.ref 118, .int y, .int r, .int s, .int v16, .int v17, .int v18, .int (-1), .int 1], [.int v17, .int v18, .ref 118], (h.1, I102, J103, h.2.2.2))) rfl ?_
                        refine hk_inv (o := 118) (r := []) (as := [.ref 118, .int v18, .int v17]) rfl rfl (hH.1 118 (17, 105) rfl) rfl rfl rfl rfl (rb_boards (h := (h.1, I102, J103, h.2.2.2)) hH hB_I102 hV_I102 (b := v18) (k0 := v17) (by omega) (by omega) (show pI (I102) 150 (v18.toInt.toNat) = 0 from (congrArg Int32.toInt (show (I102) 150 (v18.toInt.toNat) = _ from ((e_I102 150 rfl (v18.toInt.toNat)).trans q_v101))).trans (by omega)) (show ((v18.toInt.toNat : Nat) : Int) < ((I102) 118 44).toInt from by rw [(show (I102) 118 44 = _ from ((e_I102 118 rfl 44).trans ((e_I100 118 rfl 44).trans ((e_I98 118 rfl 44).trans q_v95))))]; omega) (fun I107 hB_I107 hV_I107 e_I107 p0_I107 pn_I107 p1_I107 pm_I107 => ?_))
                        obtain ⟨v108, q_v108⟩ : ∃ v, I107 150 (v18.toInt.toNat) = v := ⟨_, rfl⟩
                        have f_v108 : v108.toInt = 1 := by rw [← q_v108]; exact p0_I107
                        obtain ⟨v109, q_v109⟩ : ∃ v, I107 151 (v18.toInt.toNat) = v := ⟨_, rfl⟩
                        have f_v109 : v109.toInt = v17.toInt := by rw [← q_v109]; exact (congrArg Int32.toInt p1_I107)
                        refine qm_Ru.go 4 (c' := (250, [.ref 118, .int y, .int r, .int s, .int v16, .int v17, .int v18, .int (-1), .int 1], [.int (-3)], (h.1, I107, J103, h.2.2.2))) rfl ?_
                        refine qm_Ru.rt (v := (some (.int (-3)))) (h' := (h.1, I107, J103, h.2.2.2)) rfl ?_
                        exact k (some (.int (-3))) (I107) (J103) ⟨_, rfl, ⟨by decide, by decide⟩⟩ hB_I107 hV_I107 (fun o ho i => ((e_I107 o (hk_ms rfl ho) i).trans ((e_I102 o (hk_ms rfl ho) i).trans ((e_I100 o (hk_ms rfl ho) i).trans ((e_I98 o (hk_ms rfl ho) i).trans rfl)))))
                    · refine qm_Ru.go 1 (c' := (196, [.ref 118, .int y, .int r, .int s, .int v16, .int v17, .int v18, .int (-1), .int 1], [.int (-2)], h)) rfl ?_
                      refine qm_Ru.rt (v := (some (.int (-2)))) (h' := h) rfl ?_
                      exact k (some (.int (-2))) (h.2.1) (h.2.2.1) ⟨_, rfl, ⟨by decide, by decide⟩⟩ hB hV (fun o ho i => rfl)
                  · refine qm_Ru.go 1 (c' := (112, [.ref 118, .int y, .int r, .int s, .int v16, .int v17, .int v18, .float 0, .float 0], [.ref 118], h)) rfl ?_
                    refine hk_getr rfl (hH.1 118 (17, 105) rfl) rfl (hH.2 118 51 (some 152) rfl) ?_
                    refine qm_Ru.go 1 (c' := (117, [.ref 118, .int y, .int r, .int s, .int v16, .int v17, .int v18, .float 0, .float 0], [.int v16, .ref 152], h)) rfl ?_
                    obtain ⟨v110, q_v110⟩ : ∃ v, h.2.1 152 (v16.toInt.toNat) = v := ⟨_, rfl⟩
                    have b_v110 : (-1 : Int) ≤ v110.toInt ∧ v110.toInt ≤ 29 := by rw [← q_v110]; exact hB 152 (v16.toInt.toNat)
                    refine hk_ial (v := v110) rfl (hH.1 152 (0, 80) rfl) (by omega) (by omega) q_v110 ?_
                    refine qm_Ru.go 4 (c' := (127, [.ref 118, .int y, .int r, .int s, .int v16, .int v17, .int v18, .int v110, .float 0], [.int (-1), .int v110], h)) rfl ?_
                    refine hk_cne (ix := v110.toInt) (iy := (-1)) rfl rfl rfl (fun z111 => ?_) (fun z111 => ?_)
                    · refine qm_Ru.go 4 (c' := (139, [.ref 118, .int y, .int r, .int s, .int v16, .int v17, .int v18, .int v110, .int 2], [.int (-1), .int s], h)) rfl ?_
                      refine hk_ceq (ix := s.toInt) (iy := (-1)) rfl rfl rfl (fun z112 => ?_) (fun z112 => by exfalso; omega)
                      refine qm_Ru.go 1 (c' := (158, [.ref 118, .int y, .int r, .int s, .int v16, .int v17, .int v18, .int v110, .int 2], [.ref 118], h)) rfl ?_
                      refine hk_getr rfl (hH.1 118 (17, 105) rfl) rfl (hH.2 118 45 (some 146) rfl) ?_
                      refine qm_Ru.go 1 (c' := (163, [.ref 118, .int y, .int r, .int s, .int v16, .int v17, .int v18, .int v110, .int 2], [.int v18, .ref 146], h)) rfl ?_
                      obtain ⟨v113, q_v113⟩ : ∃ v, h.2.1 146 (v18.toInt.toNat) = v := ⟨_, rfl⟩
                      have b_v113 : (0 : Int) ≤ v113.toInt ∧ v113.toInt ≤ 40 := by rw [← q_v113]; exact hB 146 (v18.toInt.toNat)
                      refine hk_ial (v := v113) rfl (hH.1 146 (0, 30) rfl) (by omega) (by omega) q_v113 ?_
                      refine qm_Ru.go 2 (c' := (167, [.ref 118, .int y, .int r, .int s, .int v16, .int v17, .int v18, .int v110, .int 2], [.int (-1), .int v110, .int v113], h)) rfl ?_
                      refine hk_cne (ix := v110.toInt) (iy := (-1)) rfl rfl rfl (fun z114 => ?_) (fun z114 => by exfalso; omega)
                      refine qm_Ru.go 1 (c' := (175, [.ref 118, .int y, .int r, .int s, .int v16, .int v17, .int v18, .int v110, .int 2], [.ref 118, .int v113], h)) rfl ?_
                      refine hk_getr rfl (hH.1 118 (17, 105) rfl) rfl (hH.2 118 45 (some 146) rfl) ?_
                      refine qm_Ru.go 1 (c' := (180, [.ref 118, .int y, .int r, .int s, .int v16, .int v17, .int v18, .int v110, .int 2], [.int v110, .ref 146, .int v113], h)) rfl ?_
                      obtain ⟨v115, q_v115⟩ : ∃ v, h.2.1 146 (v110.toInt.toNat) = v := ⟨_, rfl⟩
                      have b_v115 : (0 : Int) ≤ v115.toInt ∧ v115.toInt ≤ 40 := by rw [← q_v115]; exact hB 146 (v110.toInt.toNat)
                      refine hk_ial (v := v115) rfl (hH.1 146 (0, 30) rfl) (by omega) (by omega) q_v115 ?_
                      refine qm_Ru.go 1 (c' := (182, [.ref 118, .int y, .int r, .int s, .int v16, .int v17, .int v18, .int v110, .int 2], [.int (v113 + v115)], h)) rfl ?_
                      obtain ⟨v116, q_v116, e_v116⟩ := hk_add (x := v113) (y := v115) (a := v113.toInt) (b := v115.toInt) rfl rfl (by omega) (by omega)
                      rw [q_v116]
                      refine qm_Ru.go 1 (c' := (183, [.ref 118, .int y, .int r, .int s, .int v16, .int v17, .int v18, .int v110, .int 2], [.ref 118, .int v116], h)) rfl ?_
                      refine hk_getr rfl (hH.1 118 (17, 105) rfl) rfl (hH.2 118 24 (some 129) rfl) ?_
                      refine qm_Ru.go 1 (c' := (187, [.ref 118, .int y, .int r, .int s, .int v16, .int v17, .int v18, .int v110, .int 2], [.ref 118, .ref 129, .int v116], h)) rfl ?_
                      refine hk_geti (v := v1) rfl (hH.1 118 (17, 105) rfl) rfl q_v1 ?_
                      refine qm_Ru.go 0 (c' := (190, [.ref 118, .int y, .int r, .int s, .int v16, .int v17, .int v18, .int v110, .int 2], [.int v1, .ref 129, .int v116], h)) rfl ?_
                      obtain ⟨v117, q_v117⟩ : ∃ v, h.2.1 129 (v1.toInt.toNat) = v := ⟨_, rfl⟩
                      refine hk_ial (v := v117) rfl (hH.1 129 (0, 2) rfl) (by omega) (by omega) q_v117 ?_
                      refine qm_Ru.go 0 (c' := (191, [.ref 118, .int y, .int r, .int s, .int v16, .int v17, .int v18, .int v110, .int 2], [.int v117, .int v116], h)) rfl ?_
                      refine hk_cle (ix := v116.toInt) (iy := v117.toInt) rfl rfl rfl (fun z118 => ?_) (fun z118 => ?_)
                      · refine qm_Ru.go 0 (c' := (197, [.ref 118, .int y, .int r, .int s, .int v16, .int v17, .int v18, .int v110, .int 2], [], h)) rfl ?_
                        have a_v18 := ra_of hV.1 (by omega) q_v18 (by omega)
                        have a_v110 := ra_of hV.1 (by omega) q_v110 (by omega)
                        have n_v110 : v110.toInt ≠ v18.toInt := fun e => by have e2 : v110 = v18 := hk_eqi.mpr e; subst e2; omega
                        obtain ⟨v119, q_v119⟩ : ∃ v, h.2.1 118 44 = v := ⟨_, rfl⟩
                        have b_v119 : (0 : Int) ≤ v119.toInt ∧ v119.toInt ≤ 30 := by rw [← q_v119]; exact hB 118 44
                        have l_v18 : ((v18.toInt.toNat : Nat) : Int) < v119.toInt := by rw [← q_v119]; exact hV.1.2.2.2 (v18.toInt.toNat) (by show (h.2.1 150 (v18.toInt.toNat)).toInt ≠ 0; omega)
                        obtain ⟨v120, q_v120⟩ : ∃ v, h.2.1 150 (v18.toInt.toNat) = v := ⟨_, rfl⟩
                        have b_v120 : (0 : Int) ≤ v120.toInt ∧ v120.toInt ≤ 2 := by rw [← q_v120]; exact hB 150 (v18.toInt.toNat)
                        obtain ⟨v121, q_v121⟩ : ∃ v, h.2.1 151 (v18.toInt.toNat) = v := ⟨_, rfl⟩
                        have b_v121 : (0 : Int) ≤ v121.toInt ∧ v121.toInt ≤ 79 := by rw [← q_v121]; exact hB 151 (v18.toInt.toNat)
                        rw [q_v120, q_v121] at a_v18
                        have l_v110 : ((v110.toInt.toNat : Nat) : Int) < v119.toInt := by rw [← q_v119]; exact hV.1.2.2.2 (v110.toInt.toNat) (by show (h.2.1 150 (v110.toInt.toNat)).toInt ≠ 0; omega)
                        obtain ⟨v122, q_v122⟩ : ∃ v, h.2.1 150 (v110.toInt.toNat) = v := ⟨_, rfl⟩
                        have b_v122 : (0 : Int) ≤ v122.toInt ∧ v122.toInt ≤ 2 := by rw [← q_v122]; exact hB 150 (v110.toInt.toNat)
                        obtain ⟨v123, q_v123⟩ : ∃ v, h.2.1 151 (v110.toInt.toNat) = v := ⟨_, rfl⟩
                        have b_v123 : (0 : Int) ≤ v123.toInt ∧ v123.toInt ≤ 79 := by rw [← q_v123]; exact hB 151 (v110.toInt.toNat)
                        rw [q_v122, q_v123] at a_v110
                        refine qm_Ru.go 1 (c' := (198, [.ref 118, .int y, .int r, .int s, .int v16, .int v17, .int v18, .int v110, .int 2], [.ref 118], h)) rfl ?_
                        refine hk_inv (o := 118) (r := []) (as := [.ref 118]) rfl rfl (hH.1 118 (17, 105) rfl) rfl rfl rfl rfl (hs_looks (h := h) h6 hH hB (v_R_ru hV)  (by omega) (fun I124 J125 hB_I124 e_I124 => ?_))
                        have hV_I124 : v_R I124 := v_R_cg hV e_I124 rfl
                        refine qm_Ru.go 2 (c' := (204, [.ref 118, .int y, .int r, .int s, .int v16, .int v17, .int v18, .int v110, .int 2], [.int v18, .ref 118], (h.1, I124, J125, h.2.2.2))) rfl ?_
                        refine hk_inv (o := 118) (r := []) (as := [.ref 118, .int v18]) rfl rfl (hH.1 118 (17, 105) rfl) rfl rfl rfl rfl (rl_away (h := (h.1, I124, J125, h.2.2.2)) hH hB_I124 hV_I124 (b := v18) (by omega) (show pI (I124) 150 (v18.toInt.toNat) = 1 from (congrArg Int32.toInt (show (I124) 150 (v18.toInt.toNat) = _ from ((e_I124 150 rfl (v18.toInt.toNat)).trans q_v120))).trans (by omega)) (fun I126 hB_I126 hV_I126 e_I126 p0_I126 pn_I126 => ?_))
                        obtain ⟨v127, q_v127⟩ : ∃ v, I126 150 (v18.toInt.toNat) = v := ⟨_, rfl⟩
                        have f_v127 : v127.toInt = 0 := by rw [← q_v127]; exact p0_I126
                        refine qm_Ru.go 2 (c' := (210, [.ref 118, .int y, .int r, .int s, .int v16, .int v17, .int v18, .int v110, .int 2], [.int (-1), .int v110], (h.1, I126, J125, h.2.2.2))) rfl ?_
                        refine hk_ceq (ix := v110.toInt) (iy := (-1)) rfl rfl rfl (fun z128 => by exfalso; omega) (fun z128 => ?_)
                        refine qm_Ru.go 2 (c' := (216, [.ref 118, .int y, .int r, .int s, .int v16, .int v17, .int v18, .int v110, .int 2], [.int v110, .ref 118], (h.1, I126, J125, h.2.2.2))) rfl ?_
                        refine hk_inv (o := 118) (r := []) (as := [.ref 118, .int v110]) rfl rfl (hH.1 118 (17, 105) rfl) rfl rfl rfl rfl (rl_away (h := (h.1, I126, J125, h.2.2.2)) hH hB_I126 hV_I126 (b := v110) (by omega) (show pI (I126) 150 (v110.toInt.toNat) = 1 from (congrArg Int32.toInt (show (I126) 150 (v110.toInt.toNat) = _ from ((pn_I126 (v110.toInt.toNat) (by omega)).trans ((e_I124 150 rfl (v110.toInt.toNat)).trans q_v122)))).trans (by omega)) (fun I129 hB_I129 hV_I129 e_I129 p0_I129 pn_I129 => ?_))
                        obtain ⟨v130, q_v130⟩ : ∃ v, I129 150 (v110.toInt.toNat) = v := ⟨_, rfl⟩
                        have f_v130 : v130.toInt = 0 := by rw [← q_v130]; exact p0_I129
                        refine qm_Ru.go 1 (c' := (220, [.ref 118, .int y, .int r, .int s, .int v16, .int v17, .int v18, .int v110, .int 2], [.ref 118], (h.1, I129, J125, h.2.2.2))) rfl ?_
                        refine hk_inv (o := 118) (r := []) (as := [.ref 118]) rfl rfl (hH.1 118 (17, 105) rfl) rfl rfl rfl rfl (hs_maybe (h := (h.1, I129, J125, h.2.2.2)) h6 hH hB_I129 (v_R_ru hV_I129)  (by omega) (fun v133 I131 J132 c_v133 hB_I131 e_I131 => ?_))
                        have hV_I131 : v_R I131 := v_R_cg hV_I129 e_I131 rfl
                        have b_v133 : (0 : Int) ≤ v133.toInt ∧ v133.toInt ≤ 1 := c_v133
                        refine qm_Ru.go 0 (c' := (223, [.ref 118, .int y, .int r, .int s, .int v16, .int v17, .int v18, .int v110, .int 2], [.int v133], (h.1, I131, J132, h.2.2.2))) rfl ?_
                        refine hk_zne (ix := v133.toInt) rfl rfl (fun z134 => ?_) (fun z134 => ?_)
                        · refine qm_Ru.go 2 (c' := (253, [.ref 118, .int y, .int r, .int s, .int v16, .int v17, .int v18, .int v110, .int 2], [.int (-1), .int s], (h.1, I131, J132, h.2.2.2))) rfl ?_
                          refine hk_ceq (ix := s.toInt) (iy := (-1)) rfl rfl rfl (fun z135 => ?_) (fun z135 => by exfalso; omega)
                          refine qm_Ru.go 1 (c' := (278, [.ref 118, .int y, .int r, .int s, .int v16, .int v17, .int v18, .int v110, .int 2], [.int 2], (h.1, I131, J132, h.2.2.2))) rfl ?_
                          refine qm_Ru.rt (v := (some (.int 2))) (h' := (h.1, I131, J132, h.2.2.2)) rfl ?_
                          exact k (some (.int 2)) (I131) (J132) ⟨_, rfl, ⟨by decide, by decide⟩⟩ hB_I131 hV_I131 (fun o ho i => ((e_I131 o (hk_ms rfl ho) i).trans ((e_I129 o (hk_ms rfl ho) i).trans ((e_I126 o (hk_ms rfl ho) i).trans ((e_I124 o (hk_ms rfl ho) i).trans rfl)))))
                        · refine qm_Ru.go 3 (c' := (231, [.ref 118, .int y, .int r, .int s, .int v16, .int v17, .int v18, .int v110, .int 2], [.int v17, .int v18, .ref 118], (h.1, I131, J132, h.2.2.2))) rfl ?_
                          refine hk_inv (o := 118) (r := []) (as := [.ref 118, .int v18, .int v17]) rfl rfl (hH.1 118 (17, 105) rfl) rfl rfl rfl rfl (rb_boards (h := (h.1, I131, J132, h.2.2.2)) hH hB_I131 hV_I131 (b := v18) (k0 := v17) (by omega) (by omega) (show pI (I131) 150 (v18.toInt.toNat) = 0 from (congrArg Int32.toInt (show (I131) 150 (v18.toInt.toNat) = _ from ((e_I131 150 rfl (v18.toInt.toNat)).trans ((pn_I129 (v18.toInt.toNat) (by omega)).trans q_v127)))).trans (by omega)) (show ((v18.toInt.toNat : Nat) : Int) < ((I131) 118 44).toInt from by rw [(show (I131) 118 44 = _ from ((e_I131 118 rfl 44).trans ((e_I129 118 rfl 44).trans ((e_I126 118 rfl 44).trans ((e_I124 118 rfl 44).trans q_v119)))))]; omega) (fun I136 hB_I136 hV_I136 e_I136 p0_I136 pn_I136 p1_I136 pm_I136 => ?_))
                          obtain ⟨v137, q_v137⟩ : ∃ v, I136 150 (v18.toInt.toNat) = v := ⟨_, rfl⟩
                          have f_v137 : v137.toInt = 1 := by rw [← q_v137]; exact p0_I136
                          obtain ⟨v138, q_v138⟩ : ∃ v, I136 151 (v18.toInt.toNat) = v := ⟨_, rfl⟩
                          have f_v138 : v138.toInt = v17.toInt := by rw [← q_v138]; exact (congrArg Int32.toInt p1_I136)
                          refine qm_Ru.go 2 (c' := (237, [.ref 118, .int y, .int r, .int s, .int v16, .int v17, .int v18, .int v110, .int 2], [.int (-1), .int v110], (h.1, I136, J132, h.2.2.2))) rfl ?_
                          refine hk_ceq (ix := v110.toInt) (iy := (-1)) rfl rfl rfl (fun z139 => by exfalso; omega) (fun z139 => ?_)
                          refine qm_Ru.go 3 (c' := (245, [.ref 118, .int y, .int r, .int s, .int v16, .int v17, .int v18, .int v110, .int 2], [.int v16, .int v110, .ref 118], (h.1, I136, J132, h.2.2.2))) rfl ?_
                          refine hk_inv (o := 118) (r := []) (as := [.ref 118, .int v110, .int v16]) rfl rfl (hH.1 118 (17, 105) rfl) rfl rfl rfl rfl (rb_boards (h := (h.1, I136, J132, h.2.2.2)) hH hB_I136 hV_I136 (b := v110) (k0 := v16) (by omega) (by omega) (show pI (I136) 150 (v110.toInt.toNat) = 0 from (congrArg Int32.toInt (show (I136) 150 (v110.toInt.toNat) = _ from ((pn_I136 (v110.toInt.toNat) (by omega)).trans ((e_I131 150 rfl (v110.toInt.toNat)).trans q_v130)))).trans (by omega)) (show ((v110.toInt.toNat : Nat) : Int) < ((I136) 118 44).toInt from by rw [(show (I136) 118 44 = _ from ((e_I136 118 rfl 44).trans ((e_I131 118 rfl 44).trans ((e_I129 118 rfl 44).trans ((e_I126 118 rfl 44).trans ((e_I124 118 rfl 44).trans q_v119))))))]; omega) (fun I140 hB_I140 hV_I140 e_I140 p0_I140 pn_I140 p1_I140 pm_I140 => ?_))
                          obtain ⟨v141, q_v141⟩ : ∃ v, I140 150 (v110.toInt.toNat) = v := ⟨_, rfl⟩
                          have f_v141 : v141.toInt = 1 := by rw [← q_v141]; exact p0_I140
                          obtain ⟨v142, q_v142⟩ : ∃ v, I140 151 (v110.toInt.toNat) = v := ⟨_, rfl⟩
                          have f_v142 : v142.toInt = v16.toInt := by rw [← q_v142]; exact (congrArg Int32.toInt p1_I140)
                          refine qm_Ru.go 1 (c' := (250, [.ref 118, .int y, .int r, .int s, .int v16, .int v17, .int v18, .int v110, .int 2], [.int (-3)], (h.1, I140, J132, h.2.2.2))) rfl ?_
                          refine qm_Ru.rt (v := (some (.int (-3)))) (h' := (h.1, I140, J132, h.2.2.2)) rfl ?_
                          exact k (some (.int (-3))) (I140) (J132) ⟨_, rfl, ⟨by decide, by decide⟩⟩ hB_I140 hV_I140 (fun o ho i => ((e_I140 o (hk_ms rfl ho) i).trans ((e_I136 o (hk_ms rfl ho) i).trans ((e_I131 o (hk_ms rfl ho) i).trans ((e_I129 o (hk_ms rfl ho) i).trans ((e_I126 o (hk_ms rfl ho) i).trans ((e_I124 o (hk_ms rfl ho) i).trans rfl)))))))
                      · refine qm_Ru.go 1 (c' := (196, [.ref 118, .int y, .int r, .int s, .int v16, .int v17, .int v18, .int v110, .int 2], [.int (-2)], h)) rfl ?_
                        refine qm_Ru.rt (v := (some (.int (-2)))) (h' := h) rfl ?_
                        exact k (some (.int (-2))) (h.2.1) (h.2.2.1) ⟨_, rfl, ⟨by decide, by decide⟩⟩ hB hV (fun o ho i => rfl)
                    · refine qm_Ru.go 5 (c' := (139, [.ref 118, .int y, .int r, .int s, .int v16, .int v17, .int v18, .int v110, .int 1], [.int (-1), .int s], h)) rfl ?_
                      refine hk_ceq (ix := s.toInt) (iy := (-1)) rfl rfl rfl (fun z143 => ?_) (fun z143 => by exfalso; omega)
                      refine qm_Ru.go 1 (c' := (158, [.ref 118, .int y, .int r, .int s, .int v16, .int v17, .int v18, .int v110, .int 1], [.ref 118], h)) rfl ?_
                      refine hk_getr rfl (hH.1 118 (17, 105) rfl) rfl (hH.2 118 45 (some 146) rfl) ?_
                      refine qm_Ru.go 1 (c' := (163, [.ref 118, .int y, .int r, .int s, .int v16, .int v17, .int v18, .int v110, .int 1], [.int v18, .ref 146], h)) rfl ?_
                      obtain ⟨v144, q_v144⟩ : ∃ v, h.2.1 146 (v18.toInt.toNat) = v := ⟨_, rfl⟩
                      have b_v144 : (0 : Int) ≤ v144.toInt ∧ v144.toInt ≤ 40 := by rw [← q_v144]; exact hB 146 (v18.toInt.toNat)
                      refine hk_ial (v := v144) rfl (hH.1 146 (0, 30) rfl) (by omega) (by omega) q_v144 ?_
                      refine qm_Ru.go 2 (c' := (167, [.ref 118, .int y, .int r, .int s, .int v16, .int v17, .int v18, .int v110, .int 1], [.int (-1), .int v110, .int v144], h)) rfl ?_
                      refine hk_cne (ix := v110.toInt) (iy := (-1)) rfl rfl rfl (fun z145 => by exfalso; omega) (fun z145 => ?_)
                      refine qm_Ru.go 3 (c' := (182, [.ref 118, .int y, .int r, .int s, .int v16, .int v17, .int v18, .int v110, .int 1], [.int (v144 + 0)], h)) rfl ?_
                      obtain ⟨v146, q_v146, e_v146⟩ := hk_add (x := v144) (y := 0) (a := v144.toInt) (b := 0) rfl rfl (by omega) (by omega)
                      rw [q_v146]
                      refine qm_Ru.go 1 (c' := (183, [.ref 118, .int y, .int r, .int s, .int v16, .int v17, .int v18, .int v110, .int 1], [.ref 118, .int v146], h)) rfl ?_
                      refine hk_getr rfl (hH.1 118 (17, 105) rfl) rfl (hH.2 118 24 (some 129) rfl) ?_
                      refine qm_Ru.go 1 (c' := (187, [.ref 118, .int y, .int r, .int s, .int v16, .int v17, .int v18, .int v110, .int 1], [.ref 118, .ref 129, .int v146], h)) rfl ?_
                      refine hk_geti (v := v1) rfl (hH.1 118 (17, 105) rfl) rfl q_v1 ?_
                      refine qm_Ru.go 0 (c' := (190, [.ref 118, .int y, .int r, .int s, .int v16, .int v17, .int v18, .int v110, .int 1], [.int v1, .ref 129, .int v146], h)) rfl ?_
                      obtain ⟨v147, q_v147⟩ : ∃ v, h.2.1 129 (v1.toInt.toNat) = v := ⟨_, rfl⟩
                      refine hk_ial (v := v147) rfl (hH.1 129 (0, 2) rfl) (by omega) (by omega) q_v147 ?_
                      refine qm_Ru.go 0 (c' := (191, [.ref 118, .int y, .int r, .int s, .int v16, .int v17, .int v18, .int v110, .int 1], [.int v147, .int v146], h)) rfl ?_
                      refine hk_cle (ix := v146.toInt) (iy := v147.toInt) rfl rfl rfl (fun z148 => ?_) (fun z148 => ?_)
                      · refine qm_Ru.go 0 (c' := (197, [.ref 118, .int y, .int r, .int s, .int v16, .int v17, .int v18, .int v110, .int 1], [], h)) rfl ?_
                        have a_v18 := ra_of hV.1 (by omega) q_v18 (by omega)
                        obtain ⟨v149, q_v149⟩ : ∃ v, h.2.1 118 44 = v := ⟨_, rfl⟩
                        have b_v149 : (0 : Int) ≤ v149.toInt ∧ v149.toInt ≤ 30 := by rw [← q_v149]; exact hB 118 44
                        have l_v18 : ((v18.toInt.toNat : Nat) : Int) < v149.toInt := by rw [← q_v149]; exact hV.1.2.2.2 (v18.toInt.toNat) (by show (h.2.1 150 (v18.toInt.toNat)).toInt ≠ 0; omega)
                        obtain ⟨v150, q_v150⟩ : ∃ v, h.2.1 150 (v18.toInt.toNat) = v := ⟨_, rfl⟩
                        have b_v150 : (0 : Int) ≤ v150.toInt ∧ v150.toInt ≤ 2 := by rw [← q_v150]; exact hB 150 (v18.toInt.toNat)
                        obtain ⟨v151, q_v151⟩ : ∃ v, h.2.1 151 (v18.toInt.toNat) = v := ⟨_, rfl⟩
                        have b_v151 : (0 : Int) ≤ v151.toInt ∧ v151.toInt ≤ 79 := by rw [← q_v151]; exact hB 151 (v18.toInt.toNat)
                        rw [q_v150, q_v151] at a_v18
                        refine qm_Ru.go 1 (c' := (198, [.ref 118, .int y, .int r, .int s, .int v16, .int v17, .int v18, .int v110, .int 1], [.ref 118], h)) rfl ?_
                        refine hk_inv (o := 118) (r := []) (as := [.ref 118]) rfl rfl (hH.1 118 (17, 105) rfl) rfl rfl rfl rfl (hs_looks (h := h) h6 hH hB (v_R_ru hV)  (by omega) (fun I152 J153 hB_I152 e_I152 => ?_))
                        have hV_I152 : v_R I152 := v_R_cg hV e_I152 rfl
                        refine qm_Ru.go 2 (c' := (204, [.ref 118, .int y, .int r, .int s, .int v16, .int v17, .int v18, .int v110, .int 1], [.int v18, .ref 118], (h.1, I152, J153, h.2.2.2))) rfl ?_
                        refine hk_inv (o := 118) (r := []) (as := [.ref 118, .int v18]) rfl rfl (hH.1 118 (17, 105) rfl) rfl rfl rfl rfl (rl_away (h := (h.1, I152, J153, h.2.2.2)) hH hB_I152 hV_I152 (b := v18) (by omega) (show pI (I152) 150 (v18.toInt.toNat) = 1 from (congrArg Int32.toInt (show (I152) 150 (v18.toInt.toNat) = _ from ((e_I152 150 rfl (v18.toInt.toNat)).trans q_v150))).trans (by omega)) (fun I154 hB_I154 hV_I154 e_I154 p0_I154 pn_I154 => ?_))
                        obtain ⟨v155, q_v155⟩ : ∃ v, I154 150 (v18.toInt.toNat) = v := ⟨_, rfl⟩
                        have f_v155 : v155.toInt = 0 := by rw [← q_v155]; exact p0_I154
                        refine qm_Ru.go 2 (c' := (210, [.ref 118, .int y, .int r, .int s, .int v16, .int v17, .int v18, .int v110, .int 1], [.int (-1), .int v110], (h.1, I154, J153, h.2.2.2))) rfl ?_
                        refine hk_ceq (ix := v110.toInt) (iy := (-1)) rfl rfl rfl (fun z156 => ?_) (fun z156 => by exfalso; omega)
                        refine qm_Ru.go 1 (c' := (220, [.ref 118, .int y, .int r, .int s, .int v16, .int v17, .int v18, .int v110, .int 1], [.ref 118], (h.1, I154, J153, h.2.2.2))) rfl ?_
                        refine hk_inv (o := 118) (r := []) (as := [.ref 118]) rfl rfl (hH.1 118 (17, 105) rfl) rfl rfl rfl rfl (hs_maybe (h := (h.1, I154, J153, h.2.2.2)) h6 hH hB_I154 (v_R_ru hV_I154)  (by omega) (fun v159 I157 J158 c_v159 hB_I157 e_I157 => ?_))
                        have hV_I157 : v_R I157 := v_R_cg hV_I154 e_I157 rfl
                        have b_v159 : (0 : Int) ≤ v159.toInt ∧ v159.toInt ≤ 1 := c_v159
                        refine qm_Ru.go 0 (c' := (223, [.ref 118, .int y, .int r, .int s, .int v16, .int v17, .int v18, .int v110, .int 1], [.int v159], (h.1, I157, J158, h.2.2.2))) rfl ?_
                        refine hk_zne (ix := v159.toInt) rfl rfl (fun z160 => ?_) (fun z160 => ?_)
                        · refine qm_Ru.go 2 (c' := (253, [.ref 118, .int y, .int r, .int s, .int v16, .int v17, .int v18, .int v110, .int 1], [.int (-1), .int s], (h.1, I157, J158, h.2.2.2))) rfl ?_
                          refine hk_ceq (ix := s.toInt) (iy := (-1)) rfl rfl rfl (fun z161 => ?_) (fun z161 => by exfalso; omega)
                          refine qm_Ru.go 1 (c' := (278, [.ref 118, .int y, .int r, .int s, .int v16, .int v17, .int v18, .int v110, .int 1], [.int 1], (h.1, I157, J158, h.2.2.2))) rfl ?_
                          refine qm_Ru.rt (v := (some (.int 1))) (h' := (h.1, I157, J158, h.2.2.2)) rfl ?_
                          exact k (some (.int 1)) (I157) (J158) ⟨_, rfl, ⟨by decide, by decide⟩⟩ hB_I157 hV_I157 (fun o ho i => ((e_I157 o (hk_ms rfl ho) i).trans ((e_I154 o (hk_ms rfl ho) i).trans ((e_I152 o (hk_ms rfl ho) i).trans rfl))))
                        · refine qm_Ru.go 3 (c' := (231, [.ref 118, .int y, .int r, .int s, .int v16, .int v17, .int v18, .int v110, .int 1], [.int v17, .int v18, .ref 118], (h.1, I157, J158, h.2.2.2))) rfl ?_
                          refine hk_inv (o := 118) (r := []) (as := [.ref 118, .int v18, .int v17]) rfl rfl (hH.1 118 (17, 105) rfl) rfl rfl rfl rfl (rb_boards (h := (h.1, I157, J158, h.2.2.2)) hH hB_I157 hV_I157 (b := v18) (k0 := v17) (by omega) (by omega) (show pI (I157) 150 (v18.toInt.toNat) = 0 from (congrArg Int32.toInt (show (I157) 150 (v18.toInt.toNat) = _ from ((e_I157 150 rfl (v18.toInt.toNat)).trans q_v155))).trans (by omega)) (show ((v18.toInt.toNat : Nat) : Int) < ((I157) 118 44).toInt from by rw [(show (I157) 118 44 = _ from ((e_I157 118 rfl 44).trans ((e_I154 118 rfl 44).trans ((e_I152 118 rfl 44).trans q_v149))))]; omega) (fun I162 hB_I162 hV_I162 e_I162 p0_I162 pn_I162 p1_I162 pm_I162 => ?_))
                          obtain ⟨v163, q_v163⟩ : ∃ v, I162 150 (v18.toInt.toNat) = v := ⟨_, rfl⟩
                          have f_v163 : v163.toInt = 1 := by rw [← q_v163]; exact p0_I162
                          obtain ⟨v164, q_v164⟩ : ∃ v, I162 151 (v18.toInt.toNat) = v := ⟨_, rfl⟩
                          have f_v164 : v164.toInt = v17.toInt := by rw [← q_v164]; exact (congrArg Int32.toInt p1_I162)
                          refine qm_Ru.go 2 (c' := (237, [.ref 118, .int y, .int r, .int s, .int v16, .int v17, .int v18, .int v110, .int 1], [.int (-1), .int v110], (h.1, I162, J158, h.2.2.2))) rfl ?_
                          refine hk_ceq (ix := v110.toInt) (iy := (-1)) rfl rfl rfl (fun z165 => ?_) (fun z165 => by exfalso; omega)
                          refine qm_Ru.go 1 (c' := (250, [.ref 118, .int y, .int r, .int s, .int v16, .int v17, .int v18, .int v110, .int 1], [.int (-3)], (h.1, I162, J158, h.2.2.2))) rfl ?_
                          refine qm_Ru.rt (v := (some (.int (-3)))) (h' := (h.1, I162, J158, h.2.2.2)) rfl ?_
                          exact k (some (.int (-3))) (I162) (J158) ⟨_, rfl, ⟨by decide, by decide⟩⟩ hB_I162 hV_I162 (fun o ho i => ((e_I162 o (hk_ms rfl ho) i).trans ((e_I157 o (hk_ms rfl ho) i).trans ((e_I154 o (hk_ms rfl ho) i).trans ((e_I152 o (hk_ms rfl ho) i).trans rfl)))))
                      · refine qm_Ru.go 1 (c' := (196, [.ref 118, .int y, .int r, .int s, .int v16, .int v17, .int v18, .int v110, .int 1], [.int (-2)], h)) rfl ?_
                        refine qm_Ru.rt (v := (some (.int (-2)))) (h' := h) rfl ?_
                        exact k (some (.int (-2))) (h.2.1) (h.2.2.1) ⟨_, rfl, ⟨by decide, by decide⟩⟩ hB hV (fun o ho i => rfl)
            · refine qm_Ru.go 2 (c' := (17, [.ref 118, .int y], [.int 1], h)) rfl ?_
              refine qm_Ru.rt (v := (some (.int 1))) (h' := h) rfl ?_
              refine qm_Ru.go 4 (c' := (51, [.ref 118, .int y, .int r, .int s, .float 0, .float 0, .float 0, .float 0, .float 0], [.int (v11 + 2)], h)) rfl ?_
              obtain ⟨v166, q_v166, e_v166⟩ := hk_add (x := v11) (y := 2) (a := v11.toInt) (b := 2) rfl rfl (by omega) (by omega)
              rw [q_v166]
              refine qm_Ru.go 2 (c' := (54, [.ref 118, .int y, .int r, .int s, .int v166, .float 0, .float 0, .float 0, .float 0], [.ref 118], h)) rfl ?_
              refine hk_getr rfl (hH.1 118 (17, 105) rfl) rfl (hH.2 118 51 (some 152) rfl) ?_
              refine qm_Ru.go 3 (c' := (61, [.ref 118, .int y, .int r, .int s, .int v166, .float 0, .float 0, .float 0, .float 0], [.int (v166 + 1), .ref 152], h)) rfl ?_
              obtain ⟨v167, q_v167, e_v167⟩ := hk_add (x := v166) (y := 1) (a := v166.toInt) (b := 1) rfl rfl (by omega) (by omega)
              rw [q_v167]
              obtain ⟨v168, q_v168⟩ : ∃ v, h.2.1 152 (v167.toInt.toNat) = v := ⟨_, rfl⟩
              have b_v168 : (-1 : Int) ≤ v168.toInt ∧ v168.toInt ≤ 29 := by rw [← q_v168]; exact hB 152 (v167.toInt.toNat)
              refine hk_ial (v := v168) rfl (hH.1 152 (0, 80) rfl) (by omega) (by omega) q_v168 ?_
              refine qm_Ru.go 1 (c' := (63, [.ref 118, .int y, .int r, .int s, .int v166, .float 0, .float 0, .float 0, .float 0], [.int (-1), .int v168], h)) rfl ?_
              refine hk_ceq (ix := v168.toInt) (iy := (-1)) rfl rfl rfl (fun z169 => ?_) (fun z169 => ?_)
              · refine qm_Ru.go 3 (c' := (78, [.ref 118, .int y, .int r, .int s, .int v166, .int v166, .float 0, .float 0, .float 0], [.ref 118], h)) rfl ?_
                refine hk_getr rfl (hH.1 118 (17, 105) rfl) rfl (hH.2 118 51 (some 152) rfl) ?_
                refine qm_Ru.go 1 (c' := (83, [.ref 118, .int y, .int r, .int s, .int v166, .int v166, .float 0, .float 0, .float 0], [.int v166, .ref 152], h)) rfl ?_
                obtain ⟨v170, q_v170⟩ : ∃ v, h.2.1 152 (v166.toInt.toNat) = v := ⟨_, rfl⟩
                have b_v170 : (-1 : Int) ≤ v170.toInt ∧ v170.toInt ≤ 29 := by rw [← q_v170]; exact hB 152 (v166.toInt.toNat)
                refine hk_ial (v := v170) rfl (hH.1 152 (0, 80) rfl) (by omega) (by omega) q_v170 ?_
                refine qm_Ru.go 3 (c' := (89, [.ref 118, .int y, .int r, .int s, .int v166, .int v166, .int v170, .float 0, .float 0], [.int (-1), .int v170], h)) rfl ?_
                refine hk_cne (ix := v170.toInt) (iy := (-1)) rfl rfl rfl (fun z171 => ?_) (fun z171 => ?_)
                · refine qm_Ru.go 1 (c' := (95, [.ref 118, .int y, .int r, .int s, .int v166, .int v166, .int v170, .float 0, .float 0], [.ref 118], h)) rfl ?_
                  refine hk_getr rfl (hH.1 118 (17, 105) rfl) rfl (hH.2 118 48 (some 149) rfl) ?_
                  refine qm_Ru.go 1 (c' := (100, [.ref 118, .int y, .int r, .int s, .int v166, .int v166, .int v170, .float 0, .float 0], [.int v170, .ref 149], h)) rfl ?_
                  obtain ⟨v172, q_v172⟩ : ∃ v, h.2.1 149 (v170.toInt.toNat) = v := ⟨_, rfl⟩
                  have b_v172 : (0 : Int) ≤ v172.toInt ∧ v172.toInt ≤ 1 := by rw [← q_v172]; exact hB 149 (v170.toInt.toNat)
                  refine hk_bal (v := v172) rfl (hH.1 149 (2, 30) rfl) (by decide) (by omega) (by omega) q_v172 ?_
                  refine qm_Ru.go 0 (c' := (101, [.ref 118, .int y, .int r, .int s, .int v166, .int v166, .int v170, .float 0, .float 0], [.int v172], h)) rfl ?_
                  refine hk_zeq (ix := v172.toInt) rfl rfl (fun z173 => ?_) (fun z173 => ?_)
                  · refine qm_Ru.go 10 (c' := (139, [.ref 118, .int y, .int r, .int s, .int v166, .int v166, .int v170, .int (-1), .int 1], [.int (-1), .int s], h)) rfl ?_
                    refine hk_ceq (ix := s.toInt) (iy := (-1)) rfl rfl rfl (fun z174 => ?_) (fun z174 => by exfalso; omega)
                    refine qm_Ru.go 1 (c' := (158, [.ref 118, .int y, .int r, .int s, .int v166, .int v166, .int v170, .int (-1), .int 1], [.ref 118], h)) rfl ?_
                    refine hk_getr rfl (hH.1 118 (17, 105) rfl) rfl (hH.2 118 45 (some 146) rfl) ?_
                    refine qm_Ru.go 1 (c' := (163, [.ref 118, .int y, .int r, .int s, .int v166, .int v166, .int v170, .int (-1), .int 1], [.int v170, .ref 146], h)) rfl ?_
                    obtain ⟨v175, q_v175⟩ : ∃ v, h.2.1 146 (v170.toInt.toNat) = v := ⟨_, rfl⟩
                    have b_v175 : (0 : Int) ≤ v175.toInt ∧ v175.toInt ≤ 40 := by rw [← q_v175]; exact hB 146 (v170.toInt.toNat)
                    refine hk_ial (v := v175) rfl (hH.1 146 (0, 30) rfl) (by omega) (by omega) q_v175 ?_
                    refine qm_Ru.go 6 (c' := (182, [.ref 118, .int y, .int r, .int s, .int v166, .int v166, .int v170, .int (-1), .int 1], [.int (v175 + 0)], h)) rfl ?_
                    obtain ⟨v176, q_v176, e_v176⟩ := hk_add (x := v175) (y := 0) (a := v175.toInt) (b := 0) rfl rfl (by omega) (by omega)
                    rw [q_v176]
                    refine qm_Ru.go 1 (c' := (183, [.ref 118, .int y, .int r, .int s, .int v166, .int v166, .int v170, .int (-1), .int 1], [.ref 118, .int v176], h)) rfl ?_
                    refine hk_getr rfl (hH.1 118 (17, 105) rfl) rfl (hH.2 118 24 (some 129) rfl) ?_
                    refine qm_Ru.go 1 (c' := (187, [.ref 118, .int y, .int r, .int s, .int v166, .int v166, .int v170, .int (-1), .int 1], [.ref 118, .ref 129, .int v176], h)) rfl ?_
                    refine hk_geti (v := v1) rfl (hH.1 118 (17, 105) rfl) rfl q_v1 ?_
                    refine qm_Ru.go 0 (c' := (190, [.ref 118, .int y, .int r, .int s, .int v166, .int v166, .int v170, .int (-1), .int 1], [.int v1, .ref 129, .int v176], h)) rfl ?_
                    obtain ⟨v177, q_v177⟩ : ∃ v, h.2.1 129 (v1.toInt.toNat) = v := ⟨_, rfl⟩
                    refine hk_ial (v := v177) rfl (hH.1 129 (0, 2) rfl) (by omega) (by omega) q_v177 ?_
                    refine qm_Ru.go 0 (c' := (191, [.ref 118, .int y, .int r, .int s, .int v166, .int v166, .int v170, .int (-1), .int 1], [.int v177, .int v176], h)) rfl ?_
                    refine hk_cle (ix := v176.toInt) (iy := v177.toInt) rfl rfl rfl (fun z178 => ?_) (fun z178 => ?_)
                    · refine qm_Ru.go 0 (c' := (197, [.ref 118, .int y, .int r, .int s, .int v166, .int v166, .int v170, .int (-1), .int 1], [], h)) rfl ?_
                      have a_v170 := ra_of hV.1 (by omega) q_v170 (by omega)
                      obtain ⟨v179, q_v179⟩ : ∃ v, h.2.1 118 44 = v := ⟨_, rfl⟩
                      have b_v179 : (0 : Int) ≤ v179.toInt ∧ v179.toInt ≤ 30 := by rw [← q_v179]; exact hB 118 44
                      have l_v170 : ((v170.toInt.toNat : Nat) : Int) < v179.toInt := by rw [← q_v179]; exact hV.1.2.2.2 (v170.toInt.toNat) (by show (h.2.1 150 (v170.toInt.toNat)).toInt ≠ 0; omega)
                      obtain ⟨v180, q_v180⟩ : ∃ v, h.2.1 150 (v170.toInt.toNat) = v := ⟨_, rfl⟩
                      have b_v180 : (0 : Int) ≤ v180.toInt ∧ v180.toInt ≤ 2 := by rw [← q_v180]; exact hB 150 (v170.toInt.toNat)
                      obtain ⟨v181, q_v181⟩ : ∃ v, h.2.1 151 (v170.toInt.toNat) = v := ⟨_, rfl⟩
                      have b_v181 : (0 : Int) ≤ v181.toInt ∧ v181.toInt ≤ 79 := by rw [← q_v181]; exact hB 151 (v170.toInt.toNat)
                      rw [q_v180, q_v181] at a_v170
                      refine qm_Ru.go 1 (c' := (198, [.ref 118, .int y, .int r, .int s, .int v166, .int v166, .int v170, .int (-1), .int 1], [.ref 118], h)) rfl ?_
                      refine hk_inv (o := 118) (r := []) (as := [.ref 118]) rfl rfl (hH.1 118 (17, 105) rfl) rfl rfl rfl rfl (hs_looks (h := h) h6 hH hB (v_R_ru hV)  (by omega) (fun I182 J183 hB_I182 e_I182 => ?_))
                      have hV_I182 : v_R I182 := v_R_cg hV e_I182 rfl
                      refine qm_Ru.go 2 (c' := (204, [.ref 118, .int y, .int r, .int s, .int v166, .int v166, .int v170, .int (-1), .int 1], [.int v170, .ref 118], (h.1, I182, J183, h.2.2.2))) rfl ?_
                      refine hk_inv (o := 118) (r := []) (as := [.ref 118, .int v170]) rfl rfl (hH.1 118 (17, 105) rfl) rfl rfl rfl rfl (rl_away (h := (h.1, I182, J183, h.2.2.2)) hH hB_I182 hV_I182 (b := v170) (by omega) (show pI (I182) 150 (v170.toInt.toNat) = 1 from (congrArg Int32.toInt (show (I182) 150 (v170.toInt.toNat) = _ from ((e_I182 150 rfl (v170.toInt.toNat)).trans q_v180))).trans (by omega)) (fun I184 hB_I184 hV_I184 e_I184 p0_I184 pn_I184 => ?_))
                      obtain ⟨v185, q_v185⟩ : ∃ v, I184 150 (v170.toInt.toNat) = v := ⟨_, rfl⟩
                      have f_v185 : v185.toInt = 0 := by rw [← q_v185]; exact p0_I184
                      refine qm_Ru.go 4 (c' := (220, [.ref 118, .int y, .int r, .int s, .int v166, .int v166, .int v170, .int (-1), .int 1], [.ref 118], (h.1, I184, J183, h.2.2.2))) rfl ?_
                      refine hk_inv (o := 118) (r := []) (as := [.ref 118]) rfl rfl (hH.1 118 (17, 105) rfl) rfl rfl rfl rfl (hs_maybe (h := (h.1, I184, J183, h.2.2.2)) h6 hH hB_I184 (v_R_ru hV_I184)  (by omega) (fun v188 I186 J187 c_v188 hB_I186 e_I186 => ?_))
                      have hV_I186 : v_R I186 := v_R_cg hV_I184 e_I186 rfl
                      have b_v188 : (0 : Int) ≤ v188.toInt ∧ v188.toInt ≤ 1 := c_v188
                      refine qm_Ru.go 0 (c' := (223, [.ref 118, .int y, .int r, .int s, .int v166, .int v166, .int v170, .int (-1), .int 1], [.int v188], (h.1, I186, J187, h.2.2.2))) rfl ?_
                      refine hk_zne (ix := v188.toInt) rfl rfl (fun z189 => ?_) (fun z189 => ?_)
                      · refine qm_Ru.go 2 (c' := (253, [.ref 118, .int y, .int r, .int s, .int v166, .int v166, .int v170, .int (-1), .int 1], [.int (-1), .int s], (h.1, I186, J187, h.2.2.2))) rfl ?_
                        refine hk_ceq (ix := s.toInt) (iy := (-1)) rfl rfl rfl (fun z190 => ?_) (fun z190 => by exfalso; omega)
                        refine qm_Ru.go 1 (c' := (278, [.ref 118, .int y, .int r, .int s, .int v166, .int v166, .int v170, .int (-1), .int 1], [.int 1], (h.1, I186, J187, h.2.2.2))) rfl ?_
                        refine qm_Ru.rt (v := (some (.int 1))) (h' := (h.1, I186, J187, h.2.2.2)) rfl ?_
                        exact k (some (.int 1)) (I186) (J187) ⟨_, rfl, ⟨by decide, by decide⟩⟩ hB_I186 hV_I186 (fun o ho i => ((e_I186 o (hk_ms rfl ho) i).trans ((e_I184 o (hk_ms rfl ho) i).trans ((e_I182 o (hk_ms rfl ho) i).trans rfl))))
                      · refine qm_Ru.go 3 (c' := (231, [.ref 118, .int y, .int r, .int s, .int v166, .int v166, .int v170, .int (-1), .int 1], [.int v166, .int v170, .ref 118], (h.1, I186, J187, h.2.2.2))) rfl ?_
                        refine hk_inv (o := 118) (r := []) (as := [.ref 118, .int v170, .int v166]) rfl rfl (hH.1 118 (17, 105) rfl) rfl rfl rfl rfl (rb_boards (h := (h.1, I186, J187, h.2.2.2)) hH hB_I186 hV_I186 (b := v170) (k0 := v166) (by omega) (by omega) (show pI (I186) 150 (v170.toInt.toNat) = 0 from (congrArg Int32.toInt (show (I186) 150 (v170.toInt.toNat) = _ from ((e_I186 150 rfl (v170.toInt.toNat)).trans q_v185))).trans (by omega)) (show ((v170.toInt.toNat : Nat) : Int) < ((I186) 118 44).toInt from by rw [(show (I186) 118 44 = _ from ((e_I186 118 rfl 44).trans ((e_I184 118 rfl 44).trans ((e_I182 118 rfl 44).trans q_v179))))]; omega) (fun I191 hB_I191 hV_I191 e_I191 p0_I191 pn_I191 p1_I191 pm_I191 => ?_))
                        obtain ⟨v192, q_v192⟩ : ∃ v, I191 150 (v170.toInt.toNat) = v := ⟨_, rfl⟩
                        have f_v192 : v192.toInt = 1 := by rw [← q_v192]; exact p0_I191
                        obtain ⟨v193, q_v193⟩ : ∃ v, I191 151 (v170.toInt.toNat) = v := ⟨_, rfl⟩
                        have f_v193 : v193.toInt = v166.toInt := by rw [← q_v193]; exact (congrArg Int32.toInt p1_I191)
                        refine qm_Ru.go 4 (c' := (250, [.ref 118, .int y, .int r, .int s, .int v166, .int v166, .int v170, .int (-1), .int 1], [.int (-3)], (h.1, I191, J187, h.2.2.2))) rfl ?_
                        refine qm_Ru.rt (v := (some (.int (-3)))) (h' := (h.1, I191, J187, h.2.2.2)) rfl ?_
                        exact k (some (.int (-3))) (I191) (J187) ⟨_, rfl, ⟨by decide, by decide⟩⟩ hB_I191 hV_I191 (fun o ho i => ((e_I191 o (hk_ms rfl ho) i).trans ((e_I186 o (hk_ms rfl ho) i).trans ((e_I184 o (hk_ms rfl ho) i).trans ((e_I182 o (hk_ms rfl ho) i).trans rfl)))))
                    · refine qm_Ru.go 1 (c' := (196, [.ref 118, .int y, .int r, .int s, .int v166, .int v166, .int v170, .int (-1), .int 1], [.int (-2)], h)) rfl ?_
                      refine qm_Ru.rt (v := (some (.int (-2)))) (h' := h) rfl ?_
                      exact k (some (.int (-2))) (h.2.1) (h.2.2.1) ⟨_, rfl, ⟨by decide, by decide⟩⟩ hB hV (fun o ho i => rfl)
                  · refine qm_Ru.go 2 (c' := (108, [.ref 118, .int y, .int r, .int s, .int v166, .int v166, .int v170, .float 0, .float 0], [.int v166, .int v166], h)) rfl ?_
                    refine hk_cle (ix := v166.toInt) (iy := v166.toInt) rfl rfl rfl (fun z194 => ?_) (fun z194 => by exfalso; omega)
                    refine qm_Ru.go 10 (c' := (139, [.ref 118, .int y, .int r, .int s, .int v166, .int v166, .int v170, .int (-1), .int 1], [.int (-1), .int s], h)) rfl ?_
                    refine hk_ceq (ix := s.toInt) (iy := (-1)) rfl rfl rfl (fun z195 => ?_) (fun z195 => by exfalso; omega)
                    refine qm_Ru.go 1 (c' := (158, [.ref 118, .int y, .int r, .int s, .int v166, .int v166, .int v170, .int (-1), .int 1], [.ref 118], h)) rfl ?_
                    refine hk_getr rfl (hH.1 118 (17, 105) rfl) rfl (hH.2 118 45 (some 146) rfl) ?_
                    refine qm_Ru.go 1 (c' := (163, [.ref 118, .int y, .int r, .int s, .int v166, .int v166, .int v170, .int (-1), .int 1], [.int v170, .ref 146], h)) rfl ?_
                    obtain ⟨v196, q_v196⟩ : ∃ v, h.2.1 146 (v170.toInt.toNat) = v := ⟨_, rfl⟩
                    have b_v196 : (0 : Int) ≤ v196.toInt ∧ v196.toInt ≤ 40 := by rw [← q_v196]; exact hB 146 (v170.toInt.toNat)
                    refine hk_ial (v := v196) rfl (hH.1 146 (0, 30) rfl) (by omega) (by omega) q_v196 ?_
                    refine qm_Ru.go 6 (c' := (182, [.ref 118, .int y, .int r, .int s, .int v166, .int v166, .int v170, .int (-1), .int 1], [.int (v196 + 0)], h)) rfl ?_
                    obtain ⟨v197, q_v197, e_v197⟩ := hk_add (x := v196) (y := 0) (a := v196.toInt) (b := 0) rfl rfl (by omega) (by omega)
                    rw [q_v197]
                    refine qm_Ru.go 1 (c' := (183, [.ref 118, .int y, .int r, .int s, .int v166, .int v166, .int v170, .int (-1), .int 1], [.ref 118, .int v197], h)) rfl ?_
                    refine hk_getr rfl (hH.1 118 (17, 105) rfl) rfl (hH.2 118 24 (some 129) rfl) ?_
                    refine qm_Ru.go 1 (c' := (187, [.ref 118, .int y, .int r, .int s, .int v166, .int v166, .int v170, .int (-1), .int 1], [.ref 118, .ref 129, .int v197], h)) rfl ?_
                    refine hk_geti (v := v1) rfl (hH.1 118 (17, 105) rfl) rfl q_v1 ?_
                    refine qm_Ru.go 0 (c' := (190, [.ref 118, .int y, .int r, .int s, .int v166, .int v166, .int v170, .int (-1), .int 1], [.int v1, .ref 129, .int v197], h)) rfl ?_
                    obtain ⟨v198, q_v198⟩ : ∃ v, h.2.1 129 (v1.toInt.toNat) = v := ⟨_, rfl⟩
                    refine hk_ial (v := v198) rfl (hH.1 129 (0, 2) rfl) (by omega) (by omega) q_v198 ?_
                    refine qm_Ru.go 0 (c' := (191, [.ref 118, .int y, .int r, .int s, .int v166, .int v166, .int v170, .int (-1), .int 1], [.int v198, .int v197], h)) rfl ?_
                    refine hk_cle (ix := v197.toInt) (iy := v198.toInt) rfl rfl rfl (fun z199 => ?_) (fun z199 => ?_)
                    · refine qm_Ru.go 0 (c' := (197, [.ref 118, .int y, .int r, .int s, .int v166, .int v166, .int v170, .int (-1), .int 1], [], h)) rfl ?_
                      have a_v170 := ra_of hV.1 (by omega) q_v170 (by omega)
                      obtain ⟨v200, q_v200⟩ : ∃ v, h.2.1 118 44 = v := ⟨_, rfl⟩
                      have b_v200 : (0 : Int) ≤ v200.toInt ∧ v200.toInt ≤ 30 := by rw [← q_v200]; exact hB 118 44
                      have l_v170 : ((v170.toInt.toNat : Nat) : Int) < v200.toInt := by rw [← q_v200]; exact hV.1.2.2.2 (v170.toInt.toNat) (by show (h.2.1 150 (v170.toInt.toNat)).toInt ≠ 0; omega)
                      obtain ⟨v201, q_v201⟩ : ∃ v, h.2.1 150 (v170.toInt.toNat) = v := ⟨_, rfl⟩
                      have b_v201 : (0 : Int) ≤ v201.toInt ∧ v201.toInt ≤ 2 := by rw [← q_v201]; exact hB 150 (v170.toInt.toNat)
                      obtain ⟨v202, q_v202⟩ : ∃ v, h.2.1 151 (v170.toInt.toNat) = v := ⟨_, rfl⟩
                      have b_v202 : (0 : Int) ≤ v202.toInt ∧ v202.toInt ≤ 79 := by rw [← q_v202]; exact hB 151 (v170.toInt.toNat)
                      rw [q_v201, q_v202] at a_v170
                      refine qm_Ru.go 1 (c' := (198, [.ref 118, .int y, .int r, .int s, .int v166, .int v166, .int v170, .int (-1), .int 1], [.ref 118], h)) rfl ?_
                      refine hk_inv (o := 118) (r := []) (as := [.ref 118]) rfl rfl (hH.1 118 (17, 105) rfl) rfl rfl rfl rfl (hs_looks (h := h) h6 hH hB (v_R_ru hV)  (by omega) (fun I203 J204 hB_I203 e_I203 => ?_))
                      have hV_I203 : v_R I203 := v_R_cg hV e_I203 rfl
                      refine qm_Ru.go 2 (c' := (204, [.ref 118, .int y, .int r, .int s, .int v166, .int v166, .int v170, .int (-1), .int 1], [.int v170, .ref 118], (h.1, I203, J204, h.2.2.2))) rfl ?_
                      refine hk_inv (o := 118) (r := []) (as := [.ref 118, .int v170]) rfl rfl (hH.1 118 (17, 105) rfl) rfl rfl rfl rfl (rl_away (h := (h.1, I203, J204, h.2.2.2)) hH hB_I203 hV_I203 (b := v170) (by omega) (show pI (I203) 150 (v170.toInt.toNat) = 1 from (congrArg Int32.toInt (show (I203) 150 (v170.toInt.toNat) = _ from ((e_I203 150 rfl (v170.toInt.toNat)).trans q_v201))).trans (by omega)) (fun I205 hB_I205 hV_I205 e_I205 p0_I205 pn_I205 => ?_))
                      obtain ⟨v206, q_v206⟩ : ∃ v, I205 150 (v170.toInt.toNat) = v := ⟨_, rfl⟩
                      have f_v206 : v206.toInt = 0 := by rw [← q_v206]; exact p0_I205
                      refine qm_Ru.go 4 (c' := (220, [.ref 118, .int y, .int r, .int s, .int v166, .int v166, .int v170, .int (-1), .int 1], [.ref 118], (h.1, I205, J204, h.2.2.2))) rfl ?_
                      refine hk_inv (o := 118) (r := []) (as := [.ref 118]) rfl rfl (hH.1 118 (17, 105) rfl) rfl rfl rfl rfl (hs_maybe (h := (h.1, I205, J204, h.2.2.2)) h6 hH hB_I205 (v_R_ru hV_I205)  (by omega) (fun v209 I207 J208 c_v209 hB_I207 e_I207 => ?_))
                      have hV_I207 : v_R I207 := v_R_cg hV_I205 e_I207 rfl
                      have b_v209 : (0 : Int) ≤ v209.toInt ∧ v209.toInt ≤ 1 := c_v209
                      refine qm_Ru.go 0 (c' := (223, [.ref 118, .int y, .int r, .int s, .int v166, .int v166, .int v170, .int (-1), .int 1], [.int v209], (h.1, I207, J208, h.2.2.2))) rfl ?_
                      refine hk_zne (ix := v209.toInt) rfl rfl (fun z210 => ?_) (fun z210 => ?_)
                      · refine qm_Ru.go 2 (c' := (253, [.ref 118, .int y, .int r, .int s, .int v166, .int v166, .int v170, .int (-1), .int 1], [.int (-1), .int s], (h.1, I207, J208, h.2.2.2))) rfl ?_
                        refine hk_ceq (ix := s.toInt) (iy := (-1)) rfl rfl rfl (fun z211 => ?_) (fun z211 => by exfalso; omega)
                        refine qm_Ru.go 1 (c' := (278, [.ref 118, .int y, .int r, .int s, .int v166, .int v166, .int v170, .int (-1), .int 1], [.int 1], (h.1, I207, J208, h.2.2.2))) rfl ?_
                        refine qm_Ru.rt (v := (some (.int 1))) (h' := (h.1, I207, J208, h.2.2.2)) rfl ?_
                        exact k (some (.int 1)) (I207) (J208) ⟨_, rfl, ⟨by decide, by decide⟩⟩ hB_I207 hV_I207 (fun o ho i => ((e_I207 o (hk_ms rfl ho) i).trans ((e_I205 o (hk_ms rfl ho) i).trans ((e_I203 o (hk_ms rfl ho) i).trans rfl))))
                      · refine qm_Ru.go 3 (c' := (231, [.ref 118, .int y, .int r, .int s, .int v166, .int v166, .int v170, .int (-1), .int 1], [.int v166, .int v170, .ref 118], (h.1, I207, J208, h.2.2.2))) rfl ?_
                        refine hk_inv (o := 118) (r := []) (as := [.ref 118, .int v170, .int v166]) rfl rfl (hH.1 118 (17, 105) rfl) rfl rfl rfl rfl (rb_boards (h := (h.1, I207, J208, h.2.2.2)) hH hB_I207 hV_I207 (b := v170) (k0 := v166) (by omega) (by omega) (show pI (I207) 150 (v170.toInt.toNat) = 0 from (congrArg Int32.toInt (show (I207) 150 (v170.toInt.toNat) = _ from ((e_I207 150 rfl (v170.toInt.toNat)).trans q_v206))).trans (by omega)) (show ((v170.toInt.toNat : Nat) : Int) < ((I207) 118 44).toInt from by rw [(show (I207) 118 44 = _ from ((e_I207 118 rfl 44).trans ((e_I205 118 rfl 44).trans ((e_I203 118 rfl 44).trans q_v200))))]; omega) (fun I212 hB_I212 hV_I212 e_I212 p0_I212 pn_I212 p1_I212 pm_I212 => ?_))
                        obtain ⟨v213, q_v213⟩ : ∃ v, I212 150 (v170.toInt.toNat) = v := ⟨_, rfl⟩
                        have f_v213 : v213.toInt = 1 := by rw [← q_v213]; exact p0_I212
                        obtain ⟨v214, q_v214⟩ : ∃ v, I212 151 (v170.toInt.toNat) = v := ⟨_, rfl⟩
                        have f_v214 : v214.toInt = v166.toInt := by rw [← q_v214]; exact (congrArg Int32.toInt p1_I212)
                        refine qm_Ru.go 4 (c' := (250, [.ref 118, .int y, .int r, .int s, .int v166, .int v166, .int v170, .int (-1), .int 1], [.int (-3)], (h.1, I212, J208, h.2.2.2))) rfl ?_
                        refine qm_Ru.rt (v := (some (.int (-3)))) (h' := (h.1, I212, J208, h.2.2.2)) rfl ?_
                        exact k (some (.int (-3))) (I212) (J208) ⟨_, rfl, ⟨by decide, by decide⟩⟩ hB_I212 hV_I212 (fun o ho i => ((e_I212 o (hk_ms rfl ho) i).trans ((e_I207 o (hk_ms rfl ho) i).trans ((e_I205 o (hk_ms rfl ho) i).trans ((e_I203 o (hk_ms rfl ho) i).trans rfl)))))
                    · refine qm_Ru.go 1 (c' := (196, [.ref 118, .int y, .int r, .int s, .int v166, .int v166, .int v170, .int (-1), .int 1], [.int (-2)], h)) rfl ?_
                      refine qm_Ru.rt (v := (some (.int (-2)))) (h' := h) rfl ?_
                      exact k (some (.int (-2))) (h.2.1) (h.2.2.1) ⟨_, rfl, ⟨by decide, by decide⟩⟩ hB hV (fun o ho i => rfl)
                · refine qm_Ru.go 1 (c' := (93, [.ref 118, .int y, .int r, .int s, .int v166, .int v166, .int v170, .float 0, .float 0], [.int (-1)], h)) rfl ?_
                  refine qm_Ru.rt (v := (some (.int (-1)))) (h' := h) rfl ?_
                  exact k (some (.int (-1))) (h.2.1) (h.2.2.1) ⟨_, rfl, ⟨by decide, by decide⟩⟩ hB hV (fun o ho i => rfl)
              · refine qm_Ru.go 3 (c' := (70, [.ref 118, .int y, .int r, .int s, .int v166, .float 0, .float 0, .float 0, .float 0], [.int (v166 + 1)], h)) rfl ?_
                rw [q_v167]
                refine qm_Ru.go 3 (c' := (78, [.ref 118, .int y, .int r, .int s, .int v166, .int v167, .float 0, .float 0, .float 0], [.ref 118], h)) rfl ?_
                refine hk_getr rfl (hH.1 118 (17, 105) rfl) rfl (hH.2 118 51 (some 152) rfl) ?_
                refine qm_Ru.go 1 (c' := (83, [.ref 118, .int y, .int r, .int s, .int v166, .int v167, .float 0, .float 0, .float 0], [.int v167, .ref 152], h)) rfl ?_
                refine hk_ial (v := v168) rfl (hH.1 152 (0, 80) rfl) (by omega) (by omega) q_v168 ?_
                refine qm_Ru.go 3 (c' := (89, [.ref 118, .int y, .int r, .int s, .int v166, .int v167, .int v168, .float 0, .float 0], [.int (-1), .int v168], h)) rfl ?_
                refine hk_cne (ix := v168.toInt) (iy := (-1)) rfl rfl rfl (fun z216 => ?_) (fun z216 => by exfalso; omega)
                refine qm_Ru.go 1 (c' := (95, [.ref 118, .int y, .int r, .int s, .int v166, .int v167, .int v168, .float 0, .float 0], [.ref 118], h)) rfl ?_
                refine hk_getr rfl (hH.1 118 (17, 105) rfl) rfl (hH.2 118 48 (some 149) rfl) ?_
                refine qm_Ru.go 1 (c' := (100, [.ref 118, .int y, .int r, .int s, .int v166, .int v167, .int v168, .float 0, .float 0], [.int v168, .ref 149], h)) rfl ?_
                obtain ⟨v217, q_v217⟩ : ∃ v, h.2.1 149 (v168.toInt.toNat) = v := ⟨_, rfl⟩
                have b_v217 : (0 : Int) ≤ v217.toInt ∧ v217.toInt ≤ 1 := by rw [← q_v217]; exact hB 149 (v168.toInt.toNat)
                refine hk_bal (v := v217) rfl (hH.1 149 (2, 30) rfl) (by decide) (by omega) (by omega) q_v217 ?_
                refine qm_Ru.go 0 (c' := (101, [.ref 118, .int y, .int r, .int s, .int v166, .int v167, .int v168, .float 0, .float 0], [.int v217], h)) rfl ?_
                refine hk_zeq (ix := v217.toInt) rfl rfl (fun z218 => ?_) (fun z218 => ?_)
                · refine qm_Ru.go 10 (c' := (139, [.ref 118, .int y, .int r, .int s, .int v166, .int v167, .int v168, .int (-1), .int 1], [.int (-1), .int s], h)) rfl ?_
                  refine hk_ceq (ix := s.toInt) (iy := (-1)) rfl rfl rfl (fun z219 => ?_) (fun z219 => by exfalso; omega)
                  refine qm_Ru.go 1 (c' := (158, [.ref 118, .int y, .int r, .int s, .int v166, .int v167, .int v168, .int (-1), .int 1], [.ref 118], h)) rfl ?_
                  refine hk_getr rfl (hH.1 118 (17, 105) rfl) rfl (hH.2 118 45 (some 146) rfl) ?_
                  refine qm_Ru.go 1 (c' := (163, [.ref 118, .int y, .int r, .int s, .int v166, .int v167, .int v168, .int (-1), .int 1], [.int v168, .ref 146], h)) rfl ?_
                  obtain ⟨v220, q_v220⟩ : ∃ v, h.2.1 146 (v168.toInt.toNat) = v := ⟨_, rfl⟩
                  have b_v220 : (0 : Int) ≤ v220.toInt ∧ v220.toInt ≤ 40 := by rw [← q_v220]; exact hB 146 (v168.toInt.toNat)
                  refine hk_ial (v := v220) rfl (hH.1 146 (0, 30) rfl) (by omega) (by omega) q_v220 ?_
                  refine qm_Ru.go 6 (c' := (182, [.ref 118, .int y, .int r, .int s, .int v166, .int v167, .int v168, .int (-1), .int 1], [.int (v220 + 0)], h)) rfl ?_
                  obtain ⟨v221, q_v221, e_v221⟩ := hk_add (x := v220) (y := 0) (a := v220.toInt) (b := 0) rfl rfl (by omega) (by omega)
                  rw [q_v221]
                  refine qm_Ru.go 1 (c' := (183, [.ref 118, .int y, .int r, .int s, .int v166, .int v167, .int v168, .int (-1), .int 1], [.ref 118, .int v221], h)) rfl ?_
                  refine hk_getr rfl (hH.1 118 (17, 105) rfl) rfl (hH.2 118 24 (some 129) rfl) ?_
                  refine qm_Ru.go 1 (c' := (187, [.ref 118, .int y, .int r, .int s, .int v166, .int v167, .int v168, .int (-1), .int 1], [.ref 118, .ref 129, .int v221], h)) rfl ?_
                  refine hk_geti (v := v1) rfl (hH.1 118 (17, 105) rfl) rfl q_v1 ?_
                  refine qm_Ru.go 0 (c' := (190, [.ref 118, .int y, .int r, .int s, .int v166, .int v167, .int v168, .int (-1), .int 1], [.int v1, .ref 129, .int v221], h)) rfl ?_
                  obtain ⟨v222, q_v222⟩ : ∃ v, h.2.1 129 (v1.toInt.toNat) = v := ⟨_, rfl⟩
                  refine hk_ial (v := v222) rfl (hH.1 129 (0, 2) rfl) (by omega) (by omega) q_v222 ?_
                  refine qm_Ru.go 0 (c' := (191, [.ref 118, .int y, .int r, .int s, .int v166, .int v167, .int v168, .int (-1), .int 1], [.int v222, .int v221], h)) rfl ?_
                  refine hk_cle (ix := v221.toInt) (iy := v222.toInt) rfl rfl rfl (fun z223 => ?_) (fun z223 => ?_)
                  · refine qm_Ru.go 0 (c' := (197, [.ref 118, .int y, .int r, .int s, .int v166, .int v167, .int v168, .int (-1), .int 1], [], h)) rfl ?_
                    have a_v168 := ra_of hV.1 (by omega) q_v168 (by omega)
                    obtain ⟨v224, q_v224⟩ : ∃ v, h.2.1 118 44 = v := ⟨_, rfl⟩
                    have b_v224 : (0 : Int) ≤ v224.toInt ∧ v224.toInt ≤ 30 := by rw [← q_v224]; exact hB 118 44
                    have l_v168 : ((v168.toInt.toNat : Nat) : Int) < v224.toInt := by rw [← q_v224]; exact hV.1.2.2.2 (v168.toInt.toNat) (by show (h.2.1 150 (v168.toInt.toNat)).toInt ≠ 0; omega)
                    obtain ⟨v225, q_v225⟩ : ∃ v, h.2.1 150 (v168.toInt.toNat) = v := ⟨_, rfl⟩
                    have b_v225 : (0 : Int) ≤ v225.toInt ∧ v225.toInt ≤ 2 := by rw [← q_v225]; exact hB 150 (v168.toInt.toNat)
                    obtain ⟨v226, q_v226⟩ : ∃ v, h.2.1 151 (v168.toInt.toNat) = v := ⟨_, rfl⟩
                    have b_v226 : (0 : Int) ≤ v226.toInt ∧ v226.toInt ≤ 79 := by rw [← q_v226]; exact hB 151 (v168.toInt.toNat)
                    rw [q_v225, q_v226] at a_v168
                    refine qm_Ru.go 1 (c' := (198, [.ref 118, .int y, .int r, .int s, .int v166, .int v167, .int v168, .int (-1), .int 1], [.ref 118], h)) rfl ?_
                    refine hk_inv (o := 118) (r := []) (as := [.ref 118]) rfl rfl (hH.1 118 (17, 105) rfl) rfl rfl rfl rfl (hs_looks (h := h) h6 hH hB (v_R_ru hV)  (by omega) (fun I227 J228 hB_I227 e_I227 => ?_))
                    have hV_I227 : v_R I227 := v_R_cg hV e_I227 rfl
                    refine qm_Ru.go 2 (c' := (204, [.ref 118, .int y, .int r, .int s, .int v166, .int v167, .int v168, .int (-1), .int 1], [.int v168, .ref 118], (h.1, I227, J228, h.2.2.2))) rfl ?_
                    refine hk_inv (o := 118) (r := []) (as := [.ref 118, .int v168]) rfl rfl (hH.1 118 (17, 105) rfl) rfl rfl rfl rfl (rl_away (h := (h.1, I227, J228, h.2.2.2)) hH hB_I227 hV_I227 (b := v168) (by omega) (show pI (I227) 150 (v168.toInt.toNat) = 1 from (congrArg Int32.toInt (show (I227) 150 (v168.toInt.toNat) = _ from ((e_I227 150 rfl (v168.toInt.toNat)).trans q_v225))).trans (by omega)) (fun I229 hB_I229 hV_I229 e_I229 p0_I229 pn_I229 => ?_))
                    obtain ⟨v230, q_v230⟩ : ∃ v, I229 150 (v168.toInt.toNat) = v := ⟨_, rfl⟩
                    have f_v230 : v230.toInt = 0 := by rw [← q_v230]; exact p0_I229
                    refine qm_Ru.go 4 (c' := (220, [.ref 118, .int y, .int r, .int s, .int v166, .int v167, .int v168, .int (-1), .int 1], [.ref 118], (h.1, I229, J228, h.2.2.2))) rfl ?_
                    refine hk_inv (o := 118) (r := []) (as := [.ref 118]) rfl rfl (hH.1 118 (17, 105) rfl) rfl rfl rfl rfl (hs_maybe (h := (h.1, I229, J228, h.2.2.2)) h6 hH hB_I229 (v_R_ru hV_I229)  (by omega) (fun v233 I231 J232 c_v233 hB_I231 e_I231 => ?_))
                    have hV_I231 : v_R I231 := v_R_cg hV_I229 e_I231 rfl
                    have b_v233 : (0 : Int) ≤ v233.toInt ∧ v233.toInt ≤ 1 := c_v233
                    refine qm_Ru.go 0 (c' := (223, [.ref 118, .int y, .int r, .int s, .int v166, .int v167, .int v168, .int (-1), .int 1], [.int v233], (h.1, I231, J232, h.2.2.2))) rfl ?_
                    refine hk_zne (ix := v233.toInt) rfl rfl (fun z234 => ?_) (fun z234 => ?_)
                    · refine qm_Ru.go 2 (c' := (253, [.ref 118, .int y, .int r, .int s, .int v166, .int v167, .int v168, .int (-1), .int 1], [.int (-1), .int s], (h.1, I231, J232, h.2.2.2))) rfl ?_
                      refine hk_ceq (ix := s.toInt) (iy := (-1)) rfl rfl rfl (fun z235 => ?_) (fun z235 => by exfalso; omega)
                      refine qm_Ru.go 1 (c' := (278, [.ref 118, .int y, .int r, .int s, .int v166, .int v167, .int v168, .int (-1), .int 1], [.int 1], (h.1, I231, J232, h.2.2.2))) rfl ?_
                      refine qm_Ru.rt (v := (some (.int 1))) (h' := (h.1, I231, J232, h.2.2.2)) rfl ?_
                      exact k (some (.int 1)) (I231) (J232) ⟨_, rfl, ⟨by decide, by decide⟩⟩ hB_I231 hV_I231 (fun o ho i => ((e_I231 o (hk_ms rfl ho) i).trans ((e_I229 o (hk_ms rfl ho) i).trans ((e_I227 o (hk_ms rfl ho) i).trans rfl))))
                    · refine qm_Ru.go 3 (c' := (231, [.ref 118, .int y, .int r, .int s, .int v166, .int v167, .int v168, .int (-1), .int 1], [.int v167, .int v168, .ref 118], (h.1, I231, J232, h.2.2.2))) rfl ?_
                      refine hk_inv (o := 118) (r := []) (as := [.ref 118, .int v168, .int v167]) rfl rfl (hH.1 118 (17, 105) rfl) rfl rfl rfl rfl (rb_boards (h := (h.1, I231, J232, h.2.2.2)) hH hB_I231 hV_I231 (b := v168) (k0 := v167) (by omega) (by omega) (show pI (I231) 150 (v168.toInt.toNat) = 0 from (congrArg Int32.toInt (show (I231) 150 (v168.toInt.toNat) = _ from ((e_I231 150 rfl (v168.toInt.toNat)).trans q_v230))).trans (by omega)) (show ((v168.toInt.toNat : Nat) : Int) < ((I231) 118 44).toInt from by rw [(show (I231) 118 44 = _ from ((e_I231 118 rfl 44).trans ((e_I229 118 rfl 44).trans ((e_I227 118 rfl 44).trans q_v224))))]; omega) (fun I236 hB_I236 hV_I236 e_I236 p0_I236 pn_I236 p1_I236 pm_I236 => ?_))
                      obtain ⟨v237, q_v237⟩ : ∃ v, I236 150 (v168.toInt.toNat) = v := ⟨_, rfl⟩
                      have f_v237 : v237.toInt = 1 := by rw [← q_v237]; exact p0_I236
                      obtain ⟨v238, q_v238⟩ : ∃ v, I236 151 (v168.toInt.toNat) = v := ⟨_, rfl⟩
                      have f_v238 : v238.toInt = v167.toInt := by rw [← q_v238]; exact (congrArg Int32.toInt p1_I236)
                      refine qm_Ru.go 4 (c' := (250, [.ref 118, .int y, .int r, .int s, .int v166, .int v167, .int v168, .int (-1), .int 1], [.int (-3)], (h.1, I236, J232, h.2.2.2))) rfl ?_
                      refine qm_Ru.rt (v := (some (.int (-3)))) (h' := (h.1, I236, J232, h.2.2.2)) rfl ?_
                      exact k (some (.int (-3))) (I236) (J232) ⟨_, rfl, ⟨by decide, by decide⟩⟩ hB_I236 hV_I236 (fun o ho i => ((e_I236 o (hk_ms rfl ho) i).trans ((e_I231 o (hk_ms rfl ho) i).trans ((e_I229 o (hk_ms rfl ho) i).trans ((e_I227 o (hk_ms rfl ho) i).trans rfl)))))
                  · refine qm_Ru.go 1 (c' := (196, [.ref 118, .int y, .int r, .int s, .int v166, .int v167, .int v168, .int (-1), .int 1], [.int (-2)], h)) rfl ?_
                    refine qm_Ru.rt (v := (some (.int (-2)))) (h' := h) rfl ?_
                    exact k (some (.int (-2))) (h.2.1) (h.2.2.1) ⟨_, rfl, ⟨by decide, by decide⟩⟩ hB hV (fun o ho i => rfl)
                · refine qm_Ru.go 2 (c' := (108, [.ref 118, .int y, .int r, .int s, .int v166, .int v167, .int v168, .float 0, .float 0], [.int v166, .int v167], h)) rfl ?_
                  refine hk_cle (ix := v167.toInt) (iy := v166.toInt) rfl rfl rfl (fun z239 => ?_) (fun z239 => ?_)
                  · refine qm_Ru.go 10 (c' := (139, [.ref 118, .int y, .int r, .int s, .int v166, .int v167, .int v168, .int (-1), .int 1], [.int (-1), .int s], h)) rfl ?_
                    refine hk_ceq (ix := s.toInt) (iy := (-1)) rfl rfl rfl (fun z240 => ?_) (fun z240 => by exfalso; omega)
                    refine qm_Ru.go 1 (c' := (158, [.ref 118, .int y, .int r, .int s, .int v166, .int v167, .int v168, .int (-1), .int 1], [.ref 118], h)) rfl ?_
                    refine hk_getr rfl (hH.1 118 (17, 105) rfl) rfl (hH.2 118 45 (some 146) rfl) ?_
                    refine qm_Ru.go 1 (c' := (163, [.ref 118, .int y, .int r, .int s, .int v166, .int v167, .int v168, .int (-1), .int 1], [.int v168, .ref 146], h)) rfl ?_
                    obtain ⟨v241, q_v241⟩ : ∃ v, h.2.1 146 (v168.toInt.toNat) = v := ⟨_, rfl⟩
                    have b_v241 : (0 : Int) ≤ v241.toInt ∧ v241.toInt ≤ 40 := by rw [← q_v241]; exact hB 146 (v168.toInt.toNat)
                    refine hk_ial (v := v241) rfl (hH.1 146 (0, 30) rfl) (by omega) (by omega) q_v241 ?_
                    refine qm_Ru.go 6 (c' := (182, [.ref 118, .int y, .int r, .int s, .int v166, .int v167, .int v168, .int (-1), .int 1], [.int (v241 + 0)], h)) rfl ?_
                    obtain ⟨v242, q_v242, e_v242⟩ := hk_add (x := v241) (y := 0) (a := v241.toInt) (b := 0) rfl rfl (by omega) (by omega)
                    rw [q_v242]
                    refine qm_Ru.go 1 (c' := (183, [.ref 118, .int y, .int r, .int s, .int v166, .int v167, .int v168, .int (-1), .int 1], [.ref 118, .int v242], h)) rfl ?_
                    refine hk_getr rfl (hH.1 118 (17, 105) rfl) rfl (hH.2 118 24 (some 129) rfl) ?_
                    refine qm_Ru.go 1 (c' := (187, [.ref 118, .int y, .int r, .int s, .int v166, .int v167, .int v168, .int (-1), .int 1], [.ref 118, .ref 129, .int v242], h)) rfl ?_
                    refine hk_geti (v := v1) rfl (hH.1 118 (17, 105) rfl) rfl q_v1 ?_
                    refine qm_Ru.go 0 (c' := (190, [.ref 118, .int y, .int r, .int s, .int v166, .int v167, .int v168, .int (-1), .int 1], [.int v1, .ref 129, .int v242], h)) rfl ?_
                    obtain ⟨v243, q_v243⟩ : ∃ v, h.2.1 129 (v1.toInt.toNat) = v := ⟨_, rfl⟩
                    refine hk_ial (v := v243) rfl (hH.1 129 (0, 2) rfl) (by omega) (by omega) q_v243 ?_
                    refine qm_Ru.go 0 (c' := (191, [.ref 118, .int y, .int r, .int s, .int v166, .int v167, .int v168, .int (-1), .int 1], [.int v243, .int v242], h)) rfl ?_
                    refine hk_cle (ix := v242.toInt) (iy := v243.toInt) rfl rfl rfl (fun z244 => ?_) (fun z244 => ?_)
                    · refine qm_Ru.go 0 (c' := (197, [.ref 118, .int y, .int r, .int s, .int v166, .int v167, .int v168, .int (-1), .int 1], [], h)) rfl ?_
                      have a_v168 := ra_of hV.1 (by omega) q_v168 (by omega)
                      obtain ⟨v245, q_v245⟩ : ∃ v, h.2.1 118 44 = v := ⟨_, rfl⟩
                      have b_v245 : (0 : Int) ≤ v245.toInt ∧ v245.toInt ≤ 30 := by rw [← q_v245]; exact hB 118 44
                      have l_v168 : ((v168.toInt.toNat : Nat) : Int) < v245.toInt := by rw [← q_v245]; exact hV.1.2.2.2 (v168.toInt.toNat) (by show (h.2.1 150 (v168.toInt.toNat)).toInt ≠ 0; omega)
                      obtain ⟨v246, q_v246⟩ : ∃ v, h.2.1 150 (v168.toInt.toNat) = v := ⟨_, rfl⟩
                      have b_v246 : (0 : Int) ≤ v246.toInt ∧ v246.toInt ≤ 2 := by rw [← q_v246]; exact hB 150 (v168.toInt.toNat)
                      obtain ⟨v247, q_v247⟩ : ∃ v, h.2.1 151 (v168.toInt.toNat) = v := ⟨_, rfl⟩
                      have b_v247 : (0 : Int) ≤ v247.toInt ∧ v247.toInt ≤ 79 := by rw [← q_v247]; exact hB 151 (v168.toInt.toNat)
                      rw [q_v246, q_v247] at a_v168
                      refine qm_Ru.go 1 (c' := (198, [.ref 118, .int y, .int r, .int s, .int v166, .int v167, .int v168, .int (-1), .int 1], [.ref 118], h)) rfl ?_
                      refine hk_inv (o := 118) (r := []) (as := [.ref 118]) rfl rfl (hH.1 118 (17, 105) rfl) rfl rfl rfl rfl (hs_looks (h := h) h6 hH hB (v_R_ru hV)  (by omega) (fun I248 J249 hB_I248 e_I248 => ?_))
                      have hV_I248 : v_R I248 := v_R_cg hV e_I248 rfl
                      refine qm_Ru.go 2 (c' := (204, [.ref 118, .int y, .int r, .int s, .int v166, .int v167, .int v168, .int (-1), .int 1], [.int v168, .ref 118], (h.1, I248, J249, h.2.2.2))) rfl ?_
                      refine hk_inv (o := 118) (r := []) (as := [.ref 118, .int v168]) rfl rfl (hH.1 118 (17, 105) rfl) rfl rfl rfl rfl (rl_away (h := (h.1, I248, J249, h.2.2.2)) hH hB_I248 hV_I248 (b := v168) (by omega) (show pI (I248) 150 (v168.toInt.toNat) = 1 from (congrArg Int32.toInt (show (I248) 150 (v168.toInt.toNat) = _ from ((e_I248 150 rfl (v168.toInt.toNat)).trans q_v246))).trans (by omega)) (fun I250 hB_I250 hV_I250 e_I250 p0_I250 pn_I250 => ?_))
                      obtain ⟨v251, q_v251⟩ : ∃ v, I250 150 (v168.toInt.toNat) = v := ⟨_, rfl⟩
                      have f_v251 : v251.toInt = 0 := by rw [← q_v251]; exact p0_I250
                      refine qm_Ru.go 4 (c' := (220, [.ref 118, .int y, .int r, .int s, .int v166, .int v167, .int v168, .int (-1), .int 1], [.ref 118], (h.1, I250, J249, h.2.2.2))) rfl ?_
                      refine hk_inv (o := 118) (r := []) (as := [.ref 118]) rfl rfl (hH.1 118 (17, 105) rfl) rfl rfl rfl rfl (hs_maybe (h := (h.1, I250, J249, h.2.2.2)) h6 hH hB_I250 (v_R_ru hV_I250)  (by omega) (fun v254 I252 J253 c_v254 hB_I252 e_I252 => ?_))
                      have hV_I252 : v_R I252 := v_R_cg hV_I250 e_I252 rfl
                      have b_v254 : (0 : Int) ≤ v254.toInt ∧ v254.toInt ≤ 1 := c_v254
                      refine qm_Ru.go 0 (c' := (223, [.ref 118, .int y, .int r, .int s, .int v166, .int v167, .int v168, .int (-1), .int 1], [.int v254], (h.1, I252, J253, h.2.2.2))) rfl ?_
                      refine hk_zne (ix := v254.toInt) rfl rfl (fun z255 => ?_) (fun z255 => ?_)
                      · refine qm_Ru.go 2 (c' := (253, [.ref 118, .int y, .int r, .int s, .int v166, .int v167, .int v168, .int (-1), .int 1], [.int (-1), .int s], (h.1, I252, J253, h.2.2.2))) rfl ?_
                        refine hk_ceq (ix := s.toInt) (iy := (-1)) rfl rfl rfl (fun z256 => ?_) (fun z256 => by exfalso; omega)
                        refine qm_Ru.go 1 (c' := (278, [.ref 118, .int y, .int r, .int s, .int v166, .int v167, .int v168, .int (-1), .int 1], [.int 1], (h.1, I252, J253, h.2.2.2))) rfl ?_
                        refine qm_Ru.rt (v := (some (.int 1))) (h' := (h.1, I252, J253, h.2.2.2)) rfl ?_
                        exact k (some (.int 1)) (I252) (J253) ⟨_, rfl, ⟨by decide, by decide⟩⟩ hB_I252 hV_I252 (fun o ho i => ((e_I252 o (hk_ms rfl ho) i).trans ((e_I250 o (hk_ms rfl ho) i).trans ((e_I248 o (hk_ms rfl ho) i).trans rfl))))
                      · refine qm_Ru.go 3 (c' := (231, [.ref 118, .int y, .int r, .int s, .int v166, .int v167, .int v168, .int (-1), .int 1], [.int v167, .int v168, .ref 118], (h.1, I252, J253, h.2.2.2))) rfl ?_
                        refine hk_inv (o := 118) (r := []) (as := [.ref 118, .int v168, .int v167]) rfl rfl (hH.1 118 (17, 105) rfl) rfl rfl rfl rfl (rb_boards (h := (h.1, I252, J253, h.2.2.2)) hH hB_I252 hV_I252 (b := v168) (k0 := v167) (by omega) (by omega) (show pI (I252) 150 (v168.toInt.toNat) = 0 from (congrArg Int32.toInt (show (I252) 150 (v168.toInt.toNat) = _ from ((e_I252 150 rfl (v168.toInt.toNat)).trans q_v251))).trans (by omega)) (show ((v168.toInt.toNat : Nat) : Int) < ((I252) 118 44).toInt from by rw [(show (I252) 118 44 = _ from ((e_I252 118 rfl 44).trans ((e_I250 118 rfl 44).trans ((e_I248 118 rfl 44).trans q_v245))))]; omega) (fun I257 hB_I257 hV_I257 e_I257 p0_I257 pn_I257 p1_I257 pm_I257 => ?_))
                        obtain ⟨v258, q_v258⟩ : ∃ v, I257 150 (v168.toInt.toNat) = v := ⟨_, rfl⟩
                        have f_v258 : v258.toInt = 1 := by rw [← q_v258]; exact p0_I257
                        obtain ⟨v259, q_v259⟩ : ∃ v, I257 151 (v168.toInt.toNat) = v := ⟨_, rfl⟩
                        have f_v259 : v259.toInt = v167.toInt := by rw [← q_v259]; exact (congrArg Int32.toInt p1_I257)
                        refine qm_Ru.go 4 (c' := (250, [.ref 118, .int y, .int r, .int s, .int v166, .int v167, .int v168, .int (-1), .int 1], [.int (-3)], (h.1, I257, J253, h.2.2.2))) rfl ?_
                        refine qm_Ru.rt (v := (some (.int (-3)))) (h' := (h.1, I257, J253, h.2.2.2)) rfl ?_
                        exact k (some (.int (-3))) (I257) (J253) ⟨_, rfl, ⟨by decide, by decide⟩⟩ hB_I257 hV_I257 (fun o ho i => ((e_I257 o (hk_ms rfl ho) i).trans ((e_I252 o (hk_ms rfl ho) i).trans ((e_I250 o (hk_ms rfl ho) i).trans ((e_I248 o (hk_ms rfl ho) i).trans rfl)))))
                    · refine qm_Ru.go 1 (c' := (196, [.ref 118, .int y, .int r, .int s, .int v166, .int v167, .int v168, .int (-1), .int 1], [.int (-2)], h)) rfl ?_
                      refine qm_Ru.rt (v := (some (.int (-2)))) (h' := h) rfl ?_
                      exact k (some (.int (-2))) (h.2.1) (h.2.2.1) ⟨_, rfl, ⟨by decide, by decide⟩⟩ hB hV (fun o ho i => rfl)
                  · refine qm_Ru.go 1 (c' := (112, [.ref 118, .int y, .int r, .int s, .int v166, .int v167, .int v168, .float 0, .float 0], [.ref 118], h)) rfl ?_
                    refine hk_getr rfl (hH.1 118 (17, 105) rfl) rfl (hH.2 118 51 (some 152) rfl) ?_
                    refine qm_Ru.go 1 (c' := (117, [.ref 118, .int y, .int r, .int s, .int v166, .int v167, .int v168, .float 0, .float 0], [.int v166, .ref 152], h)) rfl ?_
                    obtain ⟨v260, q_v260⟩ : ∃ v, h.2.1 152 (v166.toInt.toNat) = v := ⟨_, rfl⟩
                    have b_v260 : (-1 : Int) ≤ v260.toInt ∧ v260.toInt ≤ 29 := by rw [← q_v260]; exact hB 152 (v166.toInt.toNat)
                    refine hk_ial (v := v260) rfl (hH.1 152 (0, 80) rfl) (by omega) (by omega) q_v260 ?_
                    refine qm_Ru.go 4 (c' := (127, [.ref 118, .int y, .int r, .int s, .int v166, .int v167, .int v168, .int v260, .float 0], [.int (-1), .int v260], h)) rfl ?_
                    refine hk_cne (ix := v260.toInt) (iy := (-1)) rfl rfl rfl (fun z261 => ?_) (fun z261 => ?_)
                    · refine qm_Ru.go 4 (c' := (139, [.ref 118, .int y, .int r, .int s, .int v166, .int v167, .int v168, .int v260, .int 2], [.int (-1), .int s], h)) rfl ?_
                      refine hk_ceq (ix := s.toInt) (iy := (-1)) rfl rfl rfl (fun z262 => ?_) (fun z262 => by exfalso; omega)
                      refine qm_Ru.go 1 (c' := (158, [.ref 118, .int y, .int r, .int s, .int v166, .int v167, .int v168, .int v260, .int 2], [.ref 118], h)) rfl ?_
                      refine hk_getr rfl (hH.1 118 (17, 105) rfl) rfl (hH.2 118 45 (some 146) rfl) ?_
                      refine qm_Ru.go 1 (c' := (163, [.ref 118, .int y, .int r, .int s, .int v166, .int v167, .int v168, .int v260, .int 2], [.int v168, .ref 146], h)) rfl ?_
                      obtain ⟨v263, q_v263⟩ : ∃ v, h.2.1 146 (v168.toInt.toNat) = v := ⟨_, rfl⟩
                      have b_v263 : (0 : Int) ≤ v263.toInt ∧ v263.toInt ≤ 40 := by rw [← q_v263]; exact hB 146 (v168.toInt.toNat)
                      refine hk_ial (v := v263) rfl (hH.1 146 (0, 30) rfl) (by omega) (by omega) q_v263 ?_
                      refine qm_Ru.go 2 (c' := (167, [.ref 118, .int y, .int r, .int s, .int v166, .int v167, .int v168, .int v260, .int 2], [.int (-1), .int v260, .int v263], h)) rfl ?_
                      refine hk_cne (ix := v260.toInt) (iy := (-1)) rfl rfl rfl (fun z264 => ?_) (fun z264 => by exfalso; omega)
                      refine qm_Ru.go 1 (c' := (175, [.ref 118, .int y, .int r, .int s, .int v166, .int v167, .int v168, .int v260, .int 2], [.ref 118, .int v263], h)) rfl ?_
                      refine hk_getr rfl (hH.1 118 (17, 105) rfl) rfl (hH.2 118 45 (some 146) rfl) ?_
                      refine qm_Ru.go 1 (c' := (180, [.ref 118, .int y, .int r, .int s, .int v166, .int v167, .int v168, .int v260, .int 2], [.int v260, .ref 146, .int v263], h)) rfl ?_
                      obtain ⟨v265, q_v265⟩ : ∃ v, h.2.1 146 (v260.toInt.toNat) = v := ⟨_, rfl⟩
                      have b_v265 : (0 : Int) ≤ v265.toInt ∧ v265.toInt ≤ 40 := by rw [← q_v265]; exact hB 146 (v260.toInt.toNat)
                      refine hk_ial (v := v265) rfl (hH.1 146 (0, 30) rfl) (by omega) (by omega) q_v265 ?_
                      refine qm_Ru.go 1 (c' := (182, [.ref 118, .int y, .int r, .int s, .int v166, .int v167, .int v168, .int v260, .int 2], [.int (v263 + v265)], h)) rfl ?_
                      obtain ⟨v266, q_v266, e_v266⟩ := hk_add (x := v263) (y := v265) (a := v263.toInt) (b := v265.toInt) rfl rfl (by omega) (by omega)
                      rw [q_v266]
                      refine qm_Ru.go 1 (c' := (183, [.ref 118, .int y, .int r, .int s, .int v166, .int v167, .int v168, .int v260, .int 2], [.ref 118, .int v266], h)) rfl ?_
                      refine hk_getr rfl (hH.1 118 (17, 105) rfl) rfl (hH.2 118 24 (some 129) rfl) ?_
                      refine qm_Ru.go 1 (c' := (187, [.ref 118, .int y, .int r, .int s, .int v166, .int v167, .int v168, .int v260, .int 2], [.ref 118, .ref 129, .int v266], h)) rfl ?_
                      refine hk_geti (v := v1) rfl (hH.1 118 (17, 105) rfl) rfl q_v1 ?_
                      refine qm_Ru.go 0 (c' := (190, [.ref 118, .int y, .int r, .int s, .int v166, .int v167, .int v168, .int v260, .int 2], [.int v1, .ref 129, .int v266], h)) rfl ?_
                      obtain ⟨v267, q_v267⟩ : ∃ v, h.2.1 129 (v1.toInt.toNat) = v := ⟨_, rfl⟩
                      refine hk_ial (v := v267) rfl (hH.1 129 (0, 2) rfl) (by omega) (by omega) q_v267 ?_
                      refine qm_Ru.go 0 (c' := (191, [.ref 118, .int y, .int r, .int s, .int v166, .int v167, .int v168, .int v260, .int 2], [.int v267, .int v266], h)) rfl ?_
                      refine hk_cle (ix := v266.toInt) (iy := v267.toInt) rfl rfl rfl (fun z268 => ?_) (fun z268 => ?_)
                      · refine qm_Ru.go 0 (c' := (197, [.ref 118, .int y, .int r, .int s, .int v166, .int v167, .int v168, .int v260, .int 2], [], h)) rfl ?_
                        have a_v168 := ra_of hV.1 (by omega) q_v168 (by omega)
                        have a_v260 := ra_of hV.1 (by omega) q_v260 (by omega)
                        have n_v260 : v260.toInt ≠ v168.toInt := fun e => by have e2 : v260 = v168 := hk_eqi.mpr e; subst e2; omega
                        obtain ⟨v269, q_v269⟩ : ∃ v, h.2.1 118 44 = v := ⟨_, rfl⟩
                        have b_v269 : (0 : Int) ≤ v269.toInt ∧ v269.toInt ≤ 30 := by rw [← q_v269]; exact hB 118 44
                        have l_v168 : ((v168.toInt.toNat : Nat) : Int) < v269.toInt := by rw [← q_v269]; exact hV.1.2.2.2 (v168.toInt.toNat) (by show (h.2.1 150 (v168.toInt.toNat)).toInt ≠ 0; omega)
                        obtain ⟨v270, q_v270⟩ : ∃ v, h.2.1 150 (v168.toInt.toNat) = v := ⟨_, rfl⟩
                        have b_v270 : (0 : Int) ≤ v270.toInt ∧ v270.toInt ≤ 2 := by rw [← q_v270]; exact hB 150 (v168.toInt.toNat)
                        obtain ⟨v271, q_v271⟩ : ∃ v, h.2.1 151 (v168.toInt.toNat) = v := ⟨_, rfl⟩
                        have b_v271 : (0 : Int) ≤ v271.toInt ∧ v271.toInt ≤ 79 := by rw [← q_v271]; exact hB 151 (v168.toInt.toNat)
                        rw [q_v270, q_v271] at a_v168
                        have l_v260 : ((v260.toInt.toNat : Nat) : Int) < v269.toInt := by rw [← q_v269]; exact hV.1.2.2.2 (v260.toInt.toNat) (by show (h.2.1 150 (v260.toInt.toNat)).toInt ≠ 0; omega)
                        obtain ⟨v272, q_v272⟩ : ∃ v, h.2.1 150 (v260.toInt.toNat) = v := ⟨_, rfl⟩
                        have b_v272 : (0 : Int) ≤ v272.toInt ∧ v272.toInt ≤ 2 := by rw [← q_v272]; exact hB 150 (v260.toInt.toNat)
                        obtain ⟨v273, q_v273⟩ : ∃ v, h.2.1 151 (v260.toInt.toNat) = v := ⟨_, rfl⟩
                        have b_v273 : (0 : Int) ≤ v273.toInt ∧ v273.toInt ≤ 79 := by rw [← q_v273]; exact hB 151 (v260.toInt.toNat)
                        rw [q_v272, q_v273] at a_v260
                        refine qm_Ru.go 1 (c' := (198, [.ref 118, .int y, .int r, .int s, .int v166, .int v167, .int v168, .int v260, .int 2], [.ref 118], h)) rfl ?_
                        refine hk_inv (o := 118) (r := []) (as := [.ref 118]) rfl rfl (hH.1 118 (17, 105) rfl) rfl rfl rfl rfl (hs_looks (h := h) h6 hH hB (v_R_ru hV)  (by omega) (fun I274 J275 hB_I274 e_I274 => ?_))
                        have hV_I274 : v_R I274 := v_R_cg hV e_I274 rfl
                        refine qm_Ru.go 2 (c' := (204, [.ref 118, .int y, .int r, .int s, .int v166, .int v167, .int v168, .int v260, .int 2], [.int v168, .ref 118], (h.1, I274, J275, h.2.2.2))) rfl ?_
                        refine hk_inv (o := 118) (r := []) (as := [.ref 118, .int v168]) rfl rfl (hH.1 118 (17, 105) rfl) rfl rfl rfl rfl (rl_away (h := (h.1, I274, J275, h.2.2.2)) hH hB_I274 hV_I274 (b := v168) (by omega) (show pI (I274) 150 (v168.toInt.toNat) = 1 from (congrArg Int32.toInt (show (I274) 150 (v168.toInt.toNat) = _ from ((e_I274 150 rfl (v168.toInt.toNat)).trans q_v270))).trans (by omega)) (fun I276 hB_I276 hV_I276 e_I276 p0_I276 pn_I276 => ?_))
                        obtain ⟨v277, q_v277⟩ : ∃ v, I276 150 (v168.toInt.toNat) = v := ⟨_, rfl⟩
                        have f_v277 : v277.toInt = 0 := by rw [← q_v277]; exact p0_I276
                        refine qm_Ru.go 2 (c' := (210, [.ref 118, .int y, .int r, .int s, .int v166, .int v167, .int v168, .int v260, .int 2], [.int (-1), .int v260], (h.1, I276, J275, h.2.2.2))) rfl ?_
                        refine hk_ceq (ix := v260.toInt) (iy := (-1)) rfl rfl rfl (fun z278 => by exfalso; omega) (fun z278 => ?_)
                        refine qm_Ru.go 2 (c' := (216, [.ref 118, .int y, .int r, .int s, .int v166, .int v167, .int v168, .int v260, .int 2], [.int v260, .ref 118], (h.1, I276, J275, h.2.2.2))) rfl ?_
                        refine hk_inv (o := 118) (r := []) (as := [.ref 118, .int v260]) rfl rfl (hH.1 118 (17, 105) rfl) rfl rfl rfl rfl (rl_away (h := (h.1, I276, J275, h.2.2.2)) hH hB_I276 hV_I276 (b := v260) (by omega) (show pI (I276) 150 (v260.toInt.toNat) = 1 from (congrArg Int32.toInt (show (I276) 150 (v260.toInt.toNat) = _ from ((pn_I276 (v260.toInt.toNat) (by omega)).trans ((e_I274 150 rfl (v260.toInt.toNat)).trans q_v272)))).trans (by omega)) (fun I279 hB_I279 hV_I279 e_I279 p0_I279 pn_I279 => ?_))
                        obtain ⟨v280, q_v280⟩ : ∃ v, I279 150 (v260.toInt.toNat) = v := ⟨_, rfl⟩
                        have f_v280 : v280.toInt = 0 := by rw [← q_v280]; exact p0_I279
                        refine qm_Ru.go 1 (c' := (220, [.ref 118, .int y, .int r, .int s, .int v166, .int v167, .int v168, .int v260, .int 2], [.ref 118], (h.1, I279, J275, h.2.2.2))) rfl ?_
                        refine hk_inv (o := 118) (r := []) (as := [.ref 118]) rfl rfl (hH.1 118 (17, 105) rfl) rfl rfl rfl rfl (hs_maybe (h := (h.1, I279, J275, h.2.2.2)) h6 hH hB_I279 (v_R_ru hV_I279)  (by omega) (fun v283 I281 J282 c_v283 hB_I281 e_I281 => ?_))
                        have hV_I281 : v_R I281 := v_R_cg hV_I279 e_I281 rfl
                        have b_v283 : (0 : Int) ≤ v283.toInt ∧ v283.toInt ≤ 1 := c_v283
                        refine qm_Ru.go 0 (c' := (223, [.ref 118, .int y, .int r, .int s, .int v166, .int v167, .int v168, .int v260, .int 2], [.int v283], (h.1, I281, J282, h.2.2.2))) rfl ?_
                        refine hk_zne (ix := v283.toInt) rfl rfl (fun z284 => ?_) (fun z284 => ?_)
                        · refine qm_Ru.go 2 (c' := (253, [.ref 118, .int y, .int r, .int s, .int v166, .int v167, .int v168, .int v260, .int 2], [.int (-1), .int s], (h.1, I281, J282, h.2.2.2))) rfl ?_
                          refine hk_ceq (ix := s.toInt) (iy := (-1)) rfl rfl rfl (fun z285 => ?_) (fun z285 => by exfalso; omega)
                          refine qm_Ru.go 1 (c' := (278, [.ref 118, .int y, .int r, .int s, .int v166, .int v167, .int v168, .int v260, .int 2], [.int 2], (h.1, I281, J282, h.2.2.2))) rfl ?_
                          refine qm_Ru.rt (v := (some (.int 2))) (h' := (h.1, I281, J282, h.2.2.2)) rfl ?_
                          exact k (some (.int 2)) (I281) (J282) ⟨_, rfl, ⟨by decide, by decide⟩⟩ hB_I281 hV_I281 (fun o ho i => ((e_I281 o (hk_ms rfl ho) i).trans ((e_I279 o (hk_ms rfl ho) i).trans ((e_I276 o (hk_ms rfl ho) i).trans ((e_I274 o (hk_ms rfl ho) i).trans rfl)))))
                        · refine qm_Ru.go 3 (c' := (231, [.ref 118, .int y, .int r, .int s, .int v166, .int v167, .int v168, .int v260, .int 2], [.int v167, .int v168, .ref 118], (h.1, I281, J282, h.2.2.2))) rfl ?_
                          refine hk_inv (o := 118) (r := []) (as := [.ref 118, .int v168, .int v167]) rfl rfl (hH.1 118 (17, 105) rfl) rfl rfl rfl rfl (rb_boards (h := (h.1, I281, J282, h.2.2.2)) hH hB_I281 hV_I281 (b := v168) (k0 := v167) (by omega) (by omega) (show pI (I281) 150 (v168.toInt.toNat) = 0 from (congrArg Int32.toInt (show (I281) 150 (v168.toInt.toNat) = _ from ((e_I281 150 rfl (v168.toInt.toNat)).trans ((pn_I279 (v168.toInt.toNat) (by omega)).trans q_v277)))).trans (by omega)) (show ((v168.toInt.toNat : Nat) : Int) < ((I281) 118 44).toInt from by rw [(show (I281) 118 44 = _ from ((e_I281 118 rfl 44).trans ((e_I279 118 rfl 44).trans ((e_I276 118 rfl 44).trans ((e_I274 118 rfl 44).trans q_v269)))))]; omega) (fun I286 hB_I286 hV_I286 e_I286 p0_I286 pn_I286 p1_I286 pm_I286 => ?_))
                          obtain ⟨v287, q_v287⟩ : ∃ v, I286 150 (v168.toInt.toNat) = v := ⟨_, rfl⟩
                          have f_v287 : v287.toInt = 1 := by rw [← q_v287]; exact p0_I286
                          obtain ⟨v288, q_v288⟩ : ∃ v, I286 151 (v168.toInt.toNat) = v := ⟨_, rfl⟩
                          have f_v288 : v288.toInt = v167.toInt := by rw [← q_v288]; exact (congrArg Int32.toInt p1_I286)
                          refine qm_Ru.go 2 (c' := (237, [.ref 118, .int y, .int r, .int s, .int v166, .int v167, .int v168, .int v260, .int 2], [.int (-1), .int v260], (h.1, I286, J282, h.2.2.2))) rfl ?_
                          refine hk_ceq (ix := v260.toInt) (iy := (-1)) rfl rfl rfl (fun z289 => by exfalso; omega) (fun z289 => ?_)
                          refine qm_Ru.go 3 (c' := (245, [.ref 118, .int y, .int r, .int s, .int v166, .int v167, .int v168, .int v260, .int 2], [.int v166, .int v260, .ref 118], (h.1, I286, J282, h.2.2.2))) rfl ?_
                          refine hk_inv (o := 118) (r := []) (as := [.ref 118, .int v260, .int v166]) rfl rfl (hH.1 118 (17, 105) rfl) rfl rfl rfl rfl (rb_boards (h := (h.1, I286, J282, h.2.2.2)) hH hB_I286 hV_I286 (b := v260) (k0 := v166) (by omega) (by omega) (show pI (I286) 150 (v260.toInt.toNat) = 0 from (congrArg Int32.toInt (show (I286) 150 (v260.toInt.toNat) = _ from ((pn_I286 (v260.toInt.toNat) (by omega)).trans ((e_I281 150 rfl (v260.toInt.toNat)).trans q_v280)))).trans (by omega)) (show ((v260.toInt.toNat : Nat) : Int) < ((I286) 118 44).toInt from by rw [(show (I286) 118 44 = _ from ((e_I286 118 rfl 44).trans ((e_I281 118 rfl 44).trans ((e_I279 118 rfl 44).trans ((e_I276 118 rfl 44).trans ((e_I274 118 rfl 44).trans q_v269))))))]; omega) (fun I290 hB_I290 hV_I290 e_I290 p0_I290 pn_I290 p1_I290 pm_I290 => ?_))
                          obtain ⟨v291, q_v291⟩ : ∃ v, I290 150 (v260.toInt.toNat) = v := ⟨_, rfl⟩
                          have f_v291 : v291.toInt = 1 := by rw [← q_v291]; exact p0_I290
                          obtain ⟨v292, q_v292⟩ : ∃ v, I290 151 (v260.toInt.toNat) = v := ⟨_, rfl⟩
                          have f_v292 : v292.toInt = v166.toInt := by rw [← q_v292]; exact (congrArg Int32.toInt p1_I290)
                          refine qm_Ru.go 1 (c' := (250, [.ref 118, .int y, .int r, .int s, .int v166, .int v167, .int v168, .int v260, .int 2], [.int (-3)], (h.1, I290, J282, h.2.2.2))) rfl ?_
                          refine qm_Ru.rt (v := (some (.int (-3)))) (h' := (h.1, I290, J282, h.2.2.2)) rfl ?_
                          exact k (some (.int (-3))) (I290) (J282) ⟨_, rfl, ⟨by decide, by decide⟩⟩ hB_I290 hV_I290 (fun o ho i => ((e_I290 o (hk_ms rfl ho) i).trans ((e_I286 o (hk_ms rfl ho) i).trans ((e_I281 o (hk_ms rfl ho) i).trans ((e_I279 o (hk_ms rfl ho) i).trans ((e_I276 o (hk_ms rfl ho) i).trans ((e_I274 o (hk_ms rfl ho) i).trans rfl)))))))
                      · refine qm_Ru.go 1 (c' := (196, [.ref 118, .int y, .int r, .int s, .int v166, .int v167, .int v168, .int v260, .int 2], [.int (-2)], h)) rfl ?_
                        refine qm_Ru.rt (v := (some (.int (-2)))) (h' := h) rfl ?_
                        exact k (some (.int (-2))) (h.2.1) (h.2.2.1) ⟨_, rfl, ⟨by decide, by decide⟩⟩ hB hV (fun o ho i => rfl)
                    · refine qm_Ru.go 5 (c' := (139, [.ref 118, .int y, .int r, .int s, .int v166, .int v167, .int v168, .int v260, .int 1], [.int (-1), .int s], h)) rfl ?_
                      refine hk_ceq (ix := s.toInt) (iy := (-1)) rfl rfl rfl (fun z293 => ?_) (fun z293 => by exfalso; omega)
                      refine qm_Ru.go 1 (c' := (158, [.ref 118, .int y, .int r, .int s, .int v166, .int v167, .int v168, .int v260, .int 1], [.ref 118], h)) rfl ?_
                      refine hk_getr rfl (hH.1 118 (17, 105) rfl) rfl (hH.2 118 45 (some 146) rfl) ?_
                      refine qm_Ru.go 1 (c' := (163, [.ref 118, .int y, .int r, .int s, .int v166, .int v167, .int v168, .int v260, .int 1], [.int v168, .ref 146], h)) rfl ?_
                      obtain ⟨v294, q_v294⟩ : ∃ v, h.2.1 146 (v168.toInt.toNat) = v := ⟨_, rfl⟩
                      have b_v294 : (0 : Int) ≤ v294.toInt ∧ v294.toInt ≤ 40 := by rw [← q_v294]; exact hB 146 (v168.toInt.toNat)
                      refine hk_ial (v := v294) rfl (hH.1 146 (0, 30) rfl) (by omega) (by omega) q_v294 ?_
                      refine qm_Ru.go 2 (c' := (167, [.ref 118, .int y, .int r, .int s, .int v166, .int v167, .int v168, .int v260, .int 1], [.int (-1), .int v260, .int v294], h)) rfl ?_
                      refine hk_cne (ix := v260.toInt) (iy := (-1)) rfl rfl rfl (fun z295 => by exfalso; omega) (fun z295 => ?_)
                      refine qm_Ru.go 3 (c' := (182, [.ref 118, .int y, .int r, .int s, .int v166, .int v167, .int v168, .int v260, .int 1], [.int (v294 + 0)], h)) rfl ?_
                      obtain ⟨v296, q_v296, e_v296⟩ := hk_add (x := v294) (y := 0) (a := v294.toInt) (b := 0) rfl rfl (by omega) (by omega)
                      rw [q_v296]
                      refine qm_Ru.go 1 (c' := (183, [.ref 118, .int y, .int r, .int s, .int v166, .int v167, .int v168, .int v260, .int 1], [.ref 118, .int v296], h)) rfl ?_
                      refine hk_getr rfl (hH.1 118 (17, 105) rfl) rfl (hH.2 118 24 (some 129) rfl) ?_
                      refine qm_Ru.go 1 (c' := (187, [.ref 118, .int y, .int r, .int s, .int v166, .int v167, .int v168, .int v260, .int 1], [.ref 118, .ref 129, .int v296], h)) rfl ?_
                      refine hk_geti (v := v1) rfl (hH.1 118 (17, 105) rfl) rfl q_v1 ?_
                      refine qm_Ru.go 0 (c' := (190, [.ref 118, .int y, .int r, .int s, .int v166, .int v167, .int v168, .int v260, .int 1], [.int v1, .ref 129, .int v296], h)) rfl ?_
                      obtain ⟨v297, q_v297⟩ : ∃ v, h.2.1 129 (v1.toInt.toNat) = v := ⟨_, rfl⟩
                      refine hk_ial (v := v297) rfl (hH.1 129 (0, 2) rfl) (by omega) (by omega) q_v297 ?_
                      refine qm_Ru.go 0 (c' := (191, [.ref 118, .int y, .int r, .int s, .int v166, .int v167, .int v168, .int v260, .int 1], [.int v297, .int v296], h)) rfl ?_
                      refine hk_cle (ix := v296.toInt) (iy := v297.toInt) rfl rfl rfl (fun z298 => ?_) (fun z298 => ?_)
                      · refine qm_Ru.go 0 (c' := (197, [.ref 118, .int y, .int r, .int s, .int v166, .int v167, .int v168, .int v260, .int 1], [], h)) rfl ?_
                        have a_v168 := ra_of hV.1 (by omega) q_v168 (by omega)
                        obtain ⟨v299, q_v299⟩ : ∃ v, h.2.1 118 44 = v := ⟨_, rfl⟩
                        have b_v299 : (0 : Int) ≤ v299.toInt ∧ v299.toInt ≤ 30 := by rw [← q_v299]; exact hB 118 44
                        have l_v168 : ((v168.toInt.toNat : Nat) : Int) < v299.toInt := by rw [← q_v299]; exact hV.1.2.2.2 (v168.toInt.toNat) (by show (h.2.1 150 (v168.toInt.toNat)).toInt ≠ 0; omega)
                        obtain ⟨v300, q_v300⟩ : ∃ v, h.2.1 150 (v168.toInt.toNat) = v := ⟨_, rfl⟩
                        have b_v300 : (0 : Int) ≤ v300.toInt ∧ v300.toInt ≤ 2 := by rw [← q_v300]; exact hB 150 (v168.toInt.toNat)
                        obtain ⟨v301, q_v301⟩ : ∃ v, h.2.1 151 (v168.toInt.toNat) = v := ⟨_, rfl⟩
                        have b_v301 : (0 : Int) ≤ v301.toInt ∧ v301.toInt ≤ 79 := by rw [← q_v301]; exact hB 151 (v168.toInt.toNat)
                        rw [q_v300, q_v301] at a_v168
                        refine qm_Ru.go 1 (c' := (198, [.ref 118, .int y, .int r, .int s, .int v166, .int v167, .int v168, .int v260, .int 1], [.ref 118], h)) rfl ?_
                        refine hk_inv (o := 118) (r := []) (as := [.ref 118]) rfl rfl (hH.1 118 (17, 105) rfl) rfl rfl rfl rfl (hs_looks (h := h) h6 hH hB (v_R_ru hV)  (by omega) (fun I302 J303 hB_I302 e_I302 => ?_))
                        have hV_I302 : v_R I302 := v_R_cg hV e_I302 rfl
                        refine qm_Ru.go 2 (c' := (204, [.ref 118, .int y, .int r, .int s, .int v166, .int v167, .int v168, .int v260, .int 1], [.int v168, .ref 118], (h.1, I302, J303, h.2.2.2))) rfl ?_
                        refine hk_inv (o := 118) (r := []) (as := [.ref 118, .int v168]) rfl rfl (hH.1 118 (17, 105) rfl) rfl rfl rfl rfl (rl_away (h := (h.1, I302, J303, h.2.2.2)) hH hB_I302 hV_I302 (b := v168) (by omega) (show pI (I302) 150 (v168.toInt.toNat) = 1 from (congrArg Int32.toInt (show (I302) 150 (v168.toInt.toNat) = _ from ((e_I302 150 rfl (v168.toInt.toNat)).trans q_v300))).trans (by omega)) (fun I304 hB_I304 hV_I304 e_I304 p0_I304 pn_I304 => ?_))
                        obtain ⟨v305, q_v305⟩ : ∃ v, I304 150 (v168.toInt.toNat) = v := ⟨_, rfl⟩
                        have f_v305 : v305.toInt = 0 := by rw [← q_v305]; exact p0_I304
                        refine qm_Ru.go 2 (c' := (210, [.ref 118, .int y, .int r, .int s, .int v166, .int v167, .int v168, .int v260, .int 1], [.int (-1), .int v260], (h.1, I304, J303, h.2.2.2))) rfl ?_
                        refine hk_ceq (ix := v260.toInt) (iy := (-1)) rfl rfl rfl (fun z306 => ?_) (fun z306 => by exfalso; omega)
                        refine qm_Ru.go 1 (c' := (220, [.ref 118, .int y, .int r, .int s, .int v166, .int v167, .int v168, .int v260, .int 1], [.ref 118], (h.1, I304, J303, h.2.2.2))) rfl ?_
                        refine hk_inv (o := 118) (r := []) (as := [.ref 118]) rfl rfl (hH.1 118 (17, 105) rfl) rfl rfl rfl rfl (hs_maybe (h := (h.1, I304, J303, h.2.2.2)) h6 hH hB_I304 (v_R_ru hV_I304)  (by omega) (fun v309 I307 J308 c_v309 hB_I307 e_I307 => ?_))
                        have hV_I307 : v_R I307 := v_R_cg hV_I304 e_I307 rfl
                        have b_v309 : (0 : Int) ≤ v309.toInt ∧ v309.toInt ≤ 1 := c_v309
                        refine qm_Ru.go 0 (c' := (223, [.ref 118, .int y, .int r, .int s, .int v166, .int v167, .int v168, .int v260, .int 1], [.int v309], (h.1, I307, J308, h.2.2.2))) rfl ?_
                        refine hk_zne (ix := v309.toInt) rfl rfl (fun z310 => ?_) (fun z310 => ?_)
                        · refine qm_Ru.go 2 (c' := (253, [.ref 118, .int y, .int r, .int s, .int v166, .int v167, .int v168, .int v260, .int 1], [.int (-1), .int s], (h.1, I307, J308, h.2.2.2))) rfl ?_
                          refine hk_ceq (ix := s.toInt) (iy := (-1)) rfl rfl rfl (fun z311 => ?_) (fun z311 => by exfalso; omega)
                          refine qm_Ru.go 1 (c' := (278, [.ref 118, .int y, .int r, .int s, .int v166, .int v167, .int v168, .int v260, .int 1], [.int 1], (h.1, I307, J308, h.2.2.2))) rfl ?_
                          refine qm_Ru.rt (v := (some (.int 1))) (h' := (h.1, I307, J308, h.2.2.2)) rfl ?_
                          exact k (some (.int 1)) (I307) (J308) ⟨_, rfl, ⟨by decide, by decide⟩⟩ hB_I307 hV_I307 (fun o ho i => ((e_I307 o (hk_ms rfl ho) i).trans ((e_I304 o (hk_ms rfl ho) i).trans ((e_I302 o (hk_ms rfl ho) i).trans rfl))))
                        · refine qm_Ru.go 3 (c' := (231, [.ref 118, .int y, .int r, .int s, .int v166, .int v167, .int v168, .int v260, .int 1], [.int v167, .int v168, .ref 118], (h.1, I307, J308, h.2.2.2))) rfl ?_
                          refine hk_inv (o := 118) (r := []) (as := [.ref 118, .int v168, .int v167]) rfl rfl (hH.1 118 (17, 105) rfl) rfl rfl rfl rfl (rb_boards (h := (h.1, I307, J308, h.2.2.2)) hH hB_I307 hV_I307 (b := v168) (k0 := v167) (by omega) (by omega) (show pI (I307) 150 (v168.toInt.toNat) = 0 from (congrArg Int32.toInt (show (I307) 150 (v168.toInt.toNat) = _ from ((e_I307 150 rfl (v168.toInt.toNat)).trans q_v305))).trans (by omega)) (show ((v168.toInt.toNat : Nat) : Int) < ((I307) 118 44).toInt from by rw [(show (I307) 118 44 = _ from ((e_I307 118 rfl 44).trans ((e_I304 118 rfl 44).trans ((e_I302 118 rfl 44).trans q_v299))))]; omega) (fun I312 hB_I312 hV_I312 e_I312 p0_I312 pn_I312 p1_I312 pm_I312 => ?_))
                          obtain ⟨v313, q_v313⟩ : ∃ v, I312 150 (v168.toInt.toNat) = v := ⟨_, rfl⟩
                          have f_v313 : v313.toInt = 1 := by rw [← q_v313]; exact p0_I312
                          obtain ⟨v314, q_v314⟩ : ∃ v, I312 151 (v168.toInt.toNat) = v := ⟨_, rfl⟩
                          have f_v314 : v314.toInt = v167.toInt := by rw [← q_v314]; exact (congrArg Int32.toInt p1_I312)
                          refine qm_Ru.go 2 (c' := (237, [.ref 118, .int y, .int r, .int s, .int v166, .int v167, .int v168, .int v260, .int 1], [.int (-1), .int v260], (h.1, I312, J308, h.2.2.2))) rfl ?_
                          refine hk_ceq (ix := v260.toInt) (iy := (-1)) rfl rfl rfl (fun z315 => ?_) (fun z315 => by exfalso; omega)
                          refine qm_Ru.go 1 (c' := (250, [.ref 118, .int y, .int r, .int s, .int v166, .int v167, .int v168, .int v260, .int 1], [.int (-3)], (h.1, I312, J308, h.2.2.2))) rfl ?_
                          refine qm_Ru.rt (v := (some (.int (-3)))) (h' := (h.1, I312, J308, h.2.2.2)) rfl ?_
                          exact k (some (.int (-3))) (I312) (J308) ⟨_, rfl, ⟨by decide, by decide⟩⟩ hB_I312 hV_I312 (fun o ho i => ((e_I312 o (hk_ms rfl ho) i).trans ((e_I307 o (hk_ms rfl ho) i).trans ((e_I304 o (hk_ms rfl ho) i).trans ((e_I302 o (hk_ms rfl ho) i).trans rfl)))))
                      · refine qm_Ru.go 1 (c' := (196, [.ref 118, .int y, .int r, .int s, .int v166, .int v167, .int v168, .int v260, .int 1], [.int (-2)], h)) rfl ?_
                        refine qm_Ru.rt (v := (some (.int (-2)))) (h' := h) rfl ?_
                        exact k (some (.int (-2))) (h.2.1) (h.2.2.1) ⟨_, rfl, ⟨by decide, by decide⟩⟩ hB hV (fun o ho i => rfl)
          · refine qm_Ru.go 1 (c' := (21, [.ref 118, .int y, .int r, .int s, .float 0, .float 0, .float 0, .float 0, .float 0], [.int s], h)) rfl ?_
            refine qm_Ru.call (j := 278) (as := [.int s]) (c' := (24, [.ref 118, .int y, .int r, .int s, .float 0, .float 0, .float 0, .float 0, .float 0], [], h)) rfl rfl rfl ?_
            refine qm_Ru.go 3 (c' := (3, [.int s], [.int 3, .int 0, .int s], h)) rfl ?_
            refine qm_Ru.call (j := 270) (as := [.int s, .int 0, .int 3]) (c' := (6, [.int s], [], h)) rfl rfl rfl ?_
            refine qm_Ru.go 2 (c' := (2, [.int s, .int 0, .int 3], [.int 0, .int s], h)) rfl ?_
            refine hk_clt (ix := s.toInt) (iy := 0) rfl rfl rfl (fun z316 => ?_) (fun z316 => ?_)
            · refine qm_Ru.go 1 (c' := (15, [.int s, .int 0, .int 3], [.int 0], h)) rfl ?_
              refine qm_Ru.rt (v := (some (.int 0))) (h' := h) rfl ?_
              refine qm_Ru.go 0 (c' := (6, [.int s], [.int 0], h)) rfl ?_
              refine qm_Ru.rt (v := (some (.int 0))) (h' := h) rfl ?_
              refine qm_Ru.go 2 (c' := (28, [.ref 118, .int y, .int r, .int s, .float 0, .float 0, .float 0, .float 0, .float 0], [.int (-1)], h)) rfl ?_
              refine qm_Ru.rt (v := (some (.int (-1)))) (h' := h) rfl ?_
              exact k (some (.int (-1))) (h.2.1) (h.2.2.1) ⟨_, rfl, ⟨by decide, by decide⟩⟩ hB hV (fun o ho i => rfl)
            · refine qm_Ru.go 2 (c' := (7, [.int s, .int 0, .int 3], [.int 3, .int s], h)) rfl ?_
              refine hk_cgt (ix := s.toInt) (iy := 3) rfl rfl rfl (fun z317 => ?_) (fun z317 => ?_)
              · refine qm_Ru.go 1 (c' := (15, [.int s, .int 0, .int 3], [.int 0], h)) rfl ?_
                refine qm_Ru.rt (v := (some (.int 0))) (h' := h) rfl ?_
                refine qm_Ru.go 0 (c' := (6, [.int s], [.int 0], h)) rfl ?_
                refine qm_Ru.rt (v := (some (.int 0))) (h' := h) rfl ?_
                refine qm_Ru.go 2 (c' := (28, [.ref 118, .int y, .int r, .int s, .float 0, .float 0, .float 0, .float 0, .float 0], [.int (-1)], h)) rfl ?_
                refine qm_Ru.rt (v := (some (.int (-1)))) (h' := h) rfl ?_
                exact k (some (.int (-1))) (h.2.1) (h.2.2.1) ⟨_, rfl, ⟨by decide, by decide⟩⟩ hB hV (fun o ho i => rfl)
              · refine qm_Ru.go 2 (c' := (15, [.int s, .int 0, .int 3], [.int 1], h)) rfl ?_
                refine qm_Ru.rt (v := (some (.int 1))) (h' := h) rfl ?_
                refine qm_Ru.go 0 (c' := (6, [.int s], [.int 1], h)) rfl ?_
                refine qm_Ru.rt (v := (some (.int 1))) (h' := h) rfl ?_
                refine qm_Ru.go 4 (c' := (33, [.ref 118, .int y, .int r, .int s, .float 0, .float 0, .float 0, .float 0, .float 0], [.int (16 * y)], h)) rfl ?_
                obtain ⟨v318, q_v318, e_v318⟩ := hk_mul (x := 16) (y := y) (a := 16) (b := y.toInt) rfl rfl (by omega) (by omega)
                rw [q_v318]
                refine qm_Ru.go 3 (c' := (36, [.ref 118, .int y, .int r, .int s, .float 0, .float 0, .float 0, .float 0, .float 0], [.int (4 * r), .int v318], h)) rfl ?_
                obtain ⟨v319, q_v319, e_v319⟩ := hk_mul (x := 4) (y := r) (a := 4) (b := r.toInt) rfl rfl (by omega) (by omega)
                rw [q_v319]
                refine qm_Ru.go 1 (c' := (37, [.ref 118, .int y, .int r, .int s, .float 0, .float 0, .float 0, .float 0, .float 0], [.int (v318 + v319)], h)) rfl ?_
                obtain ⟨v320, q_v320, e_v320⟩ := hk_add (x := v318) (y := v319) (a := v318.toInt) (b := v319.toInt) rfl rfl (by omega) (by omega)
                rw [q_v320]
                refine qm_Ru.go 2 (c' := (39, [.ref 118, .int y, .int r, .int s, .float 0, .float 0, .float 0, .float 0, .float 0], [.int y, .ref 118, .int v320], h)) rfl ?_
                refine hk_inv (o := 118) (r := [.int v320]) (as := [.ref 118, .int y]) rfl rfl (hH.1 118 (17, 105) rfl) rfl rfl rfl rfl ?_
                refine qm_Ru.go 1 (c' := (1, [.ref 118, .int y], [.ref 118], h)) rfl ?_
                obtain ⟨v321, q_v321⟩ : ∃ v, h.2.1 118 54 = v := ⟨_, rfl⟩
                refine hk_geti (v := v321) rfl (hH.1 118 (17, 105) rfl) rfl q_v321 ?_
                refine qm_Ru.go 2 (c' := (6, [.ref 118, .int y], [.int (v321 >>> (y &&& 31))], h)) rfl ?_
                obtain ⟨v322, q_v322⟩ : ∃ v, (v321 >>> (y &&& 31)) = v := ⟨_, rfl⟩
                rw [q_v322]
                refine qm_Ru.go 2 (c' := (8, [.ref 118, .int y], [.int (v322 &&& 1)], h)) rfl ?_
                obtain ⟨v323, q_v323⟩ : ∃ v, (v322 &&& 1) = v := ⟨_, rfl⟩
                rw [q_v323]
                refine qm_Ru.go 1 (c' := (9, [.ref 118, .int y], [.int 1, .int v323], h)) rfl ?_
                refine hk_cne (ix := v323.toInt) (iy := 1) rfl rfl rfl (fun z324 => ?_) (fun z324 => ?_)
                · refine qm_Ru.go 1 (c' := (17, [.ref 118, .int y], [.int 0], h)) rfl ?_
                  refine qm_Ru.rt (v := (some (.int 0))) (h' := h) rfl ?_
                  refine qm_Ru.go 3 (c' := (51, [.ref 118, .int y, .int r, .int s, .float 0, .float 0, .float 0, .float 0, .float 0], [.int (v320 + 0)], h)) rfl ?_
                  obtain ⟨v325, q_v325, e_v325⟩ := hk_add (x := v320) (y := 0) (a := v320.toInt) (b := 0) rfl rfl (by omega) (by omega)
                  rw [q_v325]
                  refine qm_Ru.go 2 (c' := (54, [.ref 118, .int y, .int r, .int s, .int v325, .float 0, .float 0, .float 0, .float 0], [.ref 118], h)) rfl ?_
                  refine hk_getr rfl (hH.1 118 (17, 105) rfl) rfl (hH.2 118 51 (some 152) rfl) ?_
                  refine qm_Ru.go 3 (c' := (61, [.ref 118, .int y, .int r, .int s, .int v325, .float 0, .float 0, .float 0, .float 0], [.int (v325 + 1), .ref 152], h)) rfl ?_
                  obtain ⟨v326, q_v326, e_v326⟩ := hk_add (x := v325) (y := 1) (a := v325.toInt) (b := 1) rfl rfl (by omega) (by omega)
                  rw [q_v326]
                  obtain ⟨v327, q_v327⟩ : ∃ v, h.2.1 152 (v326.toInt.toNat) = v := ⟨_, rfl⟩
                  have b_v327 : (-1 : Int) ≤ v327.toInt ∧ v327.toInt ≤ 29 := by rw [← q_v327]; exact hB 152 (v326.toInt.toNat)
                  refine hk_ial (v := v327) rfl (hH.1 152 (0, 80) rfl) (by omega) (by omega) q_v327 ?_
                  refine qm_Ru.go 1 (c' := (63, [.ref 118, .int y, .int r, .int s, .int v325, .float 0, .float 0, .float 0, .float 0], [.int (-1), .int v327], h)) rfl ?_
                  refine hk_ceq (ix := v327.toInt) (iy := (-1)) rfl rfl rfl (fun z328 => ?_) (fun z328 => ?_)
                  · refine qm_Ru.go 3 (c' := (78, [.ref 118, .int y, .int r, .int s, .int v325, .int v325, .float 0, .float 0, .float 0], [.ref 118], h)) rfl ?_
                    refine hk_getr rfl (hH.1 118 (17, 105) rfl) rfl (hH.2 118 51 (some 152) rfl) ?_
                    refine qm_Ru.go 1 (c' := (83, [.ref 118, .int y, .int r, .int s, .int v325, .int v325, .float 0, .float 0, .float 0], [.int v325, .ref 152], h)) rfl ?_
                    obtain ⟨v329, q_v329⟩ : ∃ v, h.2.1 152 (v325.toInt.toNat) = v := ⟨_, rfl⟩
                    have b_v329 : (-1 : Int) ≤ v329.toInt ∧ v329.toInt ≤ 29 := by rw [← q_v329]; exact hB 152 (v325.toInt.toNat)
                    refine hk_ial (v := v329) rfl (hH.1 152 (0, 80) rfl) (by omega) (by omega) q_v329 ?_
                    refine qm_Ru.go 3 (c' := (89, [.ref 118, .int y, .int r, .int s, .int v325, .int v325, .int v329, .float 0, .float 0], [.int (-1), .int v329], h)) rfl ?_
                    refine hk_cne (ix := v329.toInt) (iy := (-1)) rfl rfl rfl (fun z330 => ?_) (fun z330 => ?_)
                    · refine qm_Ru.go 1 (c' := (95, [.ref 118, .int y, .int r, .int s, .int v325, .int v325, .int v329, .float 0, .float 0], [.ref 118], h)) rfl ?_
                      refine hk_getr rfl (hH.1 118 (17, 105) rfl) rfl (hH.2 118 48 (some 149) rfl) ?_
                      refine qm_Ru.go 1 (c' := (100, [.ref 118, .int y, .int r, .int s, .int v325, .int v325, .int v329, .float 0, .float 0], [.int v329, .ref 149], h)) rfl ?_
                      obtain ⟨v331, q_v331⟩ : ∃ v, h.2.1 149 (v329.toInt.toNat) = v := ⟨_, rfl⟩
                      have b_v331 : (0 : Int) ≤ v331.toInt ∧ v331.toInt ≤ 1 := by rw [← q_v331]; exact hB 149 (v329.toInt.toNat)
                      refine hk_bal (v := v331) rfl (hH.1 149 (2, 30) rfl) (by decide) (by omega) (by omega) q_v331 ?_
                      refine qm_Ru.go 0 (c' := (101, [.ref 118, .int y, .int r, .int s, .int v325, .int v325, .int v329, .float 0, .float 0], [.int v331], h)) rfl ?_
                      refine hk_zeq (ix := v331.toInt) rfl rfl (fun z332 => ?_) (fun z332 => ?_)
                      · refine qm_Ru.go 10 (c' := (139, [.ref 118, .int y, .int r, .int s, .int v325, .int v325, .int v329, .int (-1), .int 1], [.int (-1), .int s], h)) rfl ?_
                        refine hk_ceq (ix := s.toInt) (iy := (-1)) rfl rfl rfl (fun z333 => by exfalso; omega) (fun z333 => ?_)
                        refine qm_Ru.go 1 (c' := (143, [.ref 118, .int y, .int r, .int s, .int v325, .int v325, .int v329, .int (-1), .int 1], [.ref 118], h)) rfl ?_
                        refine hk_getr rfl (hH.1 118 (17, 105) rfl) rfl (hH.2 118 53 (some 154) rfl) ?_
                        refine qm_Ru.go 1 (c' := (147, [.ref 118, .int y, .int r, .int s, .int v325, .int v325, .int v329, .int (-1), .int 1], [.int s, .ref 154], h)) rfl ?_
                        obtain ⟨v334, q_v334⟩ : ∃ v, h.2.1 154 (s.toInt.toNat) = v := ⟨_, rfl⟩
                        have b_v334 : (0 : Int) ≤ v334.toInt ∧ v334.toInt ≤ 4 := by rw [← q_v334]; exact hB 154 (s.toInt.toNat)
                        refine hk_ial (v := v334) rfl (hH.1 154 (0, 4) rfl) (by omega) (by omega) q_v334 ?_
                        refine qm_Ru.go 2 (c' := (151, [.ref 118, .int y, .int r, .int s, .int v325, .int v325, .int v329, .int (-1), .int 1], [.int (v334 + 1)], h)) rfl ?_
                        obtain ⟨v335, q_v335, e_v335⟩ := hk_add (x := v334) (y := 1) (a := v334.toInt) (b := 1) rfl rfl (by omega) (by omega)
                        rw [q_v335]
                        refine qm_Ru.go 1 (c' := (152, [.ref 118, .int y, .int r, .int s, .int v325, .int v325, .int v329, .int (-1), .int 1], [.int 4, .int v335], h)) rfl ?_
                        refine hk_cle (ix := v335.toInt) (iy := 4) rfl rfl rfl (fun z336 => ?_) (fun z336 => ?_)
                        · refine qm_Ru.go 1 (c' := (158, [.ref 118, .int y, .int r, .int s, .int v325, .int v325, .int v329, .int (-1), .int 1], [.ref 118], h)) rfl ?_
                          refine hk_getr rfl (hH.1 118 (17, 105) rfl) rfl (hH.2 118 45 (some 146) rfl) ?_
                          refine qm_Ru.go 1 (c' := (163, [.ref 118, .int y, .int r, .int s, .int v325, .int v325, .int v329, .int (-1), .int 1], [.int v329, .ref 146], h)) rfl ?_
                          obtain ⟨v337, q_v337⟩ : ∃ v, h.2.1 146 (v329.toInt.toNat) = v := ⟨_, rfl⟩
                          have b_v337 : (0 : Int) ≤ v337.toInt ∧ v337.toInt ≤ 40 := by rw [← q_v337]; exact hB 146 (v329.toInt.toNat)
                          refine hk_ial (v := v337) rfl (hH.1 146 (0, 30) rfl) (by omega) (by omega) q_v337 ?_
                          refine qm_Ru.go 6 (c' := (182, [.ref 118, .int y, .int r, .int s, .int v325, .int v325, .int v329, .int (-1), .int 1], [.int (v337 + 0)], h)) rfl ?_
                          obtain ⟨v338, q_v338, e_v338⟩ := hk_add (x := v337) (y := 0) (a := v337.toInt) (b := 0) rfl rfl (by omega) (by omega)
                          rw [q_v338]
                          refine qm_Ru.go 1 (c' := (183, [.ref 118, .int y, .int r, .int s, .int v325, .int v325, .int v329, .int (-1), .int 1], [.ref 118, .int v338], h)) rfl ?_
                          refine hk_getr rfl (hH.1 118 (17, 105) rfl) rfl (hH.2 118 24 (some 129) rfl) ?_
                          refine qm_Ru.go 1 (c' := (187, [.ref 118, .int y, .int r, .int s, .int v325, .int v325, .int v329, .int (-1), .int 1], [.ref 118, .ref 129, .int v338], h)) rfl ?_
                          refine hk_geti (v := v1) rfl (hH.1 118 (17, 105) rfl) rfl q_v1 ?_
                          refine qm_Ru.go 0 (c' := (190, [.ref 118, .int y, .int r, .int s, .int v325, .int v325, .int v329, .int (-1), .int 1], [.int v1, .ref 129, .int v338], h)) rfl ?_
                          obtain ⟨v339, q_v339⟩ : ∃ v, h.2.1 129 (v1.toInt.toNat) = v := ⟨_, rfl⟩
                          refine hk_ial (v := v339) rfl (hH.1 129 (0, 2) rfl) (by omega) (by omega) q_v339 ?_
                          refine qm_Ru.go 0 (c' := (191, [.ref 118, .int y, .int r, .int s, .int v325, .int v325, .int v329, .int (-1), .int 1], [.int v339, .int v338], h)) rfl ?_
                          refine hk_cle (ix := v338.toInt) (iy := v339.toInt) rfl rfl rfl (fun z340 => ?_) (fun z340 => ?_)
                          · refine qm_Ru.go 0 (c' := (197, [.ref 118, .int y, .int r, .int s, .int v325, .int v325, .int v329, .int (-1), .int 1], [], h)) rfl ?_
                            have a_v329 := ra_of hV.1 (by omega) q_v329 (by omega)
                            obtain ⟨v341, q_v341⟩ : ∃ v, h.2.1 118 44 = v := ⟨_, rfl⟩
                            have b_v341 : (0 : Int) ≤ v341.toInt ∧ v341.toInt ≤ 30 := by rw [← q_v341]; exact hB 118 44
                            have l_v329 : ((v329.toInt.toNat : Nat) : Int) < v341.toInt := by rw [← q_v341]; exact hV.1.2.2.2 (v329.toInt.toNat) (by show (h.2.1 150 (v329.toInt.toNat)).toInt ≠ 0; omega)
                            obtain ⟨v342, q_v342⟩ : ∃ v, h.2.1 150 (v329.toInt.toNat) = v := ⟨_, rfl⟩
                            have b_v342 : (0 : Int) ≤ v342.toInt ∧ v342.toInt ≤ 2 := by rw [← q_v342]; exact hB 150 (v329.toInt.toNat)
                            obtain ⟨v343, q_v343⟩ : ∃ v, h.2.1 151 (v329.toInt.toNat) = v := ⟨_, rfl⟩
                            have b_v343 : (0 : Int) ≤ v343.toInt ∧ v343.toInt ≤ 79 := by rw [← q_v343]; exact hB 151 (v329.toInt.toNat)
                            rw [q_v342, q_v343] at a_v329
                            refine qm_Ru.go 1 (c' := (198, [.ref 118, .int y, .int r, .int s, .int v325, .int v325, .int v329, .int (-1), .int 1], [.ref 118], h)) rfl ?_
                            refine hk_inv (o := 118) (r := []) (as := [.ref 118]) rfl rfl (hH.1 118 (17, 105) rfl) rfl rfl rfl rfl (hs_looks (h := h) h6 hH hB (v_R_ru hV)  (by omega) (fun I344 J345 hB_I344 e_I344 => ?_))
                            have hV_I344 : v_R I344 := v_R_cg hV e_I344 rfl
                            refine qm_Ru.go 2 (c' := (204, [.ref 118, .int y, .int r, .int s, .int v325, .int v325, .int v329, .int (-1), .int 1], [.int v329, .ref 118], (h.1, I344, J345, h.2.2.2))) rfl ?_
                            refine hk_inv (o := 118) (r := []) (as := [.ref 118, .int v329]) rfl rfl (hH.1 118 (17, 105) rfl) rfl rfl rfl rfl (rl_away (h := (h.1, I344, J345, h.2.2.2)) hH hB_I344 hV_I344 (b := v329) (by omega) (show pI (I344) 150 (v329.toInt.toNat) = 1 from (congrArg Int32.toInt (show (I344) 150 (v329.toInt.toNat) = _ from ((e_I344 150 rfl (v329.toInt.toNat)).trans q_v342))).trans (by omega)) (fun I346 hB_I346 hV_I346 e_I346 p0_I346 pn_I346 => ?_))
                            obtain ⟨v347, q_v347⟩ : ∃ v, I346 150 (v329.toInt.toNat) = v := ⟨_, rfl⟩
                            have f_v347 : v347.toInt = 0 := by rw [← q_v347]; exact p0_I346
                            refine qm_Ru.go 4 (c' := (220, [.ref 118, .int y, .int r, .int s, .int v325, .int v325, .int v329, .int (-1), .int 1], [.ref 118], (h.1, I346, J345, h.2.2.2))) rfl ?_
                            refine hk_inv (o := 118) (r := []) (as := [.ref 118]) rfl rfl (hH.1 118 (17, 105) rfl) rfl rfl rfl rfl (hs_maybe (h := (h.1, I346, J345, h.2.2.2)) h6 hH hB_I346 (v_R_ru hV_I346)  (by omega) (fun v350 I348 J349 c_v350 hB_I348 e_I348 => ?_))
                            have hV_I348 : v_R I348 := v_R_cg hV_I346 e_I348 rfl
                            have b_v350 : (0 : Int) ≤ v350.toInt ∧ v350.toInt ≤ 1 := c_v350
                            refine qm_Ru.go 0 (c' := (223, [.ref 118, .int y, .int r, .int s, .int v325, .int v325, .int v329, .int (-1), .int 1], [.int v350], (h.1, I348, J349, h.2.2.2))) rfl ?_
                            refine hk_zne (ix := v350.toInt) rfl rfl (fun z351 => ?_) (fun z351 => ?_)
                            · refine qm_Ru.go 2 (c' := (253, [.ref 118, .int y, .int r, .int s, .int v325, .int v325, .int v329, .int (-1), .int 1], [.int (-1), .int s], (h.1, I348, J349, h.2.2.2))) rfl ?_
                              refine hk_ceq (ix := s.toInt) (iy := (-1)) rfl rfl rfl (fun z352 => by exfalso; omega) (fun z352 => ?_)
                              refine qm_Ru.go 6 (c' := (273, [.ref 118, .int y, .int r, .int s, .int v325, .int v325, .int v329, .int (-1), .int 1], [.int s, .int v329, .ref 118], (h.1, I348, J349, h.2.2.2))) rfl ?_
                              refine hk_inv (o := 118) (r := []) (as := [.ref 118, .int v329, .int s]) rfl rfl (hH.1 118 (17, 105) rfl) rfl rfl rfl rfl (rp_puts (h := (h.1, I348, J349, h.2.2.2)) hH hB_I348 hV_I348 (b := v329) (s := s) (hv := v334.toInt) (by omega) (by omega) (show pI (I348) 150 (v329.toInt.toNat) = 0 from (congrArg Int32.toInt (show (I348) 150 (v329.toInt.toNat) = _ from ((e_I348 150 rfl (v329.toInt.toNat)).trans q_v347))).trans (by omega)) (congrArg Int32.toInt (show (I348) 154 (s.toInt.toNat) = _ from ((e_I348 154 rfl (s.toInt.toNat)).trans ((e_I346 154 rfl (s.toInt.toNat)).trans ((e_I344 154 rfl (s.toInt.toNat)).trans q_v334))))) (by omega) (by omega) (show ((v329.toInt.toNat : Nat) : Int) < ((I348) 118 44).toInt from by rw [(show (I348) 118 44 = _ from ((e_I348 118 rfl 44).trans ((e_I346 118 rfl 44).trans ((e_I344 118 rfl 44).trans q_v341))))]; omega) (fun I353 hB_I353 hV_I353 e_I353 p0_I353 pn_I353 pm_I353 p4_I353 => ?_))
                              obtain ⟨v354, q_v354⟩ : ∃ v, I353 150 (v329.toInt.toNat) = v := ⟨_, rfl⟩
                              have f_v354 : v354.toInt = 2 := by rw [← q_v354]; exact p0_I353
                              obtain ⟨v355, q_v355⟩ : ∃ v, I353 154 (s.toInt.toNat) = v := ⟨_, rfl⟩
                              have f_v355 : v355.toInt = v334.toInt + 1 := by rw [← q_v355]; exact p4_I353
                              refine qm_Ru.go 1 (c' := (278, [.ref 118, .int y, .int r, .int s, .int v325, .int v325, .int v329, .int (-1), .int 1], [.int 1], (h.1, I353, J349, h.2.2.2))) rfl ?_
                              refine qm_Ru.rt (v := (some (.int 1))) (h' := (h.1, I353, J349, h.2.2.2)) rfl ?_
                              exact k (some (.int 1)) (I353) (J349) ⟨_, rfl, ⟨by decide, by decide⟩⟩ hB_I353 hV_I353 (fun o ho i => ((e_I353 o (hk_ms rfl ho) i).trans ((e_I348 o (hk_ms rfl ho) i).trans ((e_I346 o (hk_ms rfl ho) i).trans ((e_I344 o (hk_ms rfl ho) i).trans rfl)))))
                            · refine qm_Ru.go 3 (c' := (231, [.ref 118, .int y, .int r, .int s, .int v325, .int v325, .int v329, .int (-1), .int 1], [.int v325, .int v329, .ref 118], (h.1, I348, J349, h.2.2.2))) rfl ?_
                              refine hk_inv (o := 118) (r := []) (as := [.ref 118, .int v329, .int v325]) rfl rfl (hH.1 118 (17, 105) rfl) rfl rfl rfl rfl (rb_boards (h := (h.1, I348, J349, h.2.2.2)) hH hB_I348 hV_I348 (b := v329) (k0 := v325) (by omega) (by omega) (show pI (I348) 150 (v329.toInt.toNat) = 0 from (congrArg Int32.toInt (show (I348) 150 (v329.toInt.toNat) = _ from ((e_I348 150 rfl (v329.toInt.toNat)).trans q_v347))).trans (by omega)) (show ((v329.toInt.toNat : Nat) : Int) < ((I348) 118 44).toInt from by rw [(show (I348) 118 44 = _ from ((e_I348 118 rfl 44).trans ((e_I346 118 rfl 44).trans ((e_I344 118 rfl 44).trans q_v341))))]; omega) (fun I356 hB_I356 hV_I356 e_I356 p0_I356 pn_I356 p1_I356 pm_I356 => ?_))
                              obtain ⟨v357, q_v357⟩ : ∃ v, I356 150 (v329.toInt.toNat) = v := ⟨_, rfl⟩
                              have f_v357 : v357.toInt = 1 := by rw [← q_v357]; exact p0_I356
                              obtain ⟨v358, q_v358⟩ : ∃ v, I356 151 (v329.toInt.toNat) = v := ⟨_, rfl⟩
                              have f_v358 : v358.toInt = v325.toInt := by rw [← q_v358]; exact (congrArg Int32.toInt p1_I356)
                              refine qm_Ru.go 4 (c' := (250, [.ref 118, .int y, .int r, .int s, .int v325, .int v325, .int v329, .int (-1), .int 1], [.int (-3)], (h.1, I356, J349, h.2.2.2))) rfl ?_
                              refine qm_Ru.rt (v := (some (.int (-3)))) (h' := (h.1, I356, J349, h.2.2.2)) rfl ?_
                              exact k (some (.int (-3))) (I356) (J349) ⟨_, rfl, ⟨by decide, by decide⟩⟩ hB_I356 hV_I356 (fun o ho i => ((e_I356 o (hk_ms rfl ho) i).trans ((e_I348 o (hk_ms rfl ho) i).trans ((e_I346 o (hk_ms rfl ho) i).trans ((e_I344 o (hk_ms rfl ho) i).trans rfl)))))
                          · refine qm_Ru.go 1 (c' := (196, [.ref 118, .int y, .int r, .int s, .int v325, .int v325, .int v329, .int (-1), .int 1], [.int (-2)], h)) rfl ?_
                            refine qm_Ru.rt (v := (some (.int (-2)))) (h' := h) rfl ?_
                            exact k (some (.int (-2))) (h.2.1) (h.2.2.1) ⟨_, rfl, ⟨by decide, by decide⟩⟩ hB hV (fun o ho i => rfl)
                        · refine qm_Ru.go 1 (c' := (156, [.ref 118, .int y, .int r, .int s, .int v325, .int v325, .int v329, .int (-1), .int 1], [.int (-1)], h)) rfl ?_
                          refine qm_Ru.rt (v := (some (.int (-1)))) (h' := h) rfl ?_
                          exact k (some (.int (-1))) (h.2.1) (h.2.2.1) ⟨_, rfl, ⟨by decide, by decide⟩⟩ hB hV (fun o ho i => rfl)
                      · refine qm_Ru.go 2 (c' := (108, [.ref 118, .int y, .int r, .int s, .int v325, .int v325, .int v329, .float 0, .float 0], [.int v325, .int v325], h)) rfl ?_
                        refine hk_cle (ix := v325.toInt) (iy := v325.toInt) rfl rfl rfl (fun z359 => ?_) (fun z359 => by exfalso; omega)
                        refine qm_Ru.go 10 (c' := (139, [.ref 118, .int y, .int r, .int s, .int v325, .int v325, .int v329, .int (-1), .int 1], [.int (-1), .int s], h)) rfl ?_
                        refine hk_ceq (ix := s.toInt) (iy := (-1)) rfl rfl rfl (fun z360 => by exfalso; omega) (fun z360 => ?_)
                        refine qm_Ru.go 1 (c' := (143, [.ref 118, .int y, .int r, .int s, .int v325, .int v325, .int v329, .int (-1), .int 1], [.ref 118], h)) rfl ?_
                        refine hk_getr rfl (hH.1 118 (17, 105) rfl) rfl (hH.2 118 53 (some 154) rfl) ?_
                        refine qm_Ru.go 1 (c' := (147, [.ref 118, .int y, .int r, .int s, .int v325, .int v325, .int v329, .int (-1), .int 1], [.int s, .ref 154], h)) rfl ?_
                        obtain ⟨v361, q_v361⟩ : ∃ v, h.2.1 154 (s.toInt.toNat) = v := ⟨_, rfl⟩
                        have b_v361 : (0 : Int) ≤ v361.toInt ∧ v361.toInt ≤ 4 := by rw [← q_v361]; exact hB 154 (s.toInt.toNat)
                        refine hk_ial (v := v361) rfl (hH.1 154 (0, 4) rfl) (by omega) (by omega) q_v361 ?_
                        refine qm_Ru.go 2 (c' := (151, [.ref 118, .int y, .int r, .int s, .int v325, .int v325, .int v329, .int (-1), .int 1], [.int (v361 + 1)], h)) rfl ?_
                        obtain ⟨v362, q_v362, e_v362⟩ := hk_add (x := v361) (y := 1) (a := v361.toInt) (b := 1) rfl rfl (by omega) (by omega)
                        rw [q_v362]
                        refine qm_Ru.go 1 (c' := (152, [.ref 118, .int y, .int r, .int s, .int v325, .int v325, .int v329, .int (-1), .int 1], [.int 4, .int v362], h)) rfl ?_
                        refine hk_cle (ix := v362.toInt) (iy := 4) rfl rfl rfl (fun z363 => ?_) (fun z363 => ?_)
                        · refine qm_Ru.go 1 (c' := (158, [.ref 118, .int y, .int r, .int s, .int v325, .int v325, .int v329, .int (-1), .int 1], [.ref 118], h)) rfl ?_
                          refine hk_getr rfl (hH.1 118 (17, 105) rfl) rfl (hH.2 118 45 (some 146) rfl) ?_
                          refine qm_Ru.go 1 (c' := (163, [.ref 118, .int y, .int r, .int s, .int v325, .int v325, .int v329, .int (-1), .int 1], [.int v329, .ref 146], h)) rfl ?_
                          obtain ⟨v364, q_v364⟩ : ∃ v, h.2.1 146 (v329.toInt.toNat) = v := ⟨_, rfl⟩
                          have b_v364 : (0 : Int) ≤ v364.toInt ∧ v364.toInt ≤ 40 := by rw [← q_v364]; exact hB 146 (v329.toInt.toNat)
                          refine hk_ial (v := v364) rfl (hH.1 146 (0, 30) rfl) (by omega) (by omega) q_v364 ?_
                          refine qm_Ru.go 6 (c' := (182, [.ref 118, .int y, .int r, .int s, .int v325, .int v325, .int v329, .int (-1), .int 1], [.int (v364 + 0)], h)) rfl ?_
                          obtain ⟨v365, q_v365, e_v365⟩ := hk_add (x := v364) (y := 0) (a := v364.toInt) (b := 0) rfl rfl (by omega) (by omega)
                          rw [q_v365]
                          refine qm_Ru.go 1 (c' := (183, [.ref 118, .int y, .int r, .int s, .int v325, .int v325, .int v329, .int (-1), .int 1], [.ref 118, .int v365], h)) rfl ?_
                          refine hk_getr rfl (hH.1 118 (17, 105) rfl) rfl (hH.2 118 24 (some 129) rfl) ?_
                          refine qm_Ru.go 1 (c' := (187, [.ref 118, .int y, .int r, .int s, .int v325, .int v325, .int v329, .int (-1), .int 1], [.ref 118, .ref 129, .int v365], h)) rfl ?_
                          refine hk_geti (v := v1) rfl (hH.1 118 (17, 105) rfl) rfl q_v1 ?_
                          refine qm_Ru.go 0 (c' := (190, [.ref 118, .int y, .int r, .int s, .int v325, .int v325, .int v329, .int (-1), .int 1], [.int v1, .ref 129, .int v365], h)) rfl ?_
                          obtain ⟨v366, q_v366⟩ : ∃ v, h.2.1 129 (v1.toInt.toNat) = v := ⟨_, rfl⟩
                          refine hk_ial (v := v366) rfl (hH.1 129 (0, 2) rfl) (by omega) (by omega) q_v366 ?_
                          refine qm_Ru.go 0 (c' := (191, [.ref 118, .int y, .int r, .int s, .int v325, .int v325, .int v329, .int (-1), .int 1], [.int v366, .int v365], h)) rfl ?_
                          refine hk_cle (ix := v365.toInt) (iy := v366.toInt) rfl rfl rfl (fun z367 => ?_) (fun z367 => ?_)
                          · refine qm_Ru.go 0 (c' := (197, [.ref 118, .int y, .int r, .int s, .int v325, .int v325, .int v329, .int (-1), .int 1], [], h)) rfl ?_
                            have a_v329 := ra_of hV.1 (by omega) q_v329 (by omega)
                            obtain ⟨v368, q_v368⟩ : ∃ v, h.2.1 118 44 = v := ⟨_, rfl⟩
                            have b_v368 : (0 : Int) ≤ v368.toInt ∧ v368.toInt ≤ 30 := by rw [← q_v368]; exact hB 118 44
                            have l_v329 : ((v329.toInt.toNat : Nat) : Int) < v368.toInt := by rw [← q_v368]; exact hV.1.2.2.2 (v329.toInt.toNat) (by show (h.2.1 150 (v329.toInt.toNat)).toInt ≠ 0; omega)
                            obtain ⟨v369, q_v369⟩ : ∃ v, h.2.1 150 (v329.toInt.toNat) = v := ⟨_, rfl⟩
                            have b_v369 : (0 : Int) ≤ v369.toInt ∧ v369.toInt ≤ 2 := by rw [← q_v369]; exact hB 150 (v329.toInt.toNat)
                            obtain ⟨v370, q_v370⟩ : ∃ v, h.2.1 151 (v329.toInt.toNat) = v := ⟨_, rfl⟩
                            have b_v370 : (0 : Int) ≤ v370.toInt ∧ v370.toInt ≤ 79 := by rw [← q_v370]; exact hB 151 (v329.toInt.toNat)
                            rw [q_v369, q_v370] at a_v329
                            refine qm_Ru.go 1 (c' := (198, [.ref 118, .int y, .int r, .int s, .int v325, .int v325, .int v329, .int (-1), .int 1], [.ref 118], h)) rfl ?_
                            refine hk_inv (o := 118) (r := []) (as := [.ref 118]) rfl rfl (hH.1 118 (17, 105) rfl) rfl rfl rfl rfl (hs_looks (h := h) h6 hH hB (v_R_ru hV)  (by omega) (fun I371 J372 hB_I371 e_I371 => ?_))
                            have hV_I371 : v_R I371 := v_R_cg hV e_I371 rfl
                            refine qm_Ru.go 2 (c' := (204, [.ref 118, .int y, .int r, .int s, .int v325, .int v325, .int v329, .int (-1), .int 1], [.int v329, .ref 118], (h.1, I371, J372, h.2.2.2))) rfl ?_
                            refine hk_inv (o := 118) (r := []) (as := [.ref 118, .int v329]) rfl rfl (hH.1 118 (17, 105) rfl) rfl rfl rfl rfl (rl_away (h := (h.1, I371, J372, h.2.2.2)) hH hB_I371 hV_I371 (b := v329) (by omega) (show pI (I371) 150 (v329.toInt.toNat) = 1 from (congrArg Int32.toInt (show (I371) 150 (v329.toInt.toNat) = _ from ((e_I371 150 rfl (v329.toInt.toNat)).trans q_v369))).trans (by omega)) (fun I373 hB_I373 hV_I373 e_I373 p0_I373 pn_I373 => ?_))
                            obtain ⟨v374, q_v374⟩ : ∃ v, I373 150 (v329.toInt.toNat) = v := ⟨_, rfl⟩
                            have f_v374 : v374.toInt = 0 := by rw [← q_v374]; exact p0_I373
                            refine qm_Ru.go 4 (c' := (220, [.ref 118, .int y, .int r, .int s, .int v325, .int v325, .int v329, .int (-1), .int 1], [.ref 118], (h.1, I373, J372, h.2.2.2))) rfl ?_
                            refine hk_inv (o := 118) (r := []) (as := [.ref 118]) rfl rfl (hH.1 118 (17, 105) rfl) rfl rfl rfl rfl (hs_maybe (h := (h.1, I373, J372, h.2.2.2)) h6 hH hB_I373 (v_R_ru hV_I373)  (by omega) (fun v377 I375 J376 c_v377 hB_I375 e_I375 => ?_))
                            have hV_I375 : v_R I375 := v_R_cg hV_I373 e_I375 rfl
                            have b_v377 : (0 : Int) ≤ v377.toInt ∧ v377.toInt ≤ 1 := c_v377
                            refine qm_Ru.go 0 (c' := (223, [.ref 118, .int y, .int r, .int s, .int v325, .int v325, .int v329, .int (-1), .int 1], [.int v377], (h.1, I375, J376, h.2.2.2))) rfl ?_
                            refine hk_zne (ix := v377.toInt) rfl rfl (fun z378 => ?_) (fun z378 => ?_)
                            · refine qm_Ru.go 2 (c' := (253, [.ref 118, .int y, .int r, .int s, .int v325, .int v325, .int v329, .int (-1), .int 1], [.int (-1), .int s], (h.1, I375, J376, h.2.2.2))) rfl ?_
                              refine hk_ceq (ix := s.toInt) (iy := (-1)) rfl rfl rfl (fun z379 => by exfalso; omega) (fun z379 => ?_)
                              refine qm_Ru.go 6 (c' := (273, [.ref 118, .int y, .int r, .int s, .int v325, .int v325, .int v329, .int (-1), .int 1], [.int s, .int v329, .ref 118], (h.1, I375, J376, h.2.2.2))) rfl ?_
                              refine hk_inv (o := 118) (r := []) (as := [.ref 118, .int v329, .int s]) rfl rfl (hH.1 118 (17, 105) rfl) rfl rfl rfl rfl (rp_puts (h := (h.1, I375, J376, h.2.2.2)) hH hB_I375 hV_I375 (b := v329) (s := s) (hv := v361.toInt) (by omega) (by omega) (show pI (I375) 150 (v329.toInt.toNat) = 0 from (congrArg Int32.toInt (show (I375) 150 (v329.toInt.toNat) = _ from ((e_I375 150 rfl (v329.toInt.toNat)).trans q_v374))).trans (by omega)) (congrArg Int32.toInt (show (I375) 154 (s.toInt.toNat) = _ from ((e_I375 154 rfl (s.toInt.toNat)).trans ((e_I373 154 rfl (s.toInt.toNat)).trans ((e_I371 154 rfl (s.toInt.toNat)).trans q_v361))))) (by omega) (by omega) (show ((v329.toInt.toNat : Nat) : Int) < ((I375) 118 44).toInt from by rw [(show (I375) 118 44 = _ from ((e_I375 118 rfl 44).trans ((e_I373 118 rfl 44).trans ((e_I371 118 rfl 44).trans q_v368))))]; omega) (fun I380 hB_I380 hV_I380 e_I380 p0_I380 pn_I380 pm_I380 p4_I380 => ?_))
                              obtain ⟨v381, q_v381⟩ : ∃ v, I380 150 (v329.toInt.toNat) = v := ⟨_, rfl⟩
                              have f_v381 : v381.toInt = 2 := by rw [← q_v381]; exact p0_I380
                              obtain ⟨v382, q_v382⟩ : ∃ v, I380 154 (s.toInt.toNat) = v := ⟨_, rfl⟩
                              have f_v382 : v382.toInt = v361.toInt + 1 := by rw [← q_v382]; exact p4_I380
                              refine qm_Ru.go 1 (c' := (278, [.ref 118, .int y, .int r, .int s, .int v325, .int v325, .int v329, .int (-1), .int 1], [.int 1], (h.1, I380, J376, h.2.2.2))) rfl ?_
                              refine qm_Ru.rt (v := (some (.int 1))) (h' := (h.1, I380, J376, h.2.2.2)) rfl ?_
                              exact k (some (.int 1)) (I380) (J376) ⟨_, rfl, ⟨by decide, by decide⟩⟩ hB_I380 hV_I380 (fun o ho i => ((e_I380 o (hk_ms rfl ho) i).trans ((e_I375 o (hk_ms rfl ho) i).trans ((e_I373 o (hk_ms rfl ho) i).trans ((e_I371 o (hk_ms rfl ho) i).trans rfl)))))
                            · refine qm_Ru.go 3 (c' := (231, [.ref 118, .int y, .int r, .int s, .int v325, .int v325, .int v329, .int (-1), .int 1], [.int v325, .int v329, .ref 118], (h.1, I375, J376, h.2.2.2))) rfl ?_
                              refine hk_inv (o := 118) (r := []) (as := [.ref 118, .int v329, .int v325]) rfl rfl (hH.1 118 (17, 105) rfl) rfl rfl rfl rfl (rb_boards (h := (h.1, I375, J376, h.2.2.2)) hH hB_I375 hV_I375 (b := v329) (k0 := v325) (by omega) (by omega) (show pI (I375) 150 (v329.toInt.toNat) = 0 from (congrArg Int32.toInt (show (I375) 150 (v329.toInt.toNat) = _ from ((e_I375 150 rfl (v329.toInt.toNat)).trans q_v374))).trans (by omega)) (show ((v329.toInt.toNat : Nat) : Int) < ((I375) 118 44).toInt from by rw [(show (I375) 118 44 = _ from ((e_I375 118 rfl 44).trans ((e_I373 118 rfl 44).trans ((e_I371 118 rfl 44).trans q_v368))))]; omega) (fun I383 hB_I383 hV_I383 e_I383 p0_I383 pn_I383 p1_I383 pm_I383 => ?_))
                              obtain ⟨v384, q_v384⟩ : ∃ v, I383 150 (v329.toInt.toNat) = v := ⟨_, rfl⟩
                              have f_v384 : v384.toInt = 1 := by rw [← q_v384]; exact p0_I383
                              obtain ⟨v385, q_v385⟩ : ∃ v, I383 151 (v329.toInt.toNat) = v := ⟨_, rfl⟩
                              have f_v385 : v385.toInt = v325.toInt := by rw [← q_v385]; exact (congrArg Int32.toInt p1_I383)
                              refine qm_Ru.go 4 (c' := (250, [.ref 118, .int y, .int r, .int s, .int v325, .int v325, .int v329, .int (-1), .int 1], [.int (-3)], (h.1, I383, J376, h.2.2.2))) rfl ?_
                              refine qm_Ru.rt (v := (some (.int (-3)))) (h' := (h.1, I383, J376, h.2.2.2)) rfl ?_
                              exact k (some (.int (-3))) (I383) (J376) ⟨_, rfl, ⟨by decide, by decide⟩⟩ hB_I383 hV_I383 (fun o ho i => ((e_I383 o (hk_ms rfl ho) i).trans ((e_I375 o (hk_ms rfl ho) i).trans ((e_I373 o (hk_ms rfl ho) i).trans ((e_I371 o (hk_ms rfl ho) i).trans rfl)))))
                          · refine qm_Ru.go 1 (c' := (196, [.ref 118, .int y, .int r, .int s, .int v325, .int v325, .int v329, .int (-1), .int 1], [.int (-2)], h)) rfl ?_
                            refine qm_Ru.rt (v := (some (.int (-2)))) (h' := h) rfl ?_
                            exact k (some (.int (-2))) (h.2.1) (h.2.2.1) ⟨_, rfl, ⟨by decide, by decide⟩⟩ hB hV (fun o ho i => rfl)
                        · refine qm_Ru.go 1 (c' := (156, [.ref 118, .int y, .int r, .int s, .int v325, .int v325, .int v329, .int (-1), .int 1], [.int (-1)], h)) rfl ?_
                          refine qm_Ru.rt (v := (some (.int (-1)))) (h' := h) rfl ?_
                          exact k (some (.int (-1))) (h.2.1) (h.2.2.1) ⟨_, rfl, ⟨by decide, by decide⟩⟩ hB hV (fun o ho i => rfl)
                    · refine qm_Ru.go 1 (c' := (93, [.ref 118, .int y, .int r, .int s, .int v325, .int v325, .int v329, .float 0, .float 0], [.int (-1)], h)) rfl ?_
                      refine qm_Ru.rt (v := (some (.int (-1)))) (h' := h) rfl ?_
                      exact k (some (.int (-1))) (h.2.1) (h.2.2.1) ⟨_, rfl, ⟨by decide, by decide⟩⟩ hB hV (fun o ho i => rfl)
                  · refine qm_Ru.go 3 (c' := (70, [.ref 118, .int y, .int r, .int s, .int v325, .float 0, .float 0, .float 0, .float 0], [.int (v325 + 1)], h)) rfl ?_
                    rw [q_v326]
                    refine qm_Ru.go 3 (c' := (78, [.ref 118, .int y, .int r, .int s, .int v325, .int v326, .float 0, .float 0, .float 0], [.ref 118], h)) rfl ?_
                    refine hk_getr rfl (hH.1 118 (17, 105) rfl) rfl (hH.2 118 51 (some 152) rfl) ?_
                    refine qm_Ru.go 1 (c' := (83, [.ref 118, .int y, .int r, .int s, .int v325, .int v326, .float 0, .float 0, .float 0], [.int v326, .ref 152], h)) rfl ?_
                    refine hk_ial (v := v327) rfl (hH.1 152 (0, 80) rfl) (by omega) (by omega) q_v327 ?_
                    refine qm_Ru.go 3 (c' := (89, [.ref 118, .int y, .int r, .int s, .int v325, .int v326, .int v327, .float 0, .float 0], [.int (-1), .int v327], h)) rfl ?_
                    refine hk_cne (ix := v327.toInt) (iy := (-1)) rfl rfl rfl (fun z387 => ?_) (fun z387 => by exfalso; omega)
                    refine qm_Ru.go 1 (c' := (95, [.ref 118, .int y, .int r, .int s, .int v325, .int v326, .int v327, .float 0, .float 0], [.ref 118], h)) rfl ?_
                    refine hk_getr rfl (hH.1 118 (17, 105) rfl) rfl (hH.2 118 48 (some 149) rfl) ?_
                    refine qm_Ru.go 1 (c' := (100, [.ref 118, .int y, .int r, .int s, .int v325, .int v326, .int v327, .float 0, .float 0], [.int v327, .ref 149], h)) rfl ?_
                    obtain ⟨v388, q_v388⟩ : ∃ v, h.2.1 149 (v327.toInt.toNat) = v := ⟨_, rfl⟩
                    have b_v388 : (0 : Int) ≤ v388.toInt ∧ v388.toInt ≤ 1 := by rw [← q_v388]; exact hB 149 (v327.toInt.toNat)
                    refine hk_bal (v := v388) rfl (hH.1 149 (2, 30) rfl) (by decide) (by omega) (by omega) q_v388 ?_
                    refine qm_Ru.go 0 (c' := (101, [.ref 118, .int y, .int r, .int s, .int v325, .int v326, .int v327, .float 0, .float 0], [.int v388], h)) rfl ?_
                    refine hk_zeq (ix := v388.toInt) rfl rfl (fun z389 => ?_) (fun z389 => ?_)
                    · refine qm_Ru.go 10 (c' := (139, [.ref 118, .int y, .int r, .int s, .int v325, .int v326, .int v327, .int (-1), .int 1], [.int (-1), .int s], h)) rfl ?_
                      refine hk_ceq (ix := s.toInt) (iy := (-1)) rfl rfl rfl (fun z390 => by exfalso; omega) (fun z390 => ?_)
                      refine qm_Ru.go 1 (c' := (143, [.ref 118, .int y, .int r, .int s, .int v325, .int v326, .int v327, .int (-1), .int 1], [.ref 118], h)) rfl ?_
                      refine hk_getr rfl (hH.1 118 (17, 105) rfl) rfl (hH.2 118 53 (some 154) rfl) ?_
                      refine qm_Ru.go 1 (c' := (147, [.ref 118, .int y, .int r, .int s, .int v325, .int v326, .int v327, .int (-1), .int 1], [.int s, .ref 154], h)) rfl ?_
                      obtain ⟨v391, q_v391⟩ : ∃ v, h.2.1 154 (s.toInt.toNat) = v := ⟨_, rfl⟩
                      have b_v391 : (0 : Int) ≤ v391.toInt ∧ v391.toInt ≤ 4 := by rw [← q_v391]; exact hB 154 (s.toInt.toNat)
                      refine hk_ial (v := v391) rfl (hH.1 154 (0, 4) rfl) (by omega) (by omega) q_v391 ?_
                      refine qm_Ru.go 2 (c' := (151, [.ref 118, .int y, .int r, .int s, .int v325, .int v326, .int v327, .int (-1), .int 1], [.int (v391 + 1)], h)) rfl ?_
                      obtain ⟨v392, q_v392, e_v392⟩ := hk_add (x := v391) (y := 1) (a := v391.toInt) (b := 1) rfl rfl (by omega) (by omega)
                      rw [q_v392]
                      refine qm_Ru.go 1 (c' := (152, [.ref 118, .int y, .int r, .int s, .int v325, .int v326, .int v327, .int (-1), .int 1], [.int 4, .int v392], h)) rfl ?_
                      refine hk_cle (ix := v392.toInt) (iy := 4) rfl rfl rfl (fun z393 => ?_) (fun z393 => ?_)
                      · refine qm_Ru.go 1 (c' := (158, [.ref 118, .int y, .int r, .int s, .int v325, .int v326, .int v327, .int (-1), .int 1], [.ref 118], h)) rfl ?_
                        refine hk_getr rfl (hH.1 118 (17, 105) rfl) rfl (hH.2 118 45 (some 146) rfl) ?_
                        refine qm_Ru.go 1 (c' := (163, [.ref 118, .int y, .int r, .int s, .int v325, .int v326, .int v327, .int (-1), .int 1], [.int v327, .ref 146], h)) rfl ?_
                        obtain ⟨v394, q_v394⟩ : ∃ v, h.2.1 146 (v327.toInt.toNat) = v := ⟨_, rfl⟩
                        have b_v394 : (0 : Int) ≤ v394.toInt ∧ v394.toInt ≤ 40 := by rw [← q_v394]; exact hB 146 (v327.toInt.toNat)
                        refine hk_ial (v := v394) rfl (hH.1 146 (0, 30) rfl) (by omega) (by omega) q_v394 ?_
                        refine qm_Ru.go 6 (c' := (182, [.ref 118, .int y, .int r, .int s, .int v325, .int v326, .int v327, .int (-1), .int 1], [.int (v394 + 0)], h)) rfl ?_
                        obtain ⟨v395, q_v395, e_v395⟩ := hk_add (x := v394) (y := 0) (a := v394.toInt) (b := 0) rfl rfl (by omega) (by omega)
                        rw [q_v395]
                        refine qm_Ru.go 1 (c' := (183, [.ref 118, .int y, .int r, .int s, .int v325, .int v326, .int v327, .int (-1), .int 1], [.ref 118, .int v395], h)) rfl ?_
                        refine hk_getr rfl (hH.1 118 (17, 105) rfl) rfl (hH.2 118 24 (some 129) rfl) ?_
                        refine qm_Ru.go 1 (c' := (187, [.ref 118, .int y, .int r, .int s, .int v325, .int v326, .int v327, .int (-1), .int 1], [.ref 118, .ref 129, .int v395], h)) rfl ?_
                        refine hk_geti (v := v1) rfl (hH.1 118 (17, 105) rfl) rfl q_v1 ?_
                        refine qm_Ru.go 0 (c' := (190, [.ref 118, .int y, .int r, .int s, .int v325, .int v326, .int v327, .int (-1), .int 1], [.int v1, .ref 129, .int v395], h)) rfl ?_
                        obtain ⟨v396, q_v396⟩ : ∃ v, h.2.1 129 (v1.toInt.toNat) = v := ⟨_, rfl⟩
                        refine hk_ial (v := v396) rfl (hH.1 129 (0, 2) rfl) (by omega) (by omega) q_v396 ?_
                        refine qm_Ru.go 0 (c' := (191, [.ref 118, .int y, .int r, .int s, .int v325, .int v326, .int v327, .int (-1), .int 1], [.int v396, .int v395], h)) rfl ?_
                        refine hk_cle (ix := v395.toInt) (iy := v396.toInt) rfl rfl rfl (fun z397 => ?_) (fun z397 => ?_)
                        · refine qm_Ru.go 0 (c' := (197, [.ref 118, .int y, .int r, .int s, .int v325, .int v326, .int v327, .int (-1), .int 1], [], h)) rfl ?_
                          have a_v327 := ra_of hV.1 (by omega) q_v327 (by omega)
                          obtain ⟨v398, q_v398⟩ : ∃ v, h.2.1 118 44 = v := ⟨_, rfl⟩
                          have b_v398 : (0 : Int) ≤ v398.toInt ∧ v398.toInt ≤ 30 := by rw [← q_v398]; exact hB 118 44
                          have l_v327 : ((v327.toInt.toNat : Nat) : Int) < v398.toInt := by rw [← q_v398]; exact hV.1.2.2.2 (v327.toInt.toNat) (by show (h.2.1 150 (v327.toInt.toNat)).toInt ≠ 0; omega)
                          obtain ⟨v399, q_v399⟩ : ∃ v, h.2.1 150 (v327.toInt.toNat) = v := ⟨_, rfl⟩
                          have b_v399 : (0 : Int) ≤ v399.toInt ∧ v399.toInt ≤ 2 := by rw [← q_v399]; exact hB 150 (v327.toInt.toNat)
                          obtain ⟨v400, q_v400⟩ : ∃ v, h.2.1 151 (v327.toInt.toNat) = v := ⟨_, rfl⟩
                          have b_v400 : (0 : Int) ≤ v400.toInt ∧ v400.toInt ≤ 79 := by rw [← q_v400]; exact hB 151 (v327.toInt.toNat)
                          rw [q_v399, q_v400] at a_v327
                          refine qm_Ru.go 1 (c' := (198, [.ref 118, .int y, .int r, .int s, .int v325, .int v326, .int v327, .int (-1), .int 1], [.ref 118], h)) rfl ?_
                          refine hk_inv (o := 118) (r := []) (as := [.ref 118]) rfl rfl (hH.1 118 (17, 105) rfl) rfl rfl rfl rfl (hs_looks (h := h) h6 hH hB (v_R_ru hV)  (by omega) (fun I401 J402 hB_I401 e_I401 => ?_))
                          have hV_I401 : v_R I401 := v_R_cg hV e_I401 rfl
                          refine qm_Ru.go 2 (c' := (204, [.ref 118, .int y, .int r, .int s, .int v325, .int v326, .int v327, .int (-1), .int 1], [.int v327, .ref 118], (h.1, I401, J402, h.2.2.2))) rfl ?_
                          refine hk_inv (o := 118) (r := []) (as := [.ref 118, .int v327]) rfl rfl (hH.1 118 (17, 105) rfl) rfl rfl rfl rfl (rl_away (h := (h.1, I401, J402, h.2.2.2)) hH hB_I401 hV_I401 (b := v327) (by omega) (show pI (I401) 150 (v327.toInt.toNat) = 1 from (congrArg Int32.toInt (show (I401) 150 (v327.toInt.toNat) = _ from ((e_I401 150 rfl (v327.toInt.toNat)).trans q_v399))).trans (by omega)) (fun I403 hB_I403 hV_I403 e_I403 p0_I403 pn_I403 => ?_))
                          obtain ⟨v404, q_v404⟩ : ∃ v, I403 150 (v327.toInt.toNat) = v := ⟨_, rfl⟩
                          have f_v404 : v404.toInt = 0 := by rw [← q_v404]; exact p0_I403
                          refine qm_Ru.go 4 (c' := (220, [.ref 118, .int y, .int r, .int s, .int v325, .int v326, .int v327, .int (-1), .int 1], [.ref 118], (h.1, I403, J402, h.2.2.2))) rfl ?_
                          refine hk_inv (o := 118) (r := []) (as := [.ref 118]) rfl rfl (hH.1 118 (17, 105) rfl) rfl rfl rfl rfl (hs_maybe (h := (h.1, I403, J402, h.2.2.2)) h6 hH hB_I403 (v_R_ru hV_I403)  (by omega) (fun v407 I405 J406 c_v407 hB_I405 e_I405 => ?_))
                          have hV_I405 : v_R I405 := v_R_cg hV_I403 e_I405 rfl
                          have b_v407 : (0 : Int) ≤ v407.toInt ∧ v407.toInt ≤ 1 := c_v407
                          refine qm_Ru.go 0 (c' := (223, [.ref 118, .int y, .int r, .int s, .int v325, .int v326, .int v327, .int (-1), .int 1], [.int v407], (h.1, I405, J406, h.2.2.2))) rfl ?_
                          refine hk_zne (ix := v407.toInt) rfl rfl (fun z408 => ?_) (fun z408 => ?_)
                          · refine qm_Ru.go 2 (c' := (253, [.ref 118, .int y, .int r, .int s, .int v325, .int v326, .int v327, .int (-1), .int 1], [.int (-1), .int s], (h.1, I405, J406, h.2.2.2))) rfl ?_
                            refine hk_ceq (ix := s.toInt) (iy := (-1)) rfl rfl rfl (fun z409 => by exfalso; omega) (fun z409 => ?_)
                            refine qm_Ru.go 6 (c' := (273, [.ref 118, .int y, .int r, .int s, .int v325, .int v326, .int v327, .int (-1), .int 1], [.int s, .int v327, .ref 118], (h.1, I405, J406, h.2.2.2))) rfl ?_
                            refine hk_inv (o := 118) (r := []) (as := [.ref 118, .int v327, .int s]) rfl rfl (hH.1 118 (17, 105) rfl) rfl rfl rfl rfl (rp_puts (h := (h.1, I405, J406, h.2.2.2)) hH hB_I405 hV_I405 (b := v327) (s := s) (hv := v391.toInt) (by omega) (by omega) (show pI (I405) 150 (v327.toInt.toNat) = 0 from (congrArg Int32.toInt (show (I405) 150 (v327.toInt.toNat) = _ from ((e_I405 150 rfl (v327.toInt.toNat)).trans q_v404))).trans (by omega)) (congrArg Int32.toInt (show (I405) 154 (s.toInt.toNat) = _ from ((e_I405 154 rfl (s.toInt.toNat)).trans ((e_I403 154 rfl (s.toInt.toNat)).trans ((e_I401 154 rfl (s.toInt.toNat)).trans q_v391))))) (by omega) (by omega) (show ((v327.toInt.toNat : Nat) : Int) < ((I405) 118 44).toInt from by rw [(show (I405) 118 44 = _ from ((e_I405 118 rfl 44).trans ((e_I403 118 rfl 44).trans ((e_I401 118 rfl 44).trans q_v398))))]; omega) (fun I410 hB_I410 hV_I410 e_I410 p0_I410 pn_I410 pm_I410 p4_I410 => ?_))
                            obtain ⟨v411, q_v411⟩ : ∃ v, I410 150 (v327.toInt.toNat) = v := ⟨_, rfl⟩
                            have f_v411 : v411.toInt = 2 := by rw [← q_v411]; exact p0_I410
                            obtain ⟨v412, q_v412⟩ : ∃ v, I410 154 (s.toInt.toNat) = v := ⟨_, rfl⟩
                            have f_v412 : v412.toInt = v391.toInt + 1 := by rw [← q_v412]; exact p4_I410
                            refine qm_Ru.go 1 (c' := (278, [.ref 118, .int y, .int r, .int s, .int v325, .int v326, .int v327, .int (-1), .int 1], [.int 1], (h.1, I410, J406, h.2.2.2))) rfl ?_
                            refine qm_Ru.rt (v := (some (.int 1))) (h' := (h.1, I410, J406, h.2.2.2)) rfl ?_
                            exact k (some (.int 1)) (I410) (J406) ⟨_, rfl, ⟨by decide, by decide⟩⟩ hB_I410 hV_I410 (fun o ho i => ((e_I410 o (hk_ms rfl ho) i).trans ((e_I405 o (hk_ms rfl ho) i).trans ((e_I403 o (hk_ms rfl ho) i).trans ((e_I401 o (hk_ms rfl ho) i).trans rfl)))))
                          · refine qm_Ru.go 3 (c' := (231, [.ref 118, .int y, .int r, .int s, .int v325, .int v326, .int v327, .int (-1), .int 1], [.int v326, .int v327, .ref 118], (h.1, I405, J406, h.2.2.2))) rfl ?_
                            refine hk_inv (o := 118) (r := []) (as := [.ref 118, .int v327, .int v326]) rfl rfl (hH.1 118 (17, 105) rfl) rfl rfl rfl rfl (rb_boards (h := (h.1, I405, J406, h.2.2.2)) hH hB_I405 hV_I405 (b := v327) (k0 := v326) (by omega) (by omega) (show pI (I405) 150 (v327.toInt.toNat) = 0 from (congrArg Int32.toInt (show (I405) 150 (v327.toInt.toNat) = _ from ((e_I405 150 rfl (v327.toInt.toNat)).trans q_v404))).trans (by omega)) (show ((v327.toInt.toNat : Nat) : Int) < ((I405) 118 44).toInt from by rw [(show (I405) 118 44 = _ from ((e_I405 118 rfl 44).trans ((e_I403 118 rfl 44).trans ((e_I401 118 rfl 44).trans q_v398))))]; omega) (fun I413 hB_I413 hV_I413 e_I413 p0_I413 pn_I413 p1_I413 pm_I413 => ?_))
                            obtain ⟨v414, q_v414⟩ : ∃ v, I413 150 (v327.toInt.toNat) = v := ⟨_, rfl⟩
                            have f_v414 : v414.toInt = 1 := by rw [← q_v414]; exact p0_I413
                            obtain ⟨v415, q_v415⟩ : ∃ v, I413 151 (v327.toInt.toNat) = v := ⟨_, rfl⟩
                            have f_v415 : v415.toInt = v326.toInt := by rw [← q_v415]; exact (congrArg Int32.toInt p1_I413)
                            refine qm_Ru.go 4 (c' := (250, [.ref 118, .int y, .int r, .int s, .int v325, .int v326, .int v327, .int (-1), .int 1], [.int (-3)], (h.1, I413, J406, h.2.2.2))) rfl ?_
                            refine qm_Ru.rt (v := (some (.int (-3)))) (h' := (h.1, I413, J406, h.2.2.2)) rfl ?_
                            exact k (some (.int (-3))) (I413) (J406) ⟨_, rfl, ⟨by decide, by decide⟩⟩ hB_I413 hV_I413 (fun o ho i => ((e_I413 o (hk_ms rfl ho) i).trans ((e_I405 o (hk_ms rfl ho) i).trans ((e_I403 o (hk_ms rfl ho) i).trans ((e_I401 o (hk_ms rfl ho) i).trans rfl)))))
                        · refine qm_Ru.go 1 (c' := (196, [.ref 118, .int y, .int r, .int s, .int v325, .int v326, .int v327, .int (-1), .int 1], [.int (-2)], h)) rfl ?_
                          refine qm_Ru.rt (v := (some (.int (-2)))) (h' := h) rfl ?_
                          exact k (some (.int (-2))) (h.2.1) (h.2.2.1) ⟨_, rfl, ⟨by decide, by decide⟩⟩ hB hV (fun o ho i => rfl)
                      · refine qm_Ru.go 1 (c' := (156, [.ref 118, .int y, .int r, .int s, .int v325, .int v326, .int v327, .int (-1), .int 1], [.int (-1)], h)) rfl ?_
                        refine qm_Ru.rt (v := (some (.int (-1)))) (h' := h) rfl ?_
                        exact k (some (.int (-1))) (h.2.1) (h.2.2.1) ⟨_, rfl, ⟨by decide, by decide⟩⟩ hB hV (fun o ho i => rfl)
                    · refine qm_Ru.go 2 (c' := (108, [.ref 118, .int y, .int r, .int s, .int v325, .int v326, .int v327, .float 0, .float 0], [.int v325, .int v326], h)) rfl ?_
                      refine hk_cle (ix := v326.toInt) (iy := v325.toInt) rfl rfl rfl (fun z416 => ?_) (fun z416 => ?_)
                      · refine qm_Ru.go 10 (c' := (139, [.ref 118, .int y, .int r, .int s, .int v325, .int v326, .int v327, .int (-1), .int 1], [.int (-1), .int s], h)) rfl ?_
                        refine hk_ceq (ix := s.toInt) (iy := (-1)) rfl rfl rfl (fun z417 => by exfalso; omega) (fun z417 => ?_)
                        refine qm_Ru.go 1 (c' := (143, [.ref 118, .int y, .int r, .int s, .int v325, .int v326, .int v327, .int (-1), .int 1], [.ref 118], h)) rfl ?_
                        refine hk_getr rfl (hH.1 118 (17, 105) rfl) rfl (hH.2 118 53 (some 154) rfl) ?_
                        refine qm_Ru.go 1 (c' := (147, [.ref 118, .int y, .int r, .int s, .int v325, .int v326, .int v327, .int (-1), .int 1], [.int s, .ref 154], h)) rfl ?_
                        obtain ⟨v418, q_v418⟩ : ∃ v, h.2.1 154 (s.toInt.toNat) = v := ⟨_, rfl⟩
                        have b_v418 : (0 : Int) ≤ v418.toInt ∧ v418.toInt ≤ 4 := by rw [← q_v418]; exact hB 154 (s.toInt.toNat)
                        refine hk_ial (v := v418) rfl (hH.1 154 (0, 4) rfl) (by omega) (by omega) q_v418 ?_
                        refine qm_Ru.go 2 (c' := (151, [.ref 118, .int y, .int r, .int s, .int v325, .int v326, .int v327, .int (-1), .int 1], [.int (v418 + 1)], h)) rfl ?_
                        obtain ⟨v419, q_v419, e_v419⟩ := hk_add (x := v418) (y := 1) (a := v418.toInt) (b := 1) rfl rfl (by omega) (by omega)
                        rw [q_v419]
                        refine qm_Ru.go 1 (c' := (152, [.ref 118, .int y, .int r, .int s, .int v325, .int v326, .int v327, .int (-1), .int 1], [.int 4, .int v419], h)) rfl ?_
                        refine hk_cle (ix := v419.toInt) (iy := 4) rfl rfl rfl (fun z420 => ?_) (fun z420 => ?_)
                        · refine qm_Ru.go 1 (c' := (158, [.ref 118, .int y, .int r, .int s, .int v325, .int v326, .int v327, .int (-1), .int 1], [.ref 118], h)) rfl ?_
                          refine hk_getr rfl (hH.1 118 (17, 105) rfl) rfl (hH.2 118 45 (some 146) rfl) ?_
                          refine qm_Ru.go 1 (c' := (163, [.ref 118, .int y, .int r, .int s, .int v325, .int v326, .int v327, .int (-1), .int 1], [.int v327, .ref 146], h)) rfl ?_
                          obtain ⟨v421, q_v421⟩ : ∃ v, h.2.1 146 (v327.toInt.toNat) = v := ⟨_, rfl⟩
                          have b_v421 : (0 : Int) ≤ v421.toInt ∧ v421.toInt ≤ 40 := by rw [← q_v421]; exact hB 146 (v327.toInt.toNat)
                          refine hk_ial (v := v421) rfl (hH.1 146 (0, 30) rfl) (by omega) (by omega) q_v421 ?_
                          refine qm_Ru.go 6 (c' := (182, [.ref 118, .int y, .int r, .int s, .int v325, .int v326, .int v327, .int (-1), .int 1], [.int (v421 + 0)], h)) rfl ?_
                          obtain ⟨v422, q_v422, e_v422⟩ := hk_add (x := v421) (y := 0) (a := v421.toInt) (b := 0) rfl rfl (by omega) (by omega)
                          rw [q_v422]
                          refine qm_Ru.go 1 (c' := (183, [.ref 118, .int y, .int r, .int s, .int v325, .int v326, .int v327, .int (-1), .int 1], [.ref 118, .int v422], h)) rfl ?_
                          refine hk_getr rfl (hH.1 118 (17, 105) rfl) rfl (hH.2 118 24 (some 129) rfl) ?_
                          refine qm_Ru.go 1 (c' := (187, [.ref 118, .int y, .int r, .int s, .int v325, .int v326, .int v327, .int (-1), .int 1], [.ref 118, .ref 129, .int v422], h)) rfl ?_
                          refine hk_geti (v := v1) rfl (hH.1 118 (17, 105) rfl) rfl q_v1 ?_
                          refine qm_Ru.go 0 (c' := (190, [.ref 118, .int y, .int r, .int s, .int v325, .int v326, .int v327, .int (-1), .int 1], [.int v1, .ref 129, .int v422], h)) rfl ?_
                          obtain ⟨v423, q_v423⟩ : ∃ v, h.2.1 129 (v1.toInt.toNat) = v := ⟨_, rfl⟩
                          refine hk_ial (v := v423) rfl (hH.1 129 (0, 2) rfl) (by omega) (by omega) q_v423 ?_
                          refine qm_Ru.go 0 (c' := (191, [.ref 118, .int y, .int r, .int s, .int v325, .int v326, .int v327, .int (-1), .int 1], [.int v423, .int v422], h)) rfl ?_
                          refine hk_cle (ix := v422.toInt) (iy := v423.toInt) rfl rfl rfl (fun z424 => ?_) (fun z424 => ?_)
                          · refine qm_Ru.go 0 (c' := (197, [.ref 118, .int y, .int r, .int s, .int v325, .int v326, .int v327, .int (-1), .int 1], [], h)) rfl ?_
                            have a_v327 := ra_of hV.1 (by omega) q_v327 (by omega)
                            obtain ⟨v425, q_v425⟩ : ∃ v, h.2.1 118 44 = v := ⟨_, rfl⟩
                            have b_v425 : (0 : Int) ≤ v425.toInt ∧ v425.toInt ≤ 30 := by rw [← q_v425]; exact hB 118 44
                            have l_v327 : ((v327.toInt.toNat : Nat) : Int) < v425.toInt := by rw [← q_v425]; exact hV.1.2.2.2 (v327.toInt.toNat) (by show (h.2.1 150 (v327.toInt.toNat)).toInt ≠ 0; omega)
                            obtain ⟨v426, q_v426⟩ : ∃ v, h.2.1 150 (v327.toInt.toNat) = v := ⟨_, rfl⟩
                            have b_v426 : (0 : Int) ≤ v426.toInt ∧ v426.toInt ≤ 2 := by rw [← q_v426]; exact hB 150 (v327.toInt.toNat)
                            obtain ⟨v427, q_v427⟩ : ∃ v, h.2.1 151 (v327.toInt.toNat) = v := ⟨_, rfl⟩
                            have b_v427 : (0 : Int) ≤ v427.toInt ∧ v427.toInt ≤ 79 := by rw [← q_v427]; exact hB 151 (v327.toInt.toNat)
                            rw [q_v426, q_v427] at a_v327
                            refine qm_Ru.go 1 (c' := (198, [.ref 118, .int y, .int r, .int s, .int v325, .int v326, .int v327, .int (-1), .int 1], [.ref 118], h)) rfl ?_
                            refine hk_inv (o := 118) (r := []) (as := [.ref 118]) rfl rfl (hH.1 118 (17, 105) rfl) rfl rfl rfl rfl (hs_looks (h := h) h6 hH hB (v_R_ru hV)  (by omega) (fun I428 J429 hB_I428 e_I428 => ?_))
                            have hV_I428 : v_R I428 := v_R_cg hV e_I428 rfl
                            refine qm_Ru.go 2 (c' := (204, [.ref 118, .int y, .int r, .int s, .int v325, .int v326, .int v327, .int (-1), .int 1], [.int v327, .ref 118], (h.1, I428, J429, h.2.2.2))) rfl ?_
                            refine hk_inv (o := 118) (r := []) (as := [.ref 118, .int v327]) rfl rfl (hH.1 118 (17, 105) rfl) rfl rfl rfl rfl (rl_away (h := (h.1, I428, J429, h.2.2.2)) hH hB_I428 hV_I428 (b := v327) (by omega) (show pI (I428) 150 (v327.toInt.toNat) = 1 from (congrArg Int32.toInt (show (I428) 150 (v327.toInt.toNat) = _ from ((e_I428 150 rfl (v327.toInt.toNat)).trans q_v426))).trans (by omega)) (fun I430 hB_I430 hV_I430 e_I430 p0_I430 pn_I430 => ?_))
                            obtain ⟨v431, q_v431⟩ : ∃ v, I430 150 (v327.toInt.toNat) = v := ⟨_, rfl⟩
                            have f_v431 : v431.toInt = 0 := by rw [← q_v431]; exact p0_I430
                            refine qm_Ru.go 4 (c' := (220, [.ref 118, .int y, .int r, .int s, .int v325, .int v326, .int v327, .int (-1), .int 1], [.ref 118], (h.1, I430, J429, h.2.2.2))) rfl ?_
                            refine hk_inv (o := 118) (r := []) (as := [.ref 118]) rfl rfl (hH.1 118 (17, 105) rfl) rfl rfl rfl rfl (hs_maybe (h := (h.1, I430, J429, h.2.2.2)) h6 hH hB_I430 (v_R_ru hV_I430)  (by omega) (fun v434 I432 J433 c_v434 hB_I432 e_I432 => ?_))
                            have hV_I432 : v_R I432 := v_R_cg hV_I430 e_I432 rfl
                            have b_v434 : (0 : Int) ≤ v434.toInt ∧ v434.toInt ≤ 1 := c_v434
                            refine qm_Ru.go 0 (c' := (223, [.ref 118, .int y, .int r, .int s, .int v325, .int v326, .int v327, .int (-1), .int 1], [.int v434], (h.1, I432, J433, h.2.2.2))) rfl ?_
                            refine hk_zne (ix := v434.toInt) rfl rfl (fun z435 => ?_) (fun z435 => ?_)
                            · refine qm_Ru.go 2 (c' := (253, [.ref 118, .int y, .int r, .int s, .int v325, .int v326, .int v327, .int (-1), .int 1], [.int (-1), .int s], (h.1, I432, J433, h.2.2.2))) rfl ?_
                              refine hk_ceq (ix := s.toInt) (iy := (-1)) rfl rfl rfl (fun z436 => by exfalso; omega) (fun z436 => ?_)
                              refine qm_Ru.go 6 (c' := (273, [.ref 118, .int y, .int r, .int s, .int v325, .int v326, .int v327, .int (-1), .int 1], [.int s, .int v327, .ref 118], (h.1, I432, J433, h.2.2.2))) rfl ?_
                              refine hk_inv (o := 118) (r := []) (as := [.ref 118, .int v327, .int s]) rfl rfl (hH.1 118 (17, 105) rfl) rfl rfl rfl rfl (rp_puts (h := (h.1, I432, J433, h.2.2.2)) hH hB_I432 hV_I432 (b := v327) (s := s) (hv := v418.toInt) (by omega) (by omega) (show pI (I432) 150 (v327.toInt.toNat) = 0 from (congrArg Int32.toInt (show (I432) 150 (v327.toInt.toNat) = _ from ((e_I432 150 rfl (v327.toInt.toNat)).trans q_v431))).trans (by omega)) (congrArg Int32.toInt (show (I432) 154 (s.toInt.toNat) = _ from ((e_I432 154 rfl (s.toInt.toNat)).trans ((e_I430 154 rfl (s.toInt.toNat)).trans ((e_I428 154 rfl (s.toInt.toNat)).trans q_v418))))) (by omega) (by omega) (show ((v327.toInt.toNat : Nat) : Int) < ((I432) 118 44).toInt from by rw [(show (I432) 118 44 = _ from ((e_I432 118 rfl 44).trans ((e_I430 118 rfl 44).trans ((e_I428 118 rfl 44).trans q_v425))))]; omega) (fun I437 hB_I437 hV_I437 e_I437 p0_I437 pn_I437 pm_I437 p4_I437 => ?_))
                              obtain ⟨v438, q_v438⟩ : ∃ v, I437 150 (v327.toInt.toNat) = v := ⟨_, rfl⟩
                              have f_v438 : v438.toInt = 2 := by rw [← q_v438]; exact p0_I437
                              obtain ⟨v439, q_v439⟩ : ∃ v, I437 154 (s.toInt.toNat) = v := ⟨_, rfl⟩
                              have f_v439 : v439.toInt = v418.toInt + 1 := by rw [← q_v439]; exact p4_I437
                              refine qm_Ru.go 1 (c' := (278, [.ref 118, .int y, .int r, .int s, .int v325, .int v326, .int v327, .int (-1), .int 1], [.int 1], (h.1, I437, J433, h.2.2.2))) rfl ?_
                              refine qm_Ru.rt (v := (some (.int 1))) (h' := (h.1, I437, J433, h.2.2.2)) rfl ?_
                              exact k (some (.int 1)) (I437) (J433) ⟨_, rfl, ⟨by decide, by decide⟩⟩ hB_I437 hV_I437 (fun o ho i => ((e_I437 o (hk_ms rfl ho) i).trans ((e_I432 o (hk_ms rfl ho) i).trans ((e_I430 o (hk_ms rfl ho) i).trans ((e_I428 o (hk_ms rfl ho) i).trans rfl)))))
                            · refine qm_Ru.go 3 (c' := (231, [.ref 118, .int y, .int r, .int s, .int v325, .int v326, .int v327, .int (-1), .int 1], [.int v326, .int v327, .ref 118], (h.1, I432, J433, h.2.2.2))) rfl ?_
                              refine hk_inv (o := 118) (r := []) (as := [.ref 118, .int v327, .int v326]) rfl rfl (hH.1 118 (17, 105) rfl) rfl rfl rfl rfl (rb_boards (h := (h.1, I432, J433, h.2.2.2)) hH hB_I432 hV_I432 (b := v327) (k0 := v326) (by omega) (by omega) (show pI (I432) 150 (v327.toInt.toNat) = 0 from (congrArg Int32.toInt (show (I432) 150 (v327.toInt.toNat) = _ from ((e_I432 150 rfl (v327.toInt.toNat)).trans q_v431))).trans (by omega)) (show ((v327.toInt.toNat : Nat) : Int) < ((I432) 118 44).toInt from by rw [(show (I432) 118 44 = _ from ((e_I432 118 rfl 44).trans ((e_I430 118 rfl 44).trans ((e_I428 118 rfl 44).trans q_v425))))]; omega) (fun I440 hB_I440 hV_I440 e_I440 p0_I440 pn_I440 p1_I440 pm_I440 => ?_))
                              obtain ⟨v441, q_v441⟩ : ∃ v, I440 150 (v327.toInt.toNat) = v := ⟨_, rfl⟩
                              have f_v441 : v441.toInt = 1 := by rw [← q_v441]; exact p0_I440
                              obtain ⟨v442, q_v442⟩ : ∃ v, I440 151 (v327.toInt.toNat) = v := ⟨_, rfl⟩
                              have f_v442 : v442.toInt = v326.toInt := by rw [← q_v442]; exact (congrArg Int32.toInt p1_I440)
                              refine qm_Ru.go 4 (c' := (250, [.ref 118, .int y, .int r, .int s, .int v325, .int v326, .int v327, .int (-1), .int 1], [.int (-3)], (h.1, I440, J433, h.2.2.2))) rfl ?_
                              refine qm_Ru.rt (v := (some (.int (-3)))) (h' := (h.1, I440, J433, h.2.2.2)) rfl ?_
                              exact k (some (.int (-3))) (I440) (J433) ⟨_, rfl, ⟨by decide, by decide⟩⟩ hB_I440 hV_I440 (fun o ho i => ((e_I440 o (hk_ms rfl ho) i).trans ((e_I432 o (hk_ms rfl ho) i).trans ((e_I430 o (hk_ms rfl ho) i).trans ((e_I428 o (hk_ms rfl ho) i).trans rfl)))))
                          · refine qm_Ru.go 1 (c' := (196, [.ref 118, .int y, .int r, .int s, .int v325, .int v326, .int v327, .int (-1), .int 1], [.int (-2)], h)) rfl ?_
                            refine qm_Ru.rt (v := (some (.int (-2)))) (h' := h) rfl ?_
                            exact k (some (.int (-2))) (h.2.1) (h.2.2.1) ⟨_, rfl, ⟨by decide, by decide⟩⟩ hB hV (fun o ho i => rfl)
                        · refine qm_Ru.go 1 (c' := (156, [.ref 118, .int y, .int r, .int s, .int v325, .int v326, .int v327, .int (-1), .int 1], [.int (-1)], h)) rfl ?_
                          refine qm_Ru.rt (v := (some (.int (-1)))) (h' := h) rfl ?_
                          exact k (some (.int (-1))) (h.2.1) (h.2.2.1) ⟨_, rfl, ⟨by decide, by decide⟩⟩ hB hV (fun o ho i => rfl)
                      · refine qm_Ru.go 1 (c' := (112, [.ref 118, .int y, .int r, .int s, .int v325, .int v326, .int v327, .float 0, .float 0], [.ref 118], h)) rfl ?_
                        refine hk_getr rfl (hH.1 118 (17, 105) rfl) rfl (hH.2 118 51 (some 152) rfl) ?_
                        refine qm_Ru.go 1 (c' := (117, [.ref 118, .int y, .int r, .int s, .int v325, .int v326, .int v327, .float 0, .float 0], [.int v325, .ref 152], h)) rfl ?_
                        obtain ⟨v443, q_v443⟩ : ∃ v, h.2.1 152 (v325.toInt.toNat) = v := ⟨_, rfl⟩
                        have b_v443 : (-1 : Int) ≤ v443.toInt ∧ v443.toInt ≤ 29 := by rw [← q_v443]; exact hB 152 (v325.toInt.toNat)
                        refine hk_ial (v := v443) rfl (hH.1 152 (0, 80) rfl) (by omega) (by omega) q_v443 ?_
                        refine qm_Ru.go 4 (c' := (127, [.ref 118, .int y, .int r, .int s, .int v325, .int v326, .int v327, .int v443, .float 0], [.int (-1), .int v443], h)) rfl ?_
                        refine hk_cne (ix := v443.toInt) (iy := (-1)) rfl rfl rfl (fun z444 => ?_) (fun z444 => ?_)
                        · refine qm_Ru.go 4 (c' := (139, [.ref 118, .int y, .int r, .int s, .int v325, .int v326, .int v327, .int v443, .int 2], [.int (-1), .int s], h)) rfl ?_
                          refine hk_ceq (ix := s.toInt) (iy := (-1)) rfl rfl rfl (fun z445 => by exfalso; omega) (fun z445 => ?_)
                          refine qm_Ru.go 1 (c' := (143, [.ref 118, .int y, .int r, .int s, .int v325, .int v326, .int v327, .int v443, .int 2], [.ref 118], h)) rfl ?_
                          refine hk_getr rfl (hH.1 118 (17, 105) rfl) rfl (hH.2 118 53 (some 154) rfl) ?_
                          refine qm_Ru.go 1 (c' := (147, [.ref 118, .int y, .int r, .int s, .int v325, .int v326, .int v327, .int v443, .int 2], [.int s, .ref 154], h)) rfl ?_
                          obtain ⟨v446, q_v446⟩ : ∃ v, h.2.1 154 (s.toInt.toNat) = v := ⟨_, rfl⟩
                          have b_v446 : (0 : Int) ≤ v446.toInt ∧ v446.toInt ≤ 4 := by rw [← q_v446]; exact hB 154 (s.toInt.toNat)
                          refine hk_ial (v := v446) rfl (hH.1 154 (0, 4) rfl) (by omega) (by omega) q_v446 ?_
                          refine qm_Ru.go 2 (c' := (151, [.ref 118, .int y, .int r, .int s, .int v325, .int v326, .int v327, .int v443, .int 2], [.int (v446 + 2)], h)) rfl ?_
                          obtain ⟨v447, q_v447, e_v447⟩ := hk_add (x := v446) (y := 2) (a := v446.toInt) (b := 2) rfl rfl (by omega) (by omega)
                          rw [q_v447]
                          refine qm_Ru.go 1 (c' := (152, [.ref 118, .int y, .int r, .int s, .int v325, .int v326, .int v327, .int v443, .int 2], [.int 4, .int v447], h)) rfl ?_
                          refine hk_cle (ix := v447.toInt) (iy := 4) rfl rfl rfl (fun z448 => ?_) (fun z448 => ?_)
                          · refine qm_Ru.go 1 (c' := (158, [.ref 118, .int y, .int r, .int s, .int v325, .int v326, .int v327, .int v443, .int 2], [.ref 118], h)) rfl ?_
                            refine hk_getr rfl (hH.1 118 (17, 105) rfl) rfl (hH.2 118 45 (some 146) rfl) ?_
                            refine qm_Ru.go 1 (c' := (163, [.ref 118, .int y, .int r, .int s, .int v325, .int v326, .int v327, .int v443, .int 2], [.int v327, .ref 146], h)) rfl ?_
                            obtain ⟨v449, q_v449⟩ : ∃ v, h.2.1 146 (v327.toInt.toNat) = v := ⟨_, rfl⟩
                            have b_v449 : (0 : Int) ≤ v449.toInt ∧ v449.toInt ≤ 40 := by rw [← q_v449]; exact hB 146 (v327.toInt.toNat)
                            refine hk_ial (v := v449) rfl (hH.1 146 (0, 30) rfl) (by omega) (by omega) q_v449 ?_
                            refine qm_Ru.go 2 (c' := (167, [.ref 118, .int y, .int r, .int s, .int v325, .int v326, .int v327, .int v443, .int 2], [.int (-1), .int v443, .int v449], h)) rfl ?_
                            refine hk_cne (ix := v443.toInt) (iy := (-1)) rfl rfl rfl (fun z450 => ?_) (fun z450 => by exfalso; omega)
                            refine qm_Ru.go 1 (c' := (175, [.ref 118, .int y, .int r, .int s, .int v325, .int v326, .int v327, .int v443, .int 2], [.ref 118, .int v449], h)) rfl ?_
                            refine hk_getr rfl (hH.1 118 (17, 105) rfl) rfl (hH.2 118 45 (some 146) rfl) ?_
                            refine qm_Ru.go 1 (c' := (180, [.ref 118, .int y, .int r, .int s, .int v325, .int v326, .int v327, .int v443, .int 2], [.int v443, .ref 146, .int v449], h)) rfl ?_
                            obtain ⟨v451, q_v451⟩ : ∃ v, h.2.1 146 (v443.toInt.toNat) = v := ⟨_, rfl⟩
                            have b_v451 : (0 : Int) ≤ v451.toInt ∧ v451.toInt ≤ 40 := by rw [← q_v451]; exact hB 146 (v443.toInt.toNat)
                            refine hk_ial (v := v451) rfl (hH.1 146 (0, 30) rfl) (by omega) (by omega) q_v451 ?_
                            refine qm_Ru.go 1 (c' := (182, [.ref 118, .int y, .int r, .int s, .int v325, .int v326, .int v327, .int v443, .int 2], [.int (v449 + v451)], h)) rfl ?_
                            obtain ⟨v452, q_v452, e_v452⟩ := hk_add (x := v449) (y := v451) (a := v449.toInt) (b := v451.toInt) rfl rfl (by omega) (by omega)
                            rw [q_v452]
                            refine qm_Ru.go 1 (c' := (183, [.ref 118, .int y, .int r, .int s, .int v325, .int v326, .int v327, .int v443, .int 2], [.ref 118, .int v452], h)) rfl ?_
                            refine hk_getr rfl (hH.1 118 (17, 105) rfl) rfl (hH.2 118 24 (some 129) rfl) ?_
                            refine qm_Ru.go 1 (c' := (187, [.ref 118, .int y, .int r, .int s, .int v325, .int v326, .int v327, .int v443, .int 2], [.ref 118, .ref 129, .int v452], h)) rfl ?_
                            refine hk_geti (v := v1) rfl (hH.1 118 (17, 105) rfl) rfl q_v1 ?_
                            refine qm_Ru.go 0 (c' := (190, [.ref 118, .int y, .int r, .int s, .int v325, .int v326, .int v327, .int v443, .int 2], [.int v1, .ref 129, .int v452], h)) rfl ?_
                            obtain ⟨v453, q_v453⟩ : ∃ v, h.2.1 129 (v1.toInt.toNat) = v := ⟨_, rfl⟩
                            refine hk_ial (v := v453) rfl (hH.1 129 (0, 2) rfl) (by omega) (by omega) q_v453 ?_
                            refine qm_Ru.go 0 (c' := (191, [.ref 118, .int y, .int r, .int s, .int v325, .int v326, .int v327, .int v443, .int 2], [.int v453, .int v452], h)) rfl ?_
                            refine hk_cle (ix := v452.toInt) (iy := v453.toInt) rfl rfl rfl (fun z454 => ?_) (fun z454 => ?_)
                            · refine qm_Ru.go 0 (c' := (197, [.ref 118, .int y, .int r, .int s, .int v325, .int v326, .int v327, .int v443, .int 2], [], h)) rfl ?_
                              have a_v327 := ra_of hV.1 (by omega) q_v327 (by omega)
                              have a_v443 := ra_of hV.1 (by omega) q_v443 (by omega)
                              have n_v443 : v443.toInt ≠ v327.toInt := fun e => by have e2 : v443 = v327 := hk_eqi.mpr e; subst e2; omega
                              obtain ⟨v455, q_v455⟩ : ∃ v, h.2.1 118 44 = v := ⟨_, rfl⟩
                              have b_v455 : (0 : Int) ≤ v455.toInt ∧ v455.toInt ≤ 30 := by rw [← q_v455]; exact hB 118 44
                              have l_v327 : ((v327.toInt.toNat : Nat) : Int) < v455.toInt := by rw [← q_v455]; exact hV.1.2.2.2 (v327.toInt.toNat) (by show (h.2.1 150 (v327.toInt.toNat)).toInt ≠ 0; omega)
                              obtain ⟨v456, q_v456⟩ : ∃ v, h.2.1 150 (v327.toInt.toNat) = v := ⟨_, rfl⟩
                              have b_v456 : (0 : Int) ≤ v456.toInt ∧ v456.toInt ≤ 2 := by rw [← q_v456]; exact hB 150 (v327.toInt.toNat)
                              obtain ⟨v457, q_v457⟩ : ∃ v, h.2.1 151 (v327.toInt.toNat) = v := ⟨_, rfl⟩
                              have b_v457 : (0 : Int) ≤ v457.toInt ∧ v457.toInt ≤ 79 := by rw [← q_v457]; exact hB 151 (v327.toInt.toNat)
                              rw [q_v456, q_v457] at a_v327
                              have l_v443 : ((v443.toInt.toNat : Nat) : Int) < v455.toInt := by rw [← q_v455]; exact hV.1.2.2.2 (v443.toInt.toNat) (by show (h.2.1 150 (v443.toInt.toNat)).toInt ≠ 0; omega)
                              obtain ⟨v458, q_v458⟩ : ∃ v, h.2.1 150 (v443.toInt.toNat) = v := ⟨_, rfl⟩
                              have b_v458 : (0 : Int) ≤ v458.toInt ∧ v458.toInt ≤ 2 := by rw [← q_v458]; exact hB 150 (v443.toInt.toNat)
                              obtain ⟨v459, q_v459⟩ : ∃ v, h.2.1 151 (v443.toInt.toNat) = v := ⟨_, rfl⟩
                              have b_v459 : (0 : Int) ≤ v459.toInt ∧ v459.toInt ≤ 79 := by rw [← q_v459]; exact hB 151 (v443.toInt.toNat)
                              rw [q_v458, q_v459] at a_v443
                              refine qm_Ru.go 1 (c' := (198, [.ref 118, .int y, .int r, .int s, .int v325, .int v326, .int v327, .int v443, .int 2], [.ref 118], h)) rfl ?_
                              refine hk_inv (o := 118) (r := []) (as := [.ref 118]) rfl rfl (hH.1 118 (17, 105) rfl) rfl rfl rfl rfl (hs_looks (h := h) h6 hH hB (v_R_ru hV)  (by omega) (fun I460 J461 hB_I460 e_I460 => ?_))
                              have hV_I460 : v_R I460 := v_R_cg hV e_I460 rfl
                              refine qm_Ru.go 2 (c' := (204, [.ref 118, .int y, .int r, .int s, .int v325, .int v326, .int v327, .int v443, .int 2], [.int v327, .ref 118], (h.1, I460, J461, h.2.2.2))) rfl ?_
                              refine hk_inv (o := 118) (r := []) (as := [.ref 118, .int v327]) rfl rfl (hH.1 118 (17, 105) rfl) rfl rfl rfl rfl (rl_away (h := (h.1, I460, J461, h.2.2.2)) hH hB_I460 hV_I460 (b := v327) (by omega) (show pI (I460) 150 (v327.toInt.toNat) = 1 from (congrArg Int32.toInt (show (I460) 150 (v327.toInt.toNat) = _ from ((e_I460 150 rfl (v327.toInt.toNat)).trans q_v456))).trans (by omega)) (fun I462 hB_I462 hV_I462 e_I462 p0_I462 pn_I462 => ?_))
                              obtain ⟨v463, q_v463⟩ : ∃ v, I462 150 (v327.toInt.toNat) = v := ⟨_, rfl⟩
                              have f_v463 : v463.toInt = 0 := by rw [← q_v463]; exact p0_I462
                              refine qm_Ru.go 2 (c' := (210, [.ref 118, .int y, .int r, .int s, .int v325, .int v326, .int v327, .int v443, .int 2], [.int (-1), .int v443], (h.1, I462, J461, h.2.2.2))) rfl ?_
                              refine hk_ceq (ix := v443.toInt) (iy := (-1)) rfl rfl rfl (fun z464 => by exfalso; omega) (fun z464 => ?_)
                              refine qm_Ru.go 2 (c' := (216, [.ref 118, .int y, .int r, .int s, .int v325, .int v326, .int v327, .int v443, .int 2], [.int v443, .ref 118], (h.1, I462, J461, h.2.2.2))) rfl ?_
                              refine hk_inv (o := 118) (r := []) (as := [.ref 118, .int v443]) rfl rfl (hH.1 118 (17, 105) rfl) rfl rfl rfl rfl (rl_away (h := (h.1, I462, J461, h.2.2.2)) hH hB_I462 hV_I462 (b := v443) (by omega) (show pI (I462) 150 (v443.toInt.toNat) = 1 from (congrArg Int32.toInt (show (I462) 150 (v443.toInt.toNat) = _ from ((pn_I462 (v443.toInt.toNat) (by omega)).trans ((e_I460 150 rfl (v443.toInt.toNat)).trans q_v458)))).trans (by omega)) (fun I465 hB_I465 hV_I465 e_I465 p0_I465 pn_I465 => ?_))
                              obtain ⟨v466, q_v466⟩ : ∃ v, I465 150 (v443.toInt.toNat) = v := ⟨_, rfl⟩
                              have f_v466 : v466.toInt = 0 := by rw [← q_v466]; exact p0_I465
                              refine qm_Ru.go 1 (c' := (220, [.ref 118, .int y, .int r, .int s, .int v325, .int v326, .int v327, .int v443, .int 2], [.ref 118], (h.1, I465, J461, h.2.2.2))) rfl ?_
                              refine hk_inv (o := 118) (r := []) (as := [.ref 118]) rfl rfl (hH.1 118 (17, 105) rfl) rfl rfl rfl rfl (hs_maybe (h := (h.1, I465, J461, h.2.2.2)) h6 hH hB_I465 (v_R_ru hV_I465)  (by omega) (fun v469 I467 J468 c_v469 hB_I467 e_I467 => ?_))
                              have hV_I467 : v_R I467 := v_R_cg hV_I465 e_I467 rfl
                              have b_v469 : (0 : Int) ≤ v469.toInt ∧ v469.toInt ≤ 1 := c_v469
                              refine qm_Ru.go 0 (c' := (223, [.ref 118, .int y, .int r, .int s, .int v325, .int v326, .int v327, .int v443, .int 2], [.int v469], (h.1, I467, J468, h.2.2.2))) rfl ?_
                              refine hk_zne (ix := v469.toInt) rfl rfl (fun z470 => ?_) (fun z470 => ?_)
                              · refine qm_Ru.go 2 (c' := (253, [.ref 118, .int y, .int r, .int s, .int v325, .int v326, .int v327, .int v443, .int 2], [.int (-1), .int s], (h.1, I467, J468, h.2.2.2))) rfl ?_
                                refine hk_ceq (ix := s.toInt) (iy := (-1)) rfl rfl rfl (fun z471 => by exfalso; omega) (fun z471 => ?_)
                                refine qm_Ru.go 2 (c' := (259, [.ref 118, .int y, .int r, .int s, .int v325, .int v326, .int v327, .int v443, .int 2], [.int (-1), .int v443], (h.1, I467, J468, h.2.2.2))) rfl ?_
                                refine hk_ceq (ix := v443.toInt) (iy := (-1)) rfl rfl rfl (fun z472 => by exfalso; omega) (fun z472 => ?_)
                                refine qm_Ru.go 3 (c' := (266, [.ref 118, .int y, .int r, .int s, .int v325, .int v326, .int v327, .int v443, .int 2], [.int s, .int v443, .ref 118], (h.1, I467, J468, h.2.2.2))) rfl ?_
                                refine hk_inv (o := 118) (r := []) (as := [.ref 118, .int v443, .int s]) rfl rfl (hH.1 118 (17, 105) rfl) rfl rfl rfl rfl (rp_puts (h := (h.1, I467, J468, h.2.2.2)) hH hB_I467 hV_I467 (b := v443) (s := s) (hv := v446.toInt) (by omega) (by omega) (show pI (I467) 150 (v443.toInt.toNat) = 0 from (congrArg Int32.toInt (show (I467) 150 (v443.toInt.toNat) = _ from ((e_I467 150 rfl (v443.toInt.toNat)).trans q_v466))).trans (by omega)) (congrArg Int32.toInt (show (I467) 154 (s.toInt.toNat) = _ from ((e_I467 154 rfl (s.toInt.toNat)).trans ((e_I465 154 rfl (s.toInt.toNat)).trans ((e_I462 154 rfl (s.toInt.toNat)).trans ((e_I460 154 rfl (s.toInt.toNat)).trans q_v446)))))) (by omega) (by omega) (show ((v443.toInt.toNat : Nat) : Int) < ((I467) 118 44).toInt from by rw [(show (I467) 118 44 = _ from ((e_I467 118 rfl 44).trans ((e_I465 118 rfl 44).trans ((e_I462 118 rfl 44).trans ((e_I460 118 rfl 44).trans q_v455)))))]; omega) (fun I473 hB_I473 hV_I473 e_I473 p0_I473 pn_I473 pm_I473 p4_I473 => ?_))
                                obtain ⟨v474, q_v474⟩ : ∃ v, I473 150 (v443.toInt.toNat) = v := ⟨_, rfl⟩
                                have f_v474 : v474.toInt = 2 := by rw [← q_v474]; exact p0_I473
                                obtain ⟨v475, q_v475⟩ : ∃ v, I473 154 (s.toInt.toNat) = v := ⟨_, rfl⟩
                                have f_v475 : v475.toInt = v446.toInt + 1 := by rw [← q_v475]; exact p4_I473
                                refine qm_Ru.go 3 (c' := (273, [.ref 118, .int y, .int r, .int s, .int v325, .int v326, .int v327, .int v443, .int 2], [.int s, .int v327, .ref 118], (h.1, I473, J468, h.2.2.2))) rfl ?_
                                refine hk_inv (o := 118) (r := []) (as := [.ref 118, .int v327, .int s]) rfl rfl (hH.1 118 (17, 105) rfl) rfl rfl rfl rfl (rp_puts (h := (h.1, I473, J468, h.2.2.2)) hH hB_I473 hV_I473 (b := v327) (s := s) (hv := v475.toInt) (by omega) (by omega) (show pI (I473) 150 (v327.toInt.toNat) = 0 from (congrArg Int32.toInt (show (I473) 150 (v327.toInt.toNat) = _ from ((pn_I473 (v327.toInt.toNat) (by omega)).trans ((e_I467 150 rfl (v327.toInt.toNat)).trans ((pn_I465 (v327.toInt.toNat) (by omega)).trans q_v463))))).trans (by omega)) (congrArg Int32.toInt q_v475) (by omega) (by omega) (show ((v327.toInt.toNat : Nat) : Int) < ((I473) 118 44).toInt from by rw [(show (I473) 118 44 = _ from ((e_I473 118 rfl 44).trans ((e_I467 118 rfl 44).trans ((e_I465 118 rfl 44).trans ((e_I462 118 rfl 44).trans ((e_I460 118 rfl 44).trans q_v455))))))]; omega) (fun I476 hB_I476 hV_I476 e_I476 p0_I476 pn_I476 pm_I476 p4_I476 => ?_))
                                obtain ⟨v477, q_v477⟩ : ∃ v, I476 150 (v327.toInt.toNat) = v := ⟨_, rfl⟩
                                have f_v477 : v477.toInt = 2 := by rw [← q_v477]; exact p0_I476
                                obtain ⟨v478, q_v478⟩ : ∃ v, I476 154 (s.toInt.toNat) = v := ⟨_, rfl⟩
                                have f_v478 : v478.toInt = v475.toInt + 1 := by rw [← q_v478]; exact p4_I476
                                refine qm_Ru.go 1 (c' := (278, [.ref 118, .int y, .int r, .int s, .int v325, .int v326, .int v327, .int v443, .int 2], [.int 2], (h.1, I476, J468, h.2.2.2))) rfl ?_
                                refine qm_Ru.rt (v := (some (.int 2))) (h' := (h.1, I476, J468, h.2.2.2)) rfl ?_
                                exact k (some (.int 2)) (I476) (J468) ⟨_, rfl, ⟨by decide, by decide⟩⟩ hB_I476 hV_I476 (fun o ho i => ((e_I476 o (hk_ms rfl ho) i).trans ((e_I473 o (hk_ms rfl ho) i).trans ((e_I467 o (hk_ms rfl ho) i).trans ((e_I465 o (hk_ms rfl ho) i).trans ((e_I462 o (hk_ms rfl ho) i).trans ((e_I460 o (hk_ms rfl ho) i).trans rfl)))))))
                              · refine qm_Ru.go 3 (c' := (231, [.ref 118, .int y, .int r, .int s, .int v325, .int v326, .int v327, .int v443, .int 2], [.int v326, .int v327, .ref 118], (h.1, I467, J468, h.2.2.2))) rfl ?_
                                refine hk_inv (o := 118) (r := []) (as := [.ref 118, .int v327, .int v326]) rfl rfl (hH.1 118 (17, 105) rfl) rfl rfl rfl rfl (rb_boards (h := (h.1, I467, J468, h.2.2.2)) hH hB_I467 hV_I467 (b := v327) (k0 := v326) (by omega) (by omega) (show pI (I467) 150 (v327.toInt.toNat) = 0 from (congrArg Int32.toInt (show (I467) 150 (v327.toInt.toNat) = _ from ((e_I467 150 rfl (v327.toInt.toNat)).trans ((pn_I465 (v327.toInt.toNat) (by omega)).trans q_v463)))).trans (by omega)) (show ((v327.toInt.toNat : Nat) : Int) < ((I467) 118 44).toInt from by rw [(show (I467) 118 44 = _ from ((e_I467 118 rfl 44).trans ((e_I465 118 rfl 44).trans ((e_I462 118 rfl 44).trans ((e_I460 118 rfl 44).trans q_v455)))))]; omega) (fun I479 hB_I479 hV_I479 e_I479 p0_I479 pn_I479 p1_I479 pm_I479 => ?_))
                                obtain ⟨v480, q_v480⟩ : ∃ v, I479 150 (v327.toInt.toNat) = v := ⟨_, rfl⟩
                                have f_v480 : v480.toInt = 1 := by rw [← q_v480]; exact p0_I479
                                obtain ⟨v481, q_v481⟩ : ∃ v, I479 151 (v327.toInt.toNat) = v := ⟨_, rfl⟩
                                have f_v481 : v481.toInt = v326.toInt := by rw [← q_v481]; exact (congrArg Int32.toInt p1_I479)
                                refine qm_Ru.go 2 (c' := (237, [.ref 118, .int y, .int r, .int s, .int v325, .int v326, .int v327, .int v443, .int 2], [.int (-1), .int v443], (h.1, I479, J468, h.2.2.2))) rfl ?_
                                refine hk_ceq (ix := v443.toInt) (iy := (-1)) rfl rfl rfl (fun z482 => by exfalso; omega) (fun z482 => ?_)
                                refine qm_Ru.go 3 (c' := (245, [.ref 118, .int y, .int r, .int s, .int v325, .int v326, .int v327, .int v443, .int 2], [.int v325, .int v443, .ref 118], (h.1, I479, J468, h.2.2.2))) rfl ?_
                                refine hk_inv (o := 118) (r := []) (as := [.ref 118, .int v443, .int v325]) rfl rfl (hH.1 118 (17, 105) rfl) rfl rfl rfl rfl (rb_boards (h := (h.1, I479, J468, h.2.2.2)) hH hB_I479 hV_I479 (b := v443) (k0 := v325) (by omega) (by omega) (show pI (I479) 150 (v443.toInt.toNat) = 0 from (congrArg Int32.toInt (show (I479) 150 (v443.toInt.toNat) = _ from ((pn_I479 (v443.toInt.toNat) (by omega)).trans ((e_I467 150 rfl (v443.toInt.toNat)).trans q_v466)))).trans (by omega)) (show ((v443.toInt.toNat : Nat) : Int) < ((I479) 118 44).toInt from by rw [(show (I479) 118 44 = _ from ((e_I479 118 rfl 44).trans ((e_I467 118 rfl 44).trans ((e_I465 118 rfl 44).trans ((e_I462 118 rfl 44).trans ((e_I460 118 rfl 44).trans q_v455))))))]; omega) (fun I483 hB_I483 hV_I483 e_I483 p0_I483 pn_I483 p1_I483 pm_I483 => ?_))
                                obtain ⟨v484, q_v484⟩ : ∃ v, I483 150 (v443.toInt.toNat) = v := ⟨_, rfl⟩
                                have f_v484 : v484.toInt = 1 := by rw [← q_v484]; exact p0_I483
                                obtain ⟨v485, q_v485⟩ : ∃ v, I483 151 (v443.toInt.toNat) = v := ⟨_, rfl⟩
                                have f_v485 : v485.toInt = v325.toInt := by rw [← q_v485]; exact (congrArg Int32.toInt p1_I483)
                                refine qm_Ru.go 1 (c' := (250, [.ref 118, .int y, .int r, .int s, .int v325, .int v326, .int v327, .int v443, .int 2], [.int (-3)], (h.1, I483, J468, h.2.2.2))) rfl ?_
                                refine qm_Ru.rt (v := (some (.int (-3)))) (h' := (h.1, I483, J468, h.2.2.2)) rfl ?_
                                exact k (some (.int (-3))) (I483) (J468) ⟨_, rfl, ⟨by decide, by decide⟩⟩ hB_I483 hV_I483 (fun o ho i => ((e_I483 o (hk_ms rfl ho) i).trans ((e_I479 o (hk_ms rfl ho) i).trans ((e_I467 o (hk_ms rfl ho) i).trans ((e_I465 o (hk_ms rfl ho) i).trans ((e_I462 o (hk_ms rfl ho) i).trans ((e_I460 o (hk_ms rfl ho) i).trans rfl)))))))
                            · refine qm_Ru.go 1 (c' := (196, [.ref 118, .int y, .int r, .int s, .int v325, .int v326, .int v327, .int v443, .int 2], [.int (-2)], h)) rfl ?_
                              refine qm_Ru.rt (v := (some (.int (-2)))) (h' := h) rfl ?_
                              exact k (some (.int (-2))) (h.2.1) (h.2.2.1) ⟨_, rfl, ⟨by decide, by decide⟩⟩ hB hV (fun o ho i => rfl)
                          · refine qm_Ru.go 1 (c' := (156, [.ref 118, .int y, .int r, .int s, .int v325, .int v326, .int v327, .int v443, .int 2], [.int (-1)], h)) rfl ?_
                            refine qm_Ru.rt (v := (some (.int (-1)))) (h' := h) rfl ?_
                            exact k (some (.int (-1))) (h.2.1) (h.2.2.1) ⟨_, rfl, ⟨by decide, by decide⟩⟩ hB hV (fun o ho i => rfl)
                        · refine qm_Ru.go 5 (c' := (139, [.ref 118, .int y, .int r, .int s, .int v325, .int v326, .int v327, .int v443, .int 1], [.int (-1), .int s], h)) rfl ?_
                          refine hk_ceq (ix := s.toInt) (iy := (-1)) rfl rfl rfl (fun z486 => by exfalso; omega) (fun z486 => ?_)
                          refine qm_Ru.go 1 (c' := (143, [.ref 118, .int y, .int r, .int s, .int v325, .int v326, .int v327, .int v443, .int 1], [.ref 118], h)) rfl ?_
                          refine hk_getr rfl (hH.1 118 (17, 105) rfl) rfl (hH.2 118 53 (some 154) rfl) ?_
                          refine qm_Ru.go 1 (c' := (147, [.ref 118, .int y, .int r, .int s, .int v325, .int v326, .int v327, .int v443, .int 1], [.int s, .ref 154], h)) rfl ?_
                          obtain ⟨v487, q_v487⟩ : ∃ v, h.2.1 154 (s.toInt.toNat) = v := ⟨_, rfl⟩
                          have b_v487 : (0 : Int) ≤ v487.toInt ∧ v487.toInt ≤ 4 := by rw [← q_v487]; exact hB 154 (s.toInt.toNat)
                          refine hk_ial (v := v487) rfl (hH.1 154 (0, 4) rfl) (by omega) (by omega) q_v487 ?_
                          refine qm_Ru.go 2 (c' := (151, [.ref 118, .int y, .int r, .int s, .int v325, .int v326, .int v327, .int v443, .int 1], [.int (v487 + 1)], h)) rfl ?_
                          obtain ⟨v488, q_v488, e_v488⟩ := hk_add (x := v487) (y := 1) (a := v487.toInt) (b := 1) rfl rfl (by omega) (by omega)
                          rw [q_v488]
                          refine qm_Ru.go 1 (c' := (152, [.ref 118, .int y, .int r, .int s, .int v325, .int v326, .int v327, .int v443, .int 1], [.int 4, .int v488], h)) rfl ?_
                          refine hk_cle (ix := v488.toInt) (iy := 4) rfl rfl rfl (fun z489 => ?_) (fun z489 => ?_)
                          · refine qm_Ru.go 1 (c' := (158, [.ref 118, .int y, .int r, .int s, .int v325, .int v326, .int v327, .int v443, .int 1], [.ref 118], h)) rfl ?_
                            refine hk_getr rfl (hH.1 118 (17, 105) rfl) rfl (hH.2 118 45 (some 146) rfl) ?_
                            refine qm_Ru.go 1 (c' := (163, [.ref 118, .int y, .int r, .int s, .int v325, .int v326, .int v327, .int v443, .int 1], [.int v327, .ref 146], h)) rfl ?_
                            obtain ⟨v490, q_v490⟩ : ∃ v, h.2.1 146 (v327.toInt.toNat) = v := ⟨_, rfl⟩
                            have b_v490 : (0 : Int) ≤ v490.toInt ∧ v490.toInt ≤ 40 := by rw [← q_v490]; exact hB 146 (v327.toInt.toNat)
                            refine hk_ial (v := v490) rfl (hH.1 146 (0, 30) rfl) (by omega) (by omega) q_v490 ?_
                            refine qm_Ru.go 2 (c' := (167, [.ref 118, .int y, .int r, .int s, .int v325, .int v326, .int v327, .int v443, .int 1], [.int (-1), .int v443, .int v490], h)) rfl ?_
                            refine hk_cne (ix := v443.toInt) (iy := (-1)) rfl rfl rfl (fun z491 => by exfalso; omega) (fun z491 => ?_)
                            refine qm_Ru.go 3 (c' := (182, [.ref 118, .int y, .int r, .int s, .int v325, .int v326, .int v327, .int v443, .int 1], [.int (v490 + 0)], h)) rfl ?_
                            obtain ⟨v492, q_v492, e_v492⟩ := hk_add (x := v490) (y := 0) (a := v490.toInt) (b := 0) rfl rfl (by omega) (by omega)
                            rw [q_v492]
                            refine qm_Ru.go 1 (c' := (183, [.ref 118, .int y, .int r, .int s, .int v325, .int v326, .int v327, .int v443, .int 1], [.ref 118, .int v492], h)) rfl ?_
                            refine hk_getr rfl (hH.1 118 (17, 105) rfl) rfl (hH.2 118 24 (some 129) rfl) ?_
                            refine qm_Ru.go 1 (c' := (187, [.ref 118, .int y, .int r, .int s, .int v325, .int v326, .int v327, .int v443, .int 1], [.ref 118, .ref 129, .int v492], h)) rfl ?_
                            refine hk_geti (v := v1) rfl (hH.1 118 (17, 105) rfl) rfl q_v1 ?_
                            refine qm_Ru.go 0 (c' := (190, [.ref 118, .int y, .int r, .int s, .int v325, .int v326, .int v327, .int v443, .int 1], [.int v1, .ref 129, .int v492], h)) rfl ?_
                            obtain ⟨v493, q_v493⟩ : ∃ v, h.2.1 129 (v1.toInt.toNat) = v := ⟨_, rfl⟩
                            refine hk_ial (v := v493) rfl (hH.1 129 (0, 2) rfl) (by omega) (by omega) q_v493 ?_
                            refine qm_Ru.go 0 (c' := (191, [.ref 118, .int y, .int r, .int s, .int v325, .int v326, .int v327, .int v443, .int 1], [.int v493, .int v492], h)) rfl ?_
                            refine hk_cle (ix := v492.toInt) (iy := v493.toInt) rfl rfl rfl (fun z494 => ?_) (fun z494 => ?_)
                            · refine qm_Ru.go 0 (c' := (197, [.ref 118, .int y, .int r, .int s, .int v325, .int v326, .int v327, .int v443, .int 1], [], h)) rfl ?_
                              have a_v327 := ra_of hV.1 (by omega) q_v327 (by omega)
                              obtain ⟨v495, q_v495⟩ : ∃ v, h.2.1 118 44 = v := ⟨_, rfl⟩
                              have b_v495 : (0 : Int) ≤ v495.toInt ∧ v495.toInt ≤ 30 := by rw [← q_v495]; exact hB 118 44
                              have l_v327 : ((v327.toInt.toNat : Nat) : Int) < v495.toInt := by rw [← q_v495]; exact hV.1.2.2.2 (v327.toInt.toNat) (by show (h.2.1 150 (v327.toInt.toNat)).toInt ≠ 0; omega)
                              obtain ⟨v496, q_v496⟩ : ∃ v, h.2.1 150 (v327.toInt.toNat) = v := ⟨_, rfl⟩
                              have b_v496 : (0 : Int) ≤ v496.toInt ∧ v496.toInt ≤ 2 := by rw [← q_v496]; exact hB 150 (v327.toInt.toNat)
                              obtain ⟨v497, q_v497⟩ : ∃ v, h.2.1 151 (v327.toInt.toNat) = v := ⟨_, rfl⟩
                              have b_v497 : (0 : Int) ≤ v497.toInt ∧ v497.toInt ≤ 79 := by rw [← q_v497]; exact hB 151 (v327.toInt.toNat)
                              rw [q_v496, q_v497] at a_v327
                              refine qm_Ru.go 1 (c' := (198, [.ref 118, .int y, .int r, .int s, .int v325, .int v326, .int v327, .int v443, .int 1], [.ref 118], h)) rfl ?_
                              refine hk_inv (o := 118) (r := []) (as := [.ref 118]) rfl rfl (hH.1 118 (17, 105) rfl) rfl rfl rfl rfl (hs_looks (h := h) h6 hH hB (v_R_ru hV)  (by omega) (fun I498 J499 hB_I498 e_I498 => ?_))
                              have hV_I498 : v_R I498 := v_R_cg hV e_I498 rfl
                              refine qm_Ru.go 2 (c' := (204, [.ref 118, .int y, .int r, .int s, .int v325, .int v326, .int v327, .int v443, .int 1], [.int v327, .ref 118], (h.1, I498, J499, h.2.2.2))) rfl ?_
                              refine hk_inv (o := 118) (r := []) (as := [.ref 118, .int v327]) rfl rfl (hH.1 118 (17, 105) rfl) rfl rfl rfl rfl (rl_away (h := (h.1, I498, J499, h.2.2.2)) hH hB_I498 hV_I498 (b := v327) (by omega) (show pI (I498) 150 (v327.toInt.toNat) = 1 from (congrArg Int32.toInt (show (I498) 150 (v327.toInt.toNat) = _ from ((e_I498 150 rfl (v327.toInt.toNat)).trans q_v496))).trans (by omega)) (fun I500 hB_I500 hV_I500 e_I500 p0_I500 pn_I500 => ?_))
                              obtain ⟨v501, q_v501⟩ : ∃ v, I500 150 (v327.toInt.toNat) = v := ⟨_, rfl⟩
                              have f_v501 : v501.toInt = 0 := by rw [← q_v501]; exact p0_I500
                              refine qm_Ru.go 2 (c' := (210, [.ref 118, .int y, .int r, .int s, .int v325, .int v326, .int v327, .int v443, .int 1], [.int (-1), .int v443], (h.1, I500, J499, h.2.2.2))) rfl ?_
                              refine hk_ceq (ix := v443.toInt) (iy := (-1)) rfl rfl rfl (fun z502 => ?_) (fun z502 => by exfalso; omega)
                              refine qm_Ru.go 1 (c' := (220, [.ref 118, .int y, .int r, .int s, .int v325, .int v326, .int v327, .int v443, .int 1], [.ref 118], (h.1, I500, J499, h.2.2.2))) rfl ?_
                              refine hk_inv (o := 118) (r := []) (as := [.ref 118]) rfl rfl (hH.1 118 (17, 105) rfl) rfl rfl rfl rfl (hs_maybe (h := (h.1, I500, J499, h.2.2.2)) h6 hH hB_I500 (v_R_ru hV_I500)  (by omega) (fun v505 I503 J504 c_v505 hB_I503 e_I503 => ?_))
                              have hV_I503 : v_R I503 := v_R_cg hV_I500 e_I503 rfl
                              have b_v505 : (0 : Int) ≤ v505.toInt ∧ v505.toInt ≤ 1 := c_v505
                              refine qm_Ru.go 0 (c' := (223, [.ref 118, .int y, .int r, .int s, .int v325, .int v326, .int v327, .int v443, .int 1], [.int v505], (h.1, I503, J504, h.2.2.2))) rfl ?_
                              refine hk_zne (ix := v505.toInt) rfl rfl (fun z506 => ?_) (fun z506 => ?_)
                              · refine qm_Ru.go 2 (c' := (253, [.ref 118, .int y, .int r, .int s, .int v325, .int v326, .int v327, .int v443, .int 1], [.int (-1), .int s], (h.1, I503, J504, h.2.2.2))) rfl ?_
                                refine hk_ceq (ix := s.toInt) (iy := (-1)) rfl rfl rfl (fun z507 => by exfalso; omega) (fun z507 => ?_)
                                refine qm_Ru.go 2 (c' := (259, [.ref 118, .int y, .int r, .int s, .int v325, .int v326, .int v327, .int v443, .int 1], [.int (-1), .int v443], (h.1, I503, J504, h.2.2.2))) rfl ?_
                                refine hk_ceq (ix := v443.toInt) (iy := (-1)) rfl rfl rfl (fun z508 => ?_) (fun z508 => by exfalso; omega)
                                refine qm_Ru.go 3 (c' := (273, [.ref 118, .int y, .int r, .int s, .int v325, .int v326, .int v327, .int v443, .int 1], [.int s, .int v327, .ref 118], (h.1, I503, J504, h.2.2.2))) rfl ?_
                                refine hk_inv (o := 118) (r := []) (as := [.ref 118, .int v327, .int s]) rfl rfl (hH.1 118 (17, 105) rfl) rfl rfl rfl rfl (rp_puts (h := (h.1, I503, J504, h.2.2.2)) hH hB_I503 hV_I503 (b := v327) (s := s) (hv := v487.toInt) (by omega) (by omega) (show pI (I503) 150 (v327.toInt.toNat) = 0 from (congrArg Int32.toInt (show (I503) 150 (v327.toInt.toNat) = _ from ((e_I503 150 rfl (v327.toInt.toNat)).trans q_v501))).trans (by omega)) (congrArg Int32.toInt (show (I503) 154 (s.toInt.toNat) = _ from ((e_I503 154 rfl (s.toInt.toNat)).trans ((e_I500 154 rfl (s.toInt.toNat)).trans ((e_I498 154 rfl (s.toInt.toNat)).trans q_v487))))) (by omega) (by omega) (show ((v327.toInt.toNat : Nat) : Int) < ((I503) 118 44).toInt from by rw [(show (I503) 118 44 = _ from ((e_I503 118 rfl 44).trans ((e_I500 118 rfl 44).trans ((e_I498 118 rfl 44).trans q_v495))))]; omega) (fun I509 hB_I509 hV_I509 e_I509 p0_I509 pn_I509 pm_I509 p4_I509 => ?_))
                                obtain ⟨v510, q_v510⟩ : ∃ v, I509 150 (v327.toInt.toNat) = v := ⟨_, rfl⟩
                                have f_v510 : v510.toInt = 2 := by rw [← q_v510]; exact p0_I509
                                obtain ⟨v511, q_v511⟩ : ∃ v, I509 154 (s.toInt.toNat) = v := ⟨_, rfl⟩
                                have f_v511 : v511.toInt = v487.toInt + 1 := by rw [← q_v511]; exact p4_I509
                                refine qm_Ru.go 1 (c' := (278, [.ref 118, .int y, .int r, .int s, .int v325, .int v326, .int v327, .int v443, .int 1], [.int 1], (h.1, I509, J504, h.2.2.2))) rfl ?_
                                refine qm_Ru.rt (v := (some (.int 1))) (h' := (h.1, I509, J504, h.2.2.2)) rfl ?_
                                exact k (some (.int 1)) (I509) (J504) ⟨_, rfl, ⟨by decide, by decide⟩⟩ hB_I509 hV_I509 (fun o ho i => ((e_I509 o (hk_ms rfl ho) i).trans ((e_I503 o (hk_ms rfl ho) i).trans ((e_I500 o (hk_ms rfl ho) i).trans ((e_I498 o (hk_ms rfl ho) i).trans rfl)))))
                              · refine qm_Ru.go 3 (c' := (231, [.ref 118, .int y, .int r, .int s, .int v325, .int v326, .int v327, .int v443, .int 1], [.int v326, .int v327, .ref 118], (h.1, I503, J504, h.2.2.2))) rfl ?_
                                refine hk_inv (o := 118) (r := []) (as := [.ref 118, .int v327, .int v326]) rfl rfl (hH.1 118 (17, 105) rfl) rfl rfl rfl rfl (rb_boards (h := (h.1, I503, J504, h.2.2.2)) hH hB_I503 hV_I503 (b := v327) (k0 := v326) (by omega) (by omega) (show pI (I503) 150 (v327.toInt.toNat) = 0 from (congrArg Int32.toInt (show (I503) 150 (v327.toInt.toNat) = _ from ((e_I503 150 rfl (v327.toInt.toNat)).trans q_v501))).trans (by omega)) (show ((v327.toInt.toNat : Nat) : Int) < ((I503) 118 44).toInt from by rw [(show (I503) 118 44 = _ from ((e_I503 118 rfl 44).trans ((e_I500 118 rfl 44).trans ((e_I498 118 rfl 44).trans q_v495))))]; omega) (fun I512 hB_I512 hV_I512 e_I512 p0_I512 pn_I512 p1_I512 pm_I512 => ?_))
                                obtain ⟨v513, q_v513⟩ : ∃ v, I512 150 (v327.toInt.toNat) = v := ⟨_, rfl⟩
                                have f_v513 : v513.toInt = 1 := by rw [← q_v513]; exact p0_I512
                                obtain ⟨v514, q_v514⟩ : ∃ v, I512 151 (v327.toInt.toNat) = v := ⟨_, rfl⟩
                                have f_v514 : v514.toInt = v326.toInt := by rw [← q_v514]; exact (congrArg Int32.toInt p1_I512)
                                refine qm_Ru.go 2 (c' := (237, [.ref 118, .int y, .int r, .int s, .int v325, .int v326, .int v327, .int v443, .int 1], [.int (-1), .int v443], (h.1, I512, J504, h.2.2.2))) rfl ?_
                                refine hk_ceq (ix := v443.toInt) (iy := (-1)) rfl rfl rfl (fun z515 => ?_) (fun z515 => by exfalso; omega)
                                refine qm_Ru.go 1 (c' := (250, [.ref 118, .int y, .int r, .int s, .int v325, .int v326, .int v327, .int v443, .int 1], [.int (-3)], (h.1, I512, J504, h.2.2.2))) rfl ?_
                                refine qm_Ru.rt (v := (some (.int (-3)))) (h' := (h.1, I512, J504, h.2.2.2)) rfl ?_
                                exact k (some (.int (-3))) (I512) (J504) ⟨_, rfl, ⟨by decide, by decide⟩⟩ hB_I512 hV_I512 (fun o ho i => ((e_I512 o (hk_ms rfl ho) i).trans ((e_I503 o (hk_ms rfl ho) i).trans ((e_I500 o (hk_ms rfl ho) i).trans ((e_I498 o (hk_ms rfl ho) i).trans rfl)))))
                            · refine qm_Ru.go 1 (c' := (196, [.ref 118, .int y, .int r, .int s, .int v325, .int v326, .int v327, .int v443, .int 1], [.int (-2)], h)) rfl ?_
                              refine qm_Ru.rt (v := (some (.int (-2)))) (h' := h) rfl ?_
                              exact k (some (.int (-2))) (h.2.1) (h.2.2.1) ⟨_, rfl, ⟨by decide, by decide⟩⟩ hB hV (fun o ho i => rfl)
                          · refine qm_Ru.go 1 (c' := (156, [.ref 118, .int y, .int r, .int s, .int v325, .int v326, .int v327, .int v443, .int 1], [.int (-1)], h)) rfl ?_
                            refine qm_Ru.rt (v := (some (.int (-1)))) (h' := h) rfl ?_
                            exact k (some (.int (-1))) (h.2.1) (h.2.2.1) ⟨_, rfl, ⟨by decide, by decide⟩⟩ hB hV (fun o ho i => rfl)
                · refine qm_Ru.go 2 (c' := (17, [.ref 118, .int y], [.int 1], h)) rfl ?_
                  refine qm_Ru.rt (v := (some (.int 1))) (h' := h) rfl ?_
                  refine qm_Ru.go 4 (c' := (51, [.ref 118, .int y, .int r, .int s, .float 0, .float 0, .float 0, .float 0, .float 0], [.int (v320 + 2)], h)) rfl ?_
                  obtain ⟨v516, q_v516, e_v516⟩ := hk_add (x := v320) (y := 2) (a := v320.toInt) (b := 2) rfl rfl (by omega) (by omega)
                  rw [q_v516]
                  refine qm_Ru.go 2 (c' := (54, [.ref 118, .int y, .int r, .int s, .int v516, .float 0, .float 0, .float 0, .float 0], [.ref 118], h)) rfl ?_
                  refine hk_getr rfl (hH.1 118 (17, 105) rfl) rfl (hH.2 118 51 (some 152) rfl) ?_
                  refine qm_Ru.go 3 (c' := (61, [.ref 118, .int y, .int r, .int s, .int v516, .float 0, .float 0, .float 0, .float 0], [.int (v516 + 1), .ref 152], h)) rfl ?_
                  obtain ⟨v517, q_v517, e_v517⟩ := hk_add (x := v516) (y := 1) (a := v516.toInt) (b := 1) rfl rfl (by omega) (by omega)
                  rw [q_v517]
                  obtain ⟨v518, q_v518⟩ : ∃ v, h.2.1 152 (v517.toInt.toNat) = v := ⟨_, rfl⟩
                  have b_v518 : (-1 : Int) ≤ v518.toInt ∧ v518.toInt ≤ 29 := by rw [← q_v518]; exact hB 152 (v517.toInt.toNat)
                  refine hk_ial (v := v518) rfl (hH.1 152 (0, 80) rfl) (by omega) (by omega) q_v518 ?_
                  refine qm_Ru.go 1 (c' := (63, [.ref 118, .int y, .int r, .int s, .int v516, .float 0, .float 0, .float 0, .float 0], [.int (-1), .int v518], h)) rfl ?_
                  refine hk_ceq (ix := v518.toInt) (iy := (-1)) rfl rfl rfl (fun z519 => ?_) (fun z519 => ?_)
                  · refine qm_Ru.go 3 (c' := (78, [.ref 118, .int y, .int r, .int s, .int v516, .int v516, .float 0, .float 0, .float 0], [.ref 118], h)) rfl ?_
                    refine hk_getr rfl (hH.1 118 (17, 105) rfl) rfl (hH.2 118 51 (some 152) rfl) ?_
                    refine qm_Ru.go 1 (c' := (83, [.ref 118, .int y, .int r, .int s, .int v516, .int v516, .float 0, .float 0, .float 0], [.int v516, .ref 152], h)) rfl ?_
                    obtain ⟨v520, q_v520⟩ : ∃ v, h.2.1 152 (v516.toInt.toNat) = v := ⟨_, rfl⟩
                    have b_v520 : (-1 : Int) ≤ v520.toInt ∧ v520.toInt ≤ 29 := by rw [← q_v520]; exact hB 152 (v516.toInt.toNat)
                    refine hk_ial (v := v520) rfl (hH.1 152 (0, 80) rfl) (by omega) (by omega) q_v520 ?_
                    refine qm_Ru.go 3 (c' := (89, [.ref 118, .int y, .int r, .int s, .int v516, .int v516, .int v520, .float 0, .float 0], [.int (-1), .int v520], h)) rfl ?_
                    refine hk_cne (ix := v520.toInt) (iy := (-1)) rfl rfl rfl (fun z521 => ?_) (fun z521 => ?_)
                    · refine qm_Ru.go 1 (c' := (95, [.ref 118, .int y, .int r, .int s, .int v516, .int v516, .int v520, .float 0, .float 0], [.ref 118], h)) rfl ?_
                      refine hk_getr rfl (hH.1 118 (17, 105) rfl) rfl (hH.2 118 48 (some 149) rfl) ?_
                      refine qm_Ru.go 1 (c' := (100, [.ref 118, .int y, .int r, .int s, .int v516, .int v516, .int v520, .float 0, .float 0], [.int v520, .ref 149], h)) rfl ?_
                      obtain ⟨v522, q_v522⟩ : ∃ v, h.2.1 149 (v520.toInt.toNat) = v := ⟨_, rfl⟩
                      have b_v522 : (0 : Int) ≤ v522.toInt ∧ v522.toInt ≤ 1 := by rw [← q_v522]; exact hB 149 (v520.toInt.toNat)
                      refine hk_bal (v := v522) rfl (hH.1 149 (2, 30) rfl) (by decide) (by omega) (by omega) q_v522 ?_
                      refine qm_Ru.go 0 (c' := (101, [.ref 118, .int y, .int r, .int s, .int v516, .int v516, .int v520, .float 0, .float 0], [.int v522], h)) rfl ?_
                      refine hk_zeq (ix := v522.toInt) rfl rfl (fun z523 => ?_) (fun z523 => ?_)
                      · refine qm_Ru.go 10 (c' := (139, [.ref 118, .int y, .int r, .int s, .int v516, .int v516, .int v520, .int (-1), .int 1], [.int (-1), .int s], h)) rfl ?_
                        refine hk_ceq (ix := s.toInt) (iy := (-1)) rfl rfl rfl (fun z524 => by exfalso; omega) (fun z524 => ?_)
                        refine qm_Ru.go 1 (c' := (143, [.ref 118, .int y, .int r, .int s, .int v516, .int v516, .int v520, .int (-1), .int 1], [.ref 118], h)) rfl ?_
                        refine hk_getr rfl (hH.1 118 (17, 105) rfl) rfl (hH.2 118 53 (some 154) rfl) ?_
                        refine qm_Ru.go 1 (c' := (147, [.ref 118, .int y, .int r, .int s, .int v516, .int v516, .int v520, .int (-1), .int 1], [.int s, .ref 154], h)) rfl ?_
                        obtain ⟨v525, q_v525⟩ : ∃ v, h.2.1 154 (s.toInt.toNat) = v := ⟨_, rfl⟩
                        have b_v525 : (0 : Int) ≤ v525.toInt ∧ v525.toInt ≤ 4 := by rw [← q_v525]; exact hB 154 (s.toInt.toNat)
                        refine hk_ial (v := v525) rfl (hH.1 154 (0, 4) rfl) (by omega) (by omega) q_v525 ?_
                        refine qm_Ru.go 2 (c' := (151, [.ref 118, .int y, .int r, .int s, .int v516, .int v516, .int v520, .int (-1), .int 1], [.int (v525 + 1)], h)) rfl ?_
                        obtain ⟨v526, q_v526, e_v526⟩ := hk_add (x := v525) (y := 1) (a := v525.toInt) (b := 1) rfl rfl (by omega) (by omega)
                        rw [q_v526]
                        refine qm_Ru.go 1 (c' := (152, [.ref 118, .int y, .int r, .int s, .int v516, .int v516, .int v520, .int (-1), .int 1], [.int 4, .int v526], h)) rfl ?_
                        refine hk_cle (ix := v526.toInt) (iy := 4) rfl rfl rfl (fun z527 => ?_) (fun z527 => ?_)
                        · refine qm_Ru.go 1 (c' := (158, [.ref 118, .int y, .int r, .int s, .int v516, .int v516, .int v520, .int (-1), .int 1], [.ref 118], h)) rfl ?_
                          refine hk_getr rfl (hH.1 118 (17, 105) rfl) rfl (hH.2 118 45 (some 146) rfl) ?_
                          refine qm_Ru.go 1 (c' := (163, [.ref 118, .int y, .int r, .int s, .int v516, .int v516, .int v520, .int (-1), .int 1], [.int v520, .ref 146], h)) rfl ?_
                          obtain ⟨v528, q_v528⟩ : ∃ v, h.2.1 146 (v520.toInt.toNat) = v := ⟨_, rfl⟩
                          have b_v528 : (0 : Int) ≤ v528.toInt ∧ v528.toInt ≤ 40 := by rw [← q_v528]; exact hB 146 (v520.toInt.toNat)
                          refine hk_ial (v := v528) rfl (hH.1 146 (0, 30) rfl) (by omega) (by omega) q_v528 ?_
                          refine qm_Ru.go 6 (c' := (182, [.ref 118, .int y, .int r, .int s, .int v516, .int v516, .int v520, .int (-1), .int 1], [.int (v528 + 0)], h)) rfl ?_
                          obtain ⟨v529, q_v529, e_v529⟩ := hk_add (x := v528) (y := 0) (a := v528.toInt) (b := 0) rfl rfl (by omega) (by omega)
                          rw [q_v529]
                          refine qm_Ru.go 1 (c' := (183, [.ref 118, .int y, .int r, .int s, .int v516, .int v516, .int v520, .int (-1), .int 1], [.ref 118, .int v529], h)) rfl ?_
                          refine hk_getr rfl (hH.1 118 (17, 105) rfl) rfl (hH.2 118 24 (some 129) rfl) ?_
                          refine qm_Ru.go 1 (c' := (187, [.ref 118, .int y, .int r, .int s, .int v516, .int v516, .int v520, .int (-1), .int 1], [.ref 118, .ref 129, .int v529], h)) rfl ?_
                          refine hk_geti (v := v1) rfl (hH.1 118 (17, 105) rfl) rfl q_v1 ?_
                          refine qm_Ru.go 0 (c' := (190, [.ref 118, .int y, .int r, .int s, .int v516, .int v516, .int v520, .int (-1), .int 1], [.int v1, .ref 129, .int v529], h)) rfl ?_
                          obtain ⟨v530, q_v530⟩ : ∃ v, h.2.1 129 (v1.toInt.toNat) = v := ⟨_, rfl⟩
                          refine hk_ial (v := v530) rfl (hH.1 129 (0, 2) rfl) (by omega) (by omega) q_v530 ?_
                          refine qm_Ru.go 0 (c' := (191, [.ref 118, .int y, .int r, .int s, .int v516, .int v516, .int v520, .int (-1), .int 1], [.int v530, .int v529], h)) rfl ?_
                          refine hk_cle (ix := v529.toInt) (iy := v530.toInt) rfl rfl rfl (fun z531 => ?_) (fun z531 => ?_)
                          · refine qm_Ru.go 0 (c' := (197, [.ref 118, .int y, .int r, .int s, .int v516, .int v516, .int v520, .int (-1), .int 1], [], h)) rfl ?_
                            have a_v520 := ra_of hV.1 (by omega) q_v520 (by omega)
                            obtain ⟨v532, q_v532⟩ : ∃ v, h.2.1 118 44 = v := ⟨_, rfl⟩
                            have b_v532 : (0 : Int) ≤ v532.toInt ∧ v532.toInt ≤ 30 := by rw [← q_v532]; exact hB 118 44
                            have l_v520 : ((v520.toInt.toNat : Nat) : Int) < v532.toInt := by rw [← q_v532]; exact hV.1.2.2.2 (v520.toInt.toNat) (by show (h.2.1 150 (v520.toInt.toNat)).toInt ≠ 0; omega)
                            obtain ⟨v533, q_v533⟩ : ∃ v, h.2.1 150 (v520.toInt.toNat) = v := ⟨_, rfl⟩
                            have b_v533 : (0 : Int) ≤ v533.toInt ∧ v533.toInt ≤ 2 := by rw [← q_v533]; exact hB 150 (v520.toInt.toNat)
                            obtain ⟨v534, q_v534⟩ : ∃ v, h.2.1 151 (v520.toInt.toNat) = v := ⟨_, rfl⟩
                            have b_v534 : (0 : Int) ≤ v534.toInt ∧ v534.toInt ≤ 79 := by rw [← q_v534]; exact hB 151 (v520.toInt.toNat)
                            rw [q_v533, q_v534] at a_v520
                            refine qm_Ru.go 1 (c' := (198, [.ref 118, .int y, .int r, .int s, .int v516, .int v516, .int v520, .int (-1), .int 1], [.ref 118], h)) rfl ?_
                            refine hk_inv (o := 118) (r := []) (as := [.ref 118]) rfl rfl (hH.1 118 (17, 105) rfl) rfl rfl rfl rfl (hs_looks (h := h) h6 hH hB (v_R_ru hV)  (by omega) (fun I535 J536 hB_I535 e_I535 => ?_))
                            have hV_I535 : v_R I535 := v_R_cg hV e_I535 rfl
                            refine qm_Ru.go 2 (c' := (204, [.ref 118, .int y, .int r, .int s, .int v516, .int v516, .int v520, .int (-1), .int 1], [.int v520, .ref 118], (h.1, I535, J536, h.2.2.2))) rfl ?_
                            refine hk_inv (o := 118) (r := []) (as := [.ref 118, .int v520]) rfl rfl (hH.1 118 (17, 105) rfl) rfl rfl rfl rfl (rl_away (h := (h.1, I535, J536, h.2.2.2)) hH hB_I535 hV_I535 (b := v520) (by omega) (show pI (I535) 150 (v520.toInt.toNat) = 1 from (congrArg Int32.toInt (show (I535) 150 (v520.toInt.toNat) = _ from ((e_I535 150 rfl (v520.toInt.toNat)).trans q_v533))).trans (by omega)) (fun I537 hB_I537 hV_I537 e_I537 p0_I537 pn_I537 => ?_))
                            obtain ⟨v538, q_v538⟩ : ∃ v, I537 150 (v520.toInt.toNat) = v := ⟨_, rfl⟩
                            have f_v538 : v538.toInt = 0 := by rw [← q_v538]; exact p0_I537
                            refine qm_Ru.go 4 (c' := (220, [.ref 118, .int y, .int r, .int s, .int v516, .int v516, .int v520, .int (-1), .int 1], [.ref 118], (h.1, I537, J536, h.2.2.2))) rfl ?_
                            refine hk_inv (o := 118) (r := []) (as := [.ref 118]) rfl rfl (hH.1 118 (17, 105) rfl) rfl rfl rfl rfl (hs_maybe (h := (h.1, I537, J536, h.2.2.2)) h6 hH hB_I537 (v_R_ru hV_I537)  (by omega) (fun v541 I539 J540 c_v541 hB_I539 e_I539 => ?_))
                            have hV_I539 : v_R I539 := v_R_cg hV_I537 e_I539 rfl
                            have b_v541 : (0 : Int) ≤ v541.toInt ∧ v541.toInt ≤ 1 := c_v541
                            refine qm_Ru.go 0 (c' := (223, [.ref 118, .int y, .int r, .int s, .int v516, .int v516, .int v520, .int (-1), .int 1], [.int v541], (h.1, I539, J540, h.2.2.2))) rfl ?_
                            refine hk_zne (ix := v541.toInt) rfl rfl (fun z542 => ?_) (fun z542 => ?_)
                            · refine qm_Ru.go 2 (c' := (253, [.ref 118, .int y, .int r, .int s, .int v516, .int v516, .int v520, .int (-1), .int 1], [.int (-1), .int s], (h.1, I539, J540, h.2.2.2))) rfl ?_
                              refine hk_ceq (ix := s.toInt) (iy := (-1)) rfl rfl rfl (fun z543 => by exfalso; omega) (fun z543 => ?_)
                              refine qm_Ru.go 6 (c' := (273, [.ref 118, .int y, .int r, .int s, .int v516, .int v516, .int v520, .int (-1), .int 1], [.int s, .int v520, .ref 118], (h.1, I539, J540, h.2.2.2))) rfl ?_
                              refine hk_inv (o := 118) (r := []) (as := [.ref 118, .int v520, .int s]) rfl rfl (hH.1 118 (17, 105) rfl) rfl rfl rfl rfl (rp_puts (h := (h.1, I539, J540, h.2.2.2)) hH hB_I539 hV_I539 (b := v520) (s := s) (hv := v525.toInt) (by omega) (by omega) (show pI (I539) 150 (v520.toInt.toNat) = 0 from (congrArg Int32.toInt (show (I539) 150 (v520.toInt.toNat) = _ from ((e_I539 150 rfl (v520.toInt.toNat)).trans q_v538))).trans (by omega)) (congrArg Int32.toInt (show (I539) 154 (s.toInt.toNat) = _ from ((e_I539 154 rfl (s.toInt.toNat)).trans ((e_I537 154 rfl (s.toInt.toNat)).trans ((e_I535 154 rfl (s.toInt.toNat)).trans q_v525))))) (by omega) (by omega) (show ((v520.toInt.toNat : Nat) : Int) < ((I539) 118 44).toInt from by rw [(show (I539) 118 44 = _ from ((e_I539 118 rfl 44).trans ((e_I537 118 rfl 44).trans ((e_I535 118 rfl 44).trans q_v532))))]; omega) (fun I544 hB_I544 hV_I544 e_I544 p0_I544 pn_I544 pm_I544 p4_I544 => ?_))
                              obtain ⟨v545, q_v545⟩ : ∃ v, I544 150 (v520.toInt.toNat) = v := ⟨_, rfl⟩
                              have f_v545 : v545.toInt = 2 := by rw [← q_v545]; exact p0_I544
                              obtain ⟨v546, q_v546⟩ : ∃ v, I544 154 (s.toInt.toNat) = v := ⟨_, rfl⟩
                              have f_v546 : v546.toInt = v525.toInt + 1 := by rw [← q_v546]; exact p4_I544
                              refine qm_Ru.go 1 (c' := (278, [.ref 118, .int y, .int r, .int s, .int v516, .int v516, .int v520, .int (-1), .int 1], [.int 1], (h.1, I544, J540, h.2.2.2))) rfl ?_
                              refine qm_Ru.rt (v := (some (.int 1))) (h' := (h.1, I544, J540, h.2.2.2)) rfl ?_
                              exact k (some (.int 1)) (I544) (J540) ⟨_, rfl, ⟨by decide, by decide⟩⟩ hB_I544 hV_I544 (fun o ho i => ((e_I544 o (hk_ms rfl ho) i).trans ((e_I539 o (hk_ms rfl ho) i).trans ((e_I537 o (hk_ms rfl ho) i).trans ((e_I535 o (hk_ms rfl ho) i).trans rfl)))))
                            · refine qm_Ru.go 3 (c' := (231, [.ref 118, .int y, .int r, .int s, .int v516, .int v516, .int v520, .int (-1), .int 1], [.int v516, .int v520, .ref 118], (h.1, I539, J540, h.2.2.2))) rfl ?_
                              refine hk_inv (o := 118) (r := []) (as := [.ref 118, .int v520, .int v516]) rfl rfl (hH.1 118 (17, 105) rfl) rfl rfl rfl rfl (rb_boards (h := (h.1, I539, J540, h.2.2.2)) hH hB_I539 hV_I539 (b := v520) (k0 := v516) (by omega) (by omega) (show pI (I539) 150 (v520.toInt.toNat) = 0 from (congrArg Int32.toInt (show (I539) 150 (v520.toInt.toNat) = _ from ((e_I539 150 rfl (v520.toInt.toNat)).trans q_v538))).trans (by omega)) (show ((v520.toInt.toNat : Nat) : Int) < ((I539) 118 44).toInt from by rw [(show (I539) 118 44 = _ from ((e_I539 118 rfl 44).trans ((e_I537 118 rfl 44).trans ((e_I535 118 rfl 44).trans q_v532))))]; omega) (fun I547 hB_I547 hV_I547 e_I547 p0_I547 pn_I547 p1_I547 pm_I547 => ?_))
                              obtain ⟨v548, q_v548⟩ : ∃ v, I547 150 (v520.toInt.toNat) = v := ⟨_, rfl⟩
                              have f_v548 : v548.toInt = 1 := by rw [← q_v548]; exact p0_I547
                              obtain ⟨v549, q_v549⟩ : ∃ v, I547 151 (v520.toInt.toNat) = v := ⟨_, rfl⟩
                              have f_v549 : v549.toInt = v516.toInt := by rw [← q_v549]; exact (congrArg Int32.toInt p1_I547)
                              refine qm_Ru.go 4 (c' := (250, [.ref 118, .int y, .int r, .int s, .int v516, .int v516, .int v520, .int (-1), .int 1], [.int (-3)], (h.1, I547, J540, h.2.2.2))) rfl ?_
                              refine qm_Ru.rt (v := (some (.int (-3)))) (h' := (h.1, I547, J540, h.2.2.2)) rfl ?_
                              exact k (some (.int (-3))) (I547) (J540) ⟨_, rfl, ⟨by decide, by decide⟩⟩ hB_I547 hV_I547 (fun o ho i => ((e_I547 o (hk_ms rfl ho) i).trans ((e_I539 o (hk_ms rfl ho) i).trans ((e_I537 o (hk_ms rfl ho) i).trans ((e_I535 o (hk_ms rfl ho) i).trans rfl)))))
                          · refine qm_Ru.go 1 (c' := (196, [.ref 118, .int y, .int r, .int s, .int v516, .int v516, .int v520, .int (-1), .int 1], [.int (-2)], h)) rfl ?_
                            refine qm_Ru.rt (v := (some (.int (-2)))) (h' := h) rfl ?_
                            exact k (some (.int (-2))) (h.2.1) (h.2.2.1) ⟨_, rfl, ⟨by decide, by decide⟩⟩ hB hV (fun o ho i => rfl)
                        · refine qm_Ru.go 1 (c' := (156, [.ref 118, .int y, .int r, .int s, .int v516, .int v516, .int v520, .int (-1), .int 1], [.int (-1)], h)) rfl ?_
                          refine qm_Ru.rt (v := (some (.int (-1)))) (h' := h) rfl ?_
                          exact k (some (.int (-1))) (h.2.1) (h.2.2.1) ⟨_, rfl, ⟨by decide, by decide⟩⟩ hB hV (fun o ho i => rfl)
                      · refine qm_Ru.go 2 (c' := (108, [.ref 118, .int y, .int r, .int s, .int v516, .int v516, .int v520, .float 0, .float 0], [.int v516, .int v516], h)) rfl ?_
                        refine hk_cle (ix := v516.toInt) (iy := v516.toInt) rfl rfl rfl (fun z550 => ?_) (fun z550 => by exfalso; omega)
                        refine qm_Ru.go 10 (c' := (139, [.ref 118, .int y, .int r, .int s, .int v516, .int v516, .int v520, .int (-1), .int 1], [.int (-1), .int s], h)) rfl ?_
                        refine hk_ceq (ix := s.toInt) (iy := (-1)) rfl rfl rfl (fun z551 => by exfalso; omega) (fun z551 => ?_)
                        refine qm_Ru.go 1 (c' := (143, [.ref 118, .int y, .int r, .int s, .int v516, .int v516, .int v520, .int (-1), .int 1], [.ref 118], h)) rfl ?_
                        refine hk_getr rfl (hH.1 118 (17, 105) rfl) rfl (hH.2 118 53 (some 154) rfl) ?_
                        refine qm_Ru.go 1 (c' := (147, [.ref 118, .int y, .int r, .int s, .int v516, .int v516, .int v520, .int (-1), .int 1], [.int s, .ref 154], h)) rfl ?_
                        obtain ⟨v552, q_v552⟩ : ∃ v, h.2.1 154 (s.toInt.toNat) = v := ⟨_, rfl⟩
                        have b_v552 : (0 : Int) ≤ v552.toInt ∧ v552.toInt ≤ 4 := by rw [← q_v552]; exact hB 154 (s.toInt.toNat)
                        refine hk_ial (v := v552) rfl (hH.1 154 (0, 4) rfl) (by omega) (by omega) q_v552 ?_
                        refine qm_Ru.go 2 (c' := (151, [.ref 118, .int y, .int r, .int s, .int v516, .int v516, .int v520, .int (-1), .int 1], [.int (v552 + 1)], h)) rfl ?_
                        obtain ⟨v553, q_v553, e_v553⟩ := hk_add (x := v552) (y := 1) (a := v552.toInt) (b := 1) rfl rfl (by omega) (by omega)
                        rw [q_v553]
                        refine qm_Ru.go 1 (c' := (152, [.ref 118, .int y, .int r, .int s, .int v516, .int v516, .int v520, .int (-1), .int 1], [.int 4, .int v553], h)) rfl ?_
                        refine hk_cle (ix := v553.toInt) (iy := 4) rfl rfl rfl (fun z554 => ?_) (fun z554 => ?_)
                        · refine qm_Ru.go 1 (c' := (158, [.ref 118, .int y, .int r, .int s, .int v516, .int v516, .int v520, .int (-1), .int 1], [.ref 118], h)) rfl ?_
                          refine hk_getr rfl (hH.1 118 (17, 105) rfl) rfl (hH.2 118 45 (some 146) rfl) ?_
                          refine qm_Ru.go 1 (c' := (163, [.ref 118, .int y, .int r, .int s, .int v516, .int v516, .int v520, .int (-1), .int 1], [.int v520, .ref 146], h)) rfl ?_
                          obtain ⟨v555, q_v555⟩ : ∃ v, h.2.1 146 (v520.toInt.toNat) = v := ⟨_, rfl⟩
                          have b_v555 : (0 : Int) ≤ v555.toInt ∧ v555.toInt ≤ 40 := by rw [← q_v555]; exact hB 146 (v520.toInt.toNat)
                          refine hk_ial (v := v555) rfl (hH.1 146 (0, 30) rfl) (by omega) (by omega) q_v555 ?_
                          refine qm_Ru.go 6 (c' := (182, [.ref 118, .int y, .int r, .int s, .int v516, .int v516, .int v520, .int (-1), .int 1], [.int (v555 + 0)], h)) rfl ?_
                          obtain ⟨v556, q_v556, e_v556⟩ := hk_add (x := v555) (y := 0) (a := v555.toInt) (b := 0) rfl rfl (by omega) (by omega)
                          rw [q_v556]
                          refine qm_Ru.go 1 (c' := (183, [.ref 118, .int y, .int r, .int s, .int v516, .int v516, .int v520, .int (-1), .int 1], [.ref 118, .int v556], h)) rfl ?_
                          refine hk_getr rfl (hH.1 118 (17, 105) rfl) rfl (hH.2 118 24 (some 129) rfl) ?_
                          refine qm_Ru.go 1 (c' := (187, [.ref 118, .int y, .int r, .int s, .int v516, .int v516, .int v520, .int (-1), .int 1], [.ref 118, .ref 129, .int v556], h)) rfl ?_
                          refine hk_geti (v := v1) rfl (hH.1 118 (17, 105) rfl) rfl q_v1 ?_
                          refine qm_Ru.go 0 (c' := (190, [.ref 118, .int y, .int r, .int s, .int v516, .int v516, .int v520, .int (-1), .int 1], [.int v1, .ref 129, .int v556], h)) rfl ?_
                          obtain ⟨v557, q_v557⟩ : ∃ v, h.2.1 129 (v1.toInt.toNat) = v := ⟨_, rfl⟩
                          refine hk_ial (v := v557) rfl (hH.1 129 (0, 2) rfl) (by omega) (by omega) q_v557 ?_
                          refine qm_Ru.go 0 (c' := (191, [.ref 118, .int y, .int r, .int s, .int v516, .int v516, .int v520, .int (-1), .int 1], [.int v557, .int v556], h)) rfl ?_
                          refine hk_cle (ix := v556.toInt) (iy := v557.toInt) rfl rfl rfl (fun z558 => ?_) (fun z558 => ?_)
                          · refine qm_Ru.go 0 (c' := (197, [.ref 118, .int y, .int r, .int s, .int v516, .int v516, .int v520, .int (-1), .int 1], [], h)) rfl ?_
                            have a_v520 := ra_of hV.1 (by omega) q_v520 (by omega)
                            obtain ⟨v559, q_v559⟩ : ∃ v, h.2.1 118 44 = v := ⟨_, rfl⟩
                            have b_v559 : (0 : Int) ≤ v559.toInt ∧ v559.toInt ≤ 30 := by rw [← q_v559]; exact hB 118 44
                            have l_v520 : ((v520.toInt.toNat : Nat) : Int) < v559.toInt := by rw [← q_v559]; exact hV.1.2.2.2 (v520.toInt.toNat) (by show (h.2.1 150 (v520.toInt.toNat)).toInt ≠ 0; omega)
                            obtain ⟨v560, q_v560⟩ : ∃ v, h.2.1 150 (v520.toInt.toNat) = v := ⟨_, rfl⟩
                            have b_v560 : (0 : Int) ≤ v560.toInt ∧ v560.toInt ≤ 2 := by rw [← q_v560]; exact hB 150 (v520.toInt.toNat)
                            obtain ⟨v561, q_v561⟩ : ∃ v, h.2.1 151 (v520.toInt.toNat) = v := ⟨_, rfl⟩
                            have b_v561 : (0 : Int) ≤ v561.toInt ∧ v561.toInt ≤ 79 := by rw [← q_v561]; exact hB 151 (v520.toInt.toNat)
                            rw [q_v560, q_v561] at a_v520
                            refine qm_Ru.go 1 (c' := (198, [.ref 118, .int y, .int r, .int s, .int v516, .int v516, .int v520, .int (-1), .int 1], [.ref 118], h)) rfl ?_
                            refine hk_inv (o := 118) (r := []) (as := [.ref 118]) rfl rfl (hH.1 118 (17, 105) rfl) rfl rfl rfl rfl (hs_looks (h := h) h6 hH hB (v_R_ru hV)  (by omega) (fun I562 J563 hB_I562 e_I562 => ?_))
                            have hV_I562 : v_R I562 := v_R_cg hV e_I562 rfl
                            refine qm_Ru.go 2 (c' := (204, [.ref 118, .int y, .int r, .int s, .int v516, .int v516, .int v520, .int (-1), .int 1], [.int v520, .ref 118], (h.1, I562, J563, h.2.2.2))) rfl ?_
                            refine hk_inv (o := 118) (r := []) (as := [.ref 118, .int v520]) rfl rfl (hH.1 118 (17, 105) rfl) rfl rfl rfl rfl (rl_away (h := (h.1, I562, J563, h.2.2.2)) hH hB_I562 hV_I562 (b := v520) (by omega) (show pI (I562) 150 (v520.toInt.toNat) = 1 from (congrArg Int32.toInt (show (I562) 150 (v520.toInt.toNat) = _ from ((e_I562 150 rfl (v520.toInt.toNat)).trans q_v560))).trans (by omega)) (fun I564 hB_I564 hV_I564 e_I564 p0_I564 pn_I564 => ?_))
                            obtain ⟨v565, q_v565⟩ : ∃ v, I564 150 (v520.toInt.toNat) = v := ⟨_, rfl⟩
                            have f_v565 : v565.toInt = 0 := by rw [← q_v565]; exact p0_I564
                            refine qm_Ru.go 4 (c' := (220, [.ref 118, .int y, .int r, .int s, .int v516, .int v516, .int v520, .int (-1), .int 1], [.ref 118], (h.1, I564, J563, h.2.2.2))) rfl ?_
                            refine hk_inv (o := 118) (r := []) (as := [.ref 118]) rfl rfl (hH.1 118 (17, 105) rfl) rfl rfl rfl rfl (hs_maybe (h := (h.1, I564, J563, h.2.2.2)) h6 hH hB_I564 (v_R_ru hV_I564)  (by omega) (fun v568 I566 J567 c_v568 hB_I566 e_I566 => ?_))
                            have hV_I566 : v_R I566 := v_R_cg hV_I564 e_I566 rfl
                            have b_v568 : (0 : Int) ≤ v568.toInt ∧ v568.toInt ≤ 1 := c_v568
                            refine qm_Ru.go 0 (c' := (223, [.ref 118, .int y, .int r, .int s, .int v516, .int v516, .int v520, .int (-1), .int 1], [.int v568], (h.1, I566, J567, h.2.2.2))) rfl ?_
                            refine hk_zne (ix := v568.toInt) rfl rfl (fun z569 => ?_) (fun z569 => ?_)
                            · refine qm_Ru.go 2 (c' := (253, [.ref 118, .int y, .int r, .int s, .int v516, .int v516, .int v520, .int (-1), .int 1], [.int (-1), .int s], (h.1, I566, J567, h.2.2.2))) rfl ?_
                              refine hk_ceq (ix := s.toInt) (iy := (-1)) rfl rfl rfl (fun z570 => by exfalso; omega) (fun z570 => ?_)
                              refine qm_Ru.go 6 (c' := (273, [.ref 118, .int y, .int r, .int s, .int v516, .int v516, .int v520, .int (-1), .int 1], [.int s, .int v520, .ref 118], (h.1, I566, J567, h.2.2.2))) rfl ?_
                              refine hk_inv (o := 118) (r := []) (as := [.ref 118, .int v520, .int s]) rfl rfl (hH.1 118 (17, 105) rfl) rfl rfl rfl rfl (rp_puts (h := (h.1, I566, J567, h.2.2.2)) hH hB_I566 hV_I566 (b := v520) (s := s) (hv := v552.toInt) (by omega) (by omega) (show pI (I566) 150 (v520.toInt.toNat) = 0 from (congrArg Int32.toInt (show (I566) 150 (v520.toInt.toNat) = _ from ((e_I566 150 rfl (v520.toInt.toNat)).trans q_v565))).trans (by omega)) (congrArg Int32.toInt (show (I566) 154 (s.toInt.toNat) = _ from ((e_I566 154 rfl (s.toInt.toNat)).trans ((e_I564 154 rfl (s.toInt.toNat)).trans ((e_I562 154 rfl (s.toInt.toNat)).trans q_v552))))) (by omega) (by omega) (show ((v520.toInt.toNat : Nat) : Int) < ((I566) 118 44).toInt from by rw [(show (I566) 118 44 = _ from ((e_I566 118 rfl 44).trans ((e_I564 118 rfl 44).trans ((e_I562 118 rfl 44).trans q_v559))))]; omega) (fun I571 hB_I571 hV_I571 e_I571 p0_I571 pn_I571 pm_I571 p4_I571 => ?_))
                              obtain ⟨v572, q_v572⟩ : ∃ v, I571 150 (v520.toInt.toNat) = v := ⟨_, rfl⟩
                              have f_v572 : v572.toInt = 2 := by rw [← q_v572]; exact p0_I571
                              obtain ⟨v573, q_v573⟩ : ∃ v, I571 154 (s.toInt.toNat) = v := ⟨_, rfl⟩
                              have f_v573 : v573.toInt = v552.toInt + 1 := by rw [← q_v573]; exact p4_I571
                              refine qm_Ru.go 1 (c' := (278, [.ref 118, .int y, .int r, .int s, .int v516, .int v516, .int v520, .int (-1), .int 1], [.int 1], (h.1, I571, J567, h.2.2.2))) rfl ?_
                              refine qm_Ru.rt (v := (some (.int 1))) (h' := (h.1, I571, J567, h.2.2.2)) rfl ?_
                              exact k (some (.int 1)) (I571) (J567) ⟨_, rfl, ⟨by decide, by decide⟩⟩ hB_I571 hV_I571 (fun o ho i => ((e_I571 o (hk_ms rfl ho) i).trans ((e_I566 o (hk_ms rfl ho) i).trans ((e_I564 o (hk_ms rfl ho) i).trans ((e_I562 o (hk_ms rfl ho) i).trans rfl)))))
                            · refine qm_Ru.go 3 (c' := (231, [.ref 118, .int y, .int r, .int s, .int v516, .int v516, .int v520, .int (-1), .int 1], [.int v516, .int v520, .ref 118], (h.1, I566, J567, h.2.2.2))) rfl ?_
                              refine hk_inv (o := 118) (r := []) (as := [.ref 118, .int v520, .int v516]) rfl rfl (hH.1 118 (17, 105) rfl) rfl rfl rfl rfl (rb_boards (h := (h.1, I566, J567, h.2.2.2)) hH hB_I566 hV_I566 (b := v520) (k0 := v516) (by omega) (by omega) (show pI (I566) 150 (v520.toInt.toNat) = 0 from (congrArg Int32.toInt (show (I566) 150 (v520.toInt.toNat) = _ from ((e_I566 150 rfl (v520.toInt.toNat)).trans q_v565))).trans (by omega)) (show ((v520.toInt.toNat : Nat) : Int) < ((I566) 118 44).toInt from by rw [(show (I566) 118 44 = _ from ((e_I566 118 rfl 44).trans ((e_I564 118 rfl 44).trans ((e_I562 118 rfl 44).trans q_v559))))]; omega) (fun I574 hB_I574 hV_I574 e_I574 p0_I574 pn_I574 p1_I574 pm_I574 => ?_))
                              obtain ⟨v575, q_v575⟩ : ∃ v, I574 150 (v520.toInt.toNat) = v := ⟨_, rfl⟩
                              have f_v575 : v575.toInt = 1 := by rw [← q_v575]; exact p0_I574
                              obtain ⟨v576, q_v576⟩ : ∃ v, I574 151 (v520.toInt.toNat) = v := ⟨_, rfl⟩
                              have f_v576 : v576.toInt = v516.toInt := by rw [← q_v576]; exact (congrArg Int32.toInt p1_I574)
                              refine qm_Ru.go 4 (c' := (250, [.ref 118, .int y, .int r, .int s, .int v516, .int v516, .int v520, .int (-1), .int 1], [.int (-3)], (h.1, I574, J567, h.2.2.2))) rfl ?_
                              refine qm_Ru.rt (v := (some (.int (-3)))) (h' := (h.1, I574, J567, h.2.2.2)) rfl ?_
                              exact k (some (.int (-3))) (I574) (J567) ⟨_, rfl, ⟨by decide, by decide⟩⟩ hB_I574 hV_I574 (fun o ho i => ((e_I574 o (hk_ms rfl ho) i).trans ((e_I566 o (hk_ms rfl ho) i).trans ((e_I564 o (hk_ms rfl ho) i).trans ((e_I562 o (hk_ms rfl ho) i).trans rfl)))))
                          · refine qm_Ru.go 1 (c' := (196, [.ref 118, .int y, .int r, .int s, .int v516, .int v516, .int v520, .int (-1), .int 1], [.int (-2)], h)) rfl ?_
                            refine qm_Ru.rt (v := (some (.int (-2)))) (h' := h) rfl ?_
                            exact k (some (.int (-2))) (h.2.1) (h.2.2.1) ⟨_, rfl, ⟨by decide, by decide⟩⟩ hB hV (fun o ho i => rfl)
                        · refine qm_Ru.go 1 (c' := (156, [.ref 118, .int y, .int r, .int s, .int v516, .int v516, .int v520, .int (-1), .int 1], [.int (-1)], h)) rfl ?_
                          refine qm_Ru.rt (v := (some (.int (-1)))) (h' := h) rfl ?_
                          exact k (some (.int (-1))) (h.2.1) (h.2.2.1) ⟨_, rfl, ⟨by decide, by decide⟩⟩ hB hV (fun o ho i => rfl)
                    · refine qm_Ru.go 1 (c' := (93, [.ref 118, .int y, .int r, .int s, .int v516, .int v516, .int v520, .float 0, .float 0], [.int (-1)], h)) rfl ?_
                      refine qm_Ru.rt (v := (some (.int (-1)))) (h' := h) rfl ?_
                      exact k (some (.int (-1))) (h.2.1) (h.2.2.1) ⟨_, rfl, ⟨by decide, by decide⟩⟩ hB hV (fun o ho i => rfl)
                  · refine qm_Ru.go 3 (c' := (70, [.ref 118, .int y, .int r, .int s, .int v516, .float 0, .float 0, .float 0, .float 0], [.int (v516 + 1)], h)) rfl ?_
                    rw [q_v517]
                    refine qm_Ru.go 3 (c' := (78, [.ref 118, .int y, .int r, .int s, .int v516, .int v517, .float 0, .float 0, .float 0], [.ref 118], h)) rfl ?_
                    refine hk_getr rfl (hH.1 118 (17, 105) rfl) rfl (hH.2 118 51 (some 152) rfl) ?_
                    refine qm_Ru.go 1 (c' := (83, [.ref 118, .int y, .int r, .int s, .int v516, .int v517, .float 0, .float 0, .float 0], [.int v517, .ref 152], h)) rfl ?_
                    refine hk_ial (v := v518) rfl (hH.1 152 (0, 80) rfl) (by omega) (by omega) q_v518 ?_
                    refine qm_Ru.go 3 (c' := (89, [.ref 118, .int y, .int r, .int s, .int v516, .int v517, .int v518, .float 0, .float 0], [.int (-1), .int v518], h)) rfl ?_
                    refine hk_cne (ix := v518.toInt) (iy := (-1)) rfl rfl rfl (fun z578 => ?_) (fun z578 => by exfalso; omega)
                    refine qm_Ru.go 1 (c' := (95, [.ref 118, .int y, .int r, .int s, .int v516, .int v517, .int v518, .float 0, .float 0], [.ref 118], h)) rfl ?_
                    refine hk_getr rfl (hH.1 118 (17, 105) rfl) rfl (hH.2 118 48 (some 149) rfl) ?_
                    refine qm_Ru.go 1 (c' := (100, [.ref 118, .int y, .int r, .int s, .int v516, .int v517, .int v518, .float 0, .float 0], [.int v518, .ref 149], h)) rfl ?_
                    obtain ⟨v579, q_v579⟩ : ∃ v, h.2.1 149 (v518.toInt.toNat) = v := ⟨_, rfl⟩
                    have b_v579 : (0 : Int) ≤ v579.toInt ∧ v579.toInt ≤ 1 := by rw [← q_v579]; exact hB 149 (v518.toInt.toNat)
                    refine hk_bal (v := v579) rfl (hH.1 149 (2, 30) rfl) (by decide) (by omega) (by omega) q_v579 ?_
                    refine qm_Ru.go 0 (c' := (101, [.ref 118, .int y, .int r, .int s, .int v516, .int v517, .int v518, .float 0, .float 0], [.int v579], h)) rfl ?_
                    refine hk_zeq (ix := v579.toInt) rfl rfl (fun z580 => ?_) (fun z580 => ?_)
                    · refine qm_Ru.go 10 (c' := (139, [.ref 118, .int y, .int r, .int s, .int v516, .int v517, .int v518, .int (-1), .int 1], [.int (-1), .int s], h)) rfl ?_
                      refine hk_ceq (ix := s.toInt) (iy := (-1)) rfl rfl rfl (fun z581 => by exfalso; omega) (fun z581 => ?_)
                      refine qm_Ru.go 1 (c' := (143, [.ref 118, .int y, .int r, .int s, .int v516, .int v517, .int v518, .int (-1), .int 1], [.ref 118], h)) rfl ?_
                      refine hk_getr rfl (hH.1 118 (17, 105) rfl) rfl (hH.2 118 53 (some 154) rfl) ?_
                      refine qm_Ru.go 1 (c' := (147, [.ref 118, .int y, .int r, .int s, .int v516, .int v517, .int v518, .int (-1), .int 1], [.int s, .ref 154], h)) rfl ?_
                      obtain ⟨v582, q_v582⟩ : ∃ v, h.2.1 154 (s.toInt.toNat) = v := ⟨_, rfl⟩
                      have b_v582 : (0 : Int) ≤ v582.toInt ∧ v582.toInt ≤ 4 := by rw [← q_v582]; exact hB 154 (s.toInt.toNat)
                      refine hk_ial (v := v582) rfl (hH.1 154 (0, 4) rfl) (by omega) (by omega) q_v582 ?_
                      refine qm_Ru.go 2 (c' := (151, [.ref 118, .int y, .int r, .int s, .int v516, .int v517, .int v518, .int (-1), .int 1], [.int (v582 + 1)], h)) rfl ?_
                      obtain ⟨v583, q_v583, e_v583⟩ := hk_add (x := v582) (y := 1) (a := v582.toInt) (b := 1) rfl rfl (by omega) (by omega)
                      rw [q_v583]
                      refine qm_Ru.go 1 (c' := (152, [.ref 118, .int y, .int r, .int s, .int v516, .int v517, .int v518, .int (-1), .int 1], [.int 4, .int v583], h)) rfl ?_
                      refine hk_cle (ix := v583.toInt) (iy := 4) rfl rfl rfl (fun z584 => ?_) (fun z584 => ?_)
                      · refine qm_Ru.go 1 (c' := (158, [.ref 118, .int y, .int r, .int s, .int v516, .int v517, .int v518, .int (-1), .int 1], [.ref 118], h)) rfl ?_
                        refine hk_getr rfl (hH.1 118 (17, 105) rfl) rfl (hH.2 118 45 (some 146) rfl) ?_
                        refine qm_Ru.go 1 (c' := (163, [.ref 118, .int y, .int r, .int s, .int v516, .int v517, .int v518, .int (-1), .int 1], [.int v518, .ref 146], h)) rfl ?_
                        obtain ⟨v585, q_v585⟩ : ∃ v, h.2.1 146 (v518.toInt.toNat) = v := ⟨_, rfl⟩
                        have b_v585 : (0 : Int) ≤ v585.toInt ∧ v585.toInt ≤ 40 := by rw [← q_v585]; exact hB 146 (v518.toInt.toNat)
                        refine hk_ial (v := v585) rfl (hH.1 146 (0, 30) rfl) (by omega) (by omega) q_v585 ?_
                        refine qm_Ru.go 6 (c' := (182, [.ref 118, .int y, .int r, .int s, .int v516, .int v517, .int v518, .int (-1), .int 1], [.int (v585 + 0)], h)) rfl ?_
                        obtain ⟨v586, q_v586, e_v586⟩ := hk_add (x := v585) (y := 0) (a := v585.toInt) (b := 0) rfl rfl (by omega) (by omega)
                        rw [q_v586]
                        refine qm_Ru.go 1 (c' := (183, [.ref 118, .int y, .int r, .int s, .int v516, .int v517, .int v518, .int (-1), .int 1], [.ref 118, .int v586], h)) rfl ?_
                        refine hk_getr rfl (hH.1 118 (17, 105) rfl) rfl (hH.2 118 24 (some 129) rfl) ?_
                        refine qm_Ru.go 1 (c' := (187, [.ref 118, .int y, .int r, .int s, .int v516, .int v517, .int v518, .int (-1), .int 1], [.ref 118, .ref 129, .int v586], h)) rfl ?_
                        refine hk_geti (v := v1) rfl (hH.1 118 (17, 105) rfl) rfl q_v1 ?_
                        refine qm_Ru.go 0 (c' := (190, [.ref 118, .int y, .int r, .int s, .int v516, .int v517, .int v518, .int (-1), .int 1], [.int v1, .ref 129, .int v586], h)) rfl ?_
                        obtain ⟨v587, q_v587⟩ : ∃ v, h.2.1 129 (v1.toInt.toNat) = v := ⟨_, rfl⟩
                        refine hk_ial (v := v587) rfl (hH.1 129 (0, 2) rfl) (by omega) (by omega) q_v587 ?_
                        refine qm_Ru.go 0 (c' := (191, [.ref 118, .int y, .int r, .int s, .int v516, .int v517, .int v518, .int (-1), .int 1], [.int v587, .int v586], h)) rfl ?_
                        refine hk_cle (ix := v586.toInt) (iy := v587.toInt) rfl rfl rfl (fun z588 => ?_) (fun z588 => ?_)
                        · refine qm_Ru.go 0 (c' := (197, [.ref 118, .int y, .int r, .int s, .int v516, .int v517, .int v518, .int (-1), .int 1], [], h)) rfl ?_
                          have a_v518 := ra_of hV.1 (by omega) q_v518 (by omega)
                          obtain ⟨v589, q_v589⟩ : ∃ v, h.2.1 118 44 = v := ⟨_, rfl⟩
                          have b_v589 : (0 : Int) ≤ v589.toInt ∧ v589.toInt ≤ 30 := by rw [← q_v589]; exact hB 118 44
                          have l_v518 : ((v518.toInt.toNat : Nat) : Int) < v589.toInt := by rw [← q_v589]; exact hV.1.2.2.2 (v518.toInt.toNat) (by show (h.2.1 150 (v518.toInt.toNat)).toInt ≠ 0; omega)
                          obtain ⟨v590, q_v590⟩ : ∃ v, h.2.1 150 (v518.toInt.toNat) = v := ⟨_, rfl⟩
                          have b_v590 : (0 : Int) ≤ v590.toInt ∧ v590.toInt ≤ 2 := by rw [← q_v590]; exact hB 150 (v518.toInt.toNat)
                          obtain ⟨v591, q_v591⟩ : ∃ v, h.2.1 151 (v518.toInt.toNat) = v := ⟨_, rfl⟩
                          have b_v591 : (0 : Int) ≤ v591.toInt ∧ v591.toInt ≤ 79 := by rw [← q_v591]; exact hB 151 (v518.toInt.toNat)
                          rw [q_v590, q_v591] at a_v518
                          refine qm_Ru.go 1 (c' := (198, [.ref 118, .int y, .int r, .int s, .int v516, .int v517, .int v518, .int (-1), .int 1], [.ref 118], h)) rfl ?_
                          refine hk_inv (o := 118) (r := []) (as := [.ref 118]) rfl rfl (hH.1 118 (17, 105) rfl) rfl rfl rfl rfl (hs_looks (h := h) h6 hH hB (v_R_ru hV)  (by omega) (fun I592 J593 hB_I592 e_I592 => ?_))
                          have hV_I592 : v_R I592 := v_R_cg hV e_I592 rfl
                          refine qm_Ru.go 2 (c' := (204, [.ref 118, .int y, .int r, .int s, .int v516, .int v517, .int v518, .int (-1), .int 1], [.int v518, .ref 118], (h.1, I592, J593, h.2.2.2))) rfl ?_
                          refine hk_inv (o := 118) (r := []) (as := [.ref 118, .int v518]) rfl rfl (hH.1 118 (17, 105) rfl) rfl rfl rfl rfl (rl_away (h := (h.1, I592, J593, h.2.2.2)) hH hB_I592 hV_I592 (b := v518) (by omega) (show pI (I592) 150 (v518.toInt.toNat) = 1 from (congrArg Int32.toInt (show (I592) 150 (v518.toInt.toNat) = _ from ((e_I592 150 rfl (v518.toInt.toNat)).trans q_v590))).trans (by omega)) (fun I594 hB_I594 hV_I594 e_I594 p0_I594 pn_I594 => ?_))
                          obtain ⟨v595, q_v595⟩ : ∃ v, I594 150 (v518.toInt.toNat) = v := ⟨_, rfl⟩
                          have f_v595 : v595.toInt = 0 := by rw [← q_v595]; exact p0_I594
                          refine qm_Ru.go 4 (c' := (220, [.ref 118, .int y, .int r, .int s, .int v516, .int v517, .int v518, .int (-1), .int 1], [.ref 118], (h.1, I594, J593, h.2.2.2))) rfl ?_
                          refine hk_inv (o := 118) (r := []) (as := [.ref 118]) rfl rfl (hH.1 118 (17, 105) rfl) rfl rfl rfl rfl (hs_maybe (h := (h.1, I594, J593, h.2.2.2)) h6 hH hB_I594 (v_R_ru hV_I594)  (by omega) (fun v598 I596 J597 c_v598 hB_I596 e_I596 => ?_))
                          have hV_I596 : v_R I596 := v_R_cg hV_I594 e_I596 rfl
                          have b_v598 : (0 : Int) ≤ v598.toInt ∧ v598.toInt ≤ 1 := c_v598
                          refine qm_Ru.go 0 (c' := (223, [.ref 118, .int y, .int r, .int s, .int v516, .int v517, .int v518, .int (-1), .int 1], [.int v598], (h.1, I596, J597, h.2.2.2))) rfl ?_
                          refine hk_zne (ix := v598.toInt) rfl rfl (fun z599 => ?_) (fun z599 => ?_)
                          · refine qm_Ru.go 2 (c' := (253, [.ref 118, .int y, .int r, .int s, .int v516, .int v517, .int v518, .int (-1), .int 1], [.int (-1), .int s], (h.1, I596, J597, h.2.2.2))) rfl ?_
                            refine hk_ceq (ix := s.toInt) (iy := (-1)) rfl rfl rfl (fun z600 => by exfalso; omega) (fun z600 => ?_)
                            refine qm_Ru.go 6 (c' := (273, [.ref 118, .int y, .int r, .int s, .int v516, .int v517, .int v518, .int (-1), .int 1], [.int s, .int v518, .ref 118], (h.1, I596, J597, h.2.2.2))) rfl ?_
                            refine hk_inv (o := 118) (r := []) (as := [.ref 118, .int v518, .int s]) rfl rfl (hH.1 118 (17, 105) rfl) rfl rfl rfl rfl (rp_puts (h := (h.1, I596, J597, h.2.2.2)) hH hB_I596 hV_I596 (b := v518) (s := s) (hv := v582.toInt) (by omega) (by omega) (show pI (I596) 150 (v518.toInt.toNat) = 0 from (congrArg Int32.toInt (show (I596) 150 (v518.toInt.toNat) = _ from ((e_I596 150 rfl (v518.toInt.toNat)).trans q_v595))).trans (by omega)) (congrArg Int32.toInt (show (I596) 154 (s.toInt.toNat) = _ from ((e_I596 154 rfl (s.toInt.toNat)).trans ((e_I594 154 rfl (s.toInt.toNat)).trans ((e_I592 154 rfl (s.toInt.toNat)).trans q_v582))))) (by omega) (by omega) (show ((v518.toInt.toNat : Nat) : Int) < ((I596) 118 44).toInt from by rw [(show (I596) 118 44 = _ from ((e_I596 118 rfl 44).trans ((e_I594 118 rfl 44).trans ((e_I592 118 rfl 44).trans q_v589))))]; omega) (fun I601 hB_I601 hV_I601 e_I601 p0_I601 pn_I601 pm_I601 p4_I601 => ?_))
                            obtain ⟨v602, q_v602⟩ : ∃ v, I601 150 (v518.toInt.toNat) = v := ⟨_, rfl⟩
                            have f_v602 : v602.toInt = 2 := by rw [← q_v602]; exact p0_I601
                            obtain ⟨v603, q_v603⟩ : ∃ v, I601 154 (s.toInt.toNat) = v := ⟨_, rfl⟩
                            have f_v603 : v603.toInt = v582.toInt + 1 := by rw [← q_v603]; exact p4_I601
                            refine qm_Ru.go 1 (c' := (278, [.ref 118, .int y, .int r, .int s, .int v516, .int v517, .int v518, .int (-1), .int 1], [.int 1], (h.1, I601, J597, h.2.2.2))) rfl ?_
                            refine qm_Ru.rt (v := (some (.int 1))) (h' := (h.1, I601, J597, h.2.2.2)) rfl ?_
                            exact k (some (.int 1)) (I601) (J597) ⟨_, rfl, ⟨by decide, by decide⟩⟩ hB_I601 hV_I601 (fun o ho i => ((e_I601 o (hk_ms rfl ho) i).trans ((e_I596 o (hk_ms rfl ho) i).trans ((e_I594 o (hk_ms rfl ho) i).trans ((e_I592 o (hk_ms rfl ho) i).trans rfl)))))
                          · refine qm_Ru.go 3 (c' := (231, [.ref 118, .int y, .int r, .int s, .int v516, .int v517, .int v518, .int (-1), .int 1], [.int v517, .int v518, .ref 118], (h.1, I596, J597, h.2.2.2))) rfl ?_
                            refine hk_inv (o := 118) (r := []) (as := [.ref 118, .int v518, .int v517]) rfl rfl (hH.1 118 (17, 105) rfl) rfl rfl rfl rfl (rb_boards (h := (h.1, I596, J597, h.2.2.2)) hH hB_I596 hV_I596 (b := v518) (k0 := v517) (by omega) (by omega) (show pI (I596) 150 (v518.toInt.toNat) = 0 from (congrArg Int32.toInt (show (I596) 150 (v518.toInt.toNat) = _ from ((e_I596 150 rfl (v518.toInt.toNat)).trans q_v595))).trans (by omega)) (show ((v518.toInt.toNat : Nat) : Int) < ((I596) 118 44).toInt from by rw [(show (I596) 118 44 = _ from ((e_I596 118 rfl 44).trans ((e_I594 118 rfl 44).trans ((e_I592 118 rfl 44).trans q_v589))))]; omega) (fun I604 hB_I604 hV_I604 e_I604 p0_I604 pn_I604 p1_I604 pm_I604 => ?_))
                            obtain ⟨v605, q_v605⟩ : ∃ v, I604 150 (v518.toInt.toNat) = v := ⟨_, rfl⟩
                            have f_v605 : v605.toInt = 1 := by rw [← q_v605]; exact p0_I604
                            obtain ⟨v606, q_v606⟩ : ∃ v, I604 151 (v518.toInt.toNat) = v := ⟨_, rfl⟩
                            have f_v606 : v606.toInt = v517.toInt := by rw [← q_v606]; exact (congrArg Int32.toInt p1_I604)
                            refine qm_Ru.go 4 (c' := (250, [.ref 118, .int y, .int r, .int s, .int v516, .int v517, .int v518, .int (-1), .int 1], [.int (-3)], (h.1, I604, J597, h.2.2.2))) rfl ?_
                            refine qm_Ru.rt (v := (some (.int (-3)))) (h' := (h.1, I604, J597, h.2.2.2)) rfl ?_
                            exact k (some (.int (-3))) (I604) (J597) ⟨_, rfl, ⟨by decide, by decide⟩⟩ hB_I604 hV_I604 (fun o ho i => ((e_I604 o (hk_ms rfl ho) i).trans ((e_I596 o (hk_ms rfl ho) i).trans ((e_I594 o (hk_ms rfl ho) i).trans ((e_I592 o (hk_ms rfl ho) i).trans rfl)))))
                        · refine qm_Ru.go 1 (c' := (196, [.ref 118, .int y, .int r, .int s, .int v516, .int v517, .int v518, .int (-1), .int 1], [.int (-2)], h)) rfl ?_
                          refine qm_Ru.rt (v := (some (.int (-2)))) (h' := h) rfl ?_
                          exact k (some (.int (-2))) (h.2.1) (h.2.2.1) ⟨_, rfl, ⟨by decide, by decide⟩⟩ hB hV (fun o ho i => rfl)
                      · refine qm_Ru.go 1 (c' := (156, [.ref 118, .int y, .int r, .int s, .int v516, .int v517, .int v518, .int (-1), .int 1], [.int (-1)], h)) rfl ?_
                        refine qm_Ru.rt (v := (some (.int (-1)))) (h' := h) rfl ?_
                        exact k (some (.int (-1))) (h.2.1) (h.2.2.1) ⟨_, rfl, ⟨by decide, by decide⟩⟩ hB hV (fun o ho i => rfl)
                    · refine qm_Ru.go 2 (c' := (108, [.ref 118, .int y, .int r, .int s, .int v516, .int v517, .int v518, .float 0, .float 0], [.int v516, .int v517], h)) rfl ?_
                      refine hk_cle (ix := v517.toInt) (iy := v516.toInt) rfl rfl rfl (fun z607 => ?_) (fun z607 => ?_)
                      · refine qm_Ru.go 10 (c' := (139, [.ref 118, .int y, .int r, .int s, .int v516, .int v517, .int v518, .int (-1), .int 1], [.int (-1), .int s], h)) rfl ?_
                        refine hk_ceq (ix := s.toInt) (iy := (-1)) rfl rfl rfl (fun z608 => by exfalso; omega) (fun z608 => ?_)
                        refine qm_Ru.go 1 (c' := (143, [.ref 118, .int y, .int r, .int s, .int v516, .int v517, .int v518, .int (-1), .int 1], [.ref 118], h)) rfl ?_
                        refine hk_getr rfl (hH.1 118 (17, 105) rfl) rfl (hH.2 118 53 (some 154) rfl) ?_
                        refine qm_Ru.go 1 (c' := (147, [.ref 118, .int y, .int r, .int s, .int v516, .int v517, .int v518, .int (-1), .int 1], [.int s, .ref 154], h)) rfl ?_
                        obtain ⟨v609, q_v609⟩ : ∃ v, h.2.1 154 (s.toInt.toNat) = v := ⟨_, rfl⟩
                        have b_v609 : (0 : Int) ≤ v609.toInt ∧ v609.toInt ≤ 4 := by rw [← q_v609]; exact hB 154 (s.toInt.toNat)
                        refine hk_ial (v := v609) rfl (hH.1 154 (0, 4) rfl) (by omega) (by omega) q_v609 ?_
                        refine qm_Ru.go 2 (c' := (151, [.ref 118, .int y, .int r, .int s, .int v516, .int v517, .int v518, .int (-1), .int 1], [.int (v609 + 1)], h)) rfl ?_
                        obtain ⟨v610, q_v610, e_v610⟩ := hk_add (x := v609) (y := 1) (a := v609.toInt) (b := 1) rfl rfl (by omega) (by omega)
                        rw [q_v610]
                        refine qm_Ru.go 1 (c' := (152, [.ref 118, .int y, .int r, .int s, .int v516, .int v517, .int v518, .int (-1), .int 1], [.int 4, .int v610], h)) rfl ?_
                        refine hk_cle (ix := v610.toInt) (iy := 4) rfl rfl rfl (fun z611 => ?_) (fun z611 => ?_)
                        · refine qm_Ru.go 1 (c' := (158, [.ref 118, .int y, .int r, .int s, .int v516, .int v517, .int v518, .int (-1), .int 1], [.ref 118], h)) rfl ?_
                          refine hk_getr rfl (hH.1 118 (17, 105) rfl) rfl (hH.2 118 45 (some 146) rfl) ?_
                          refine qm_Ru.go 1 (c' := (163, [.ref 118, .int y, .int r, .int s, .int v516, .int v517, .int v518, .int (-1), .int 1], [.int v518, .ref 146], h)) rfl ?_
                          obtain ⟨v612, q_v612⟩ : ∃ v, h.2.1 146 (v518.toInt.toNat) = v := ⟨_, rfl⟩
                          have b_v612 : (0 : Int) ≤ v612.toInt ∧ v612.toInt ≤ 40 := by rw [← q_v612]; exact hB 146 (v518.toInt.toNat)
                          refine hk_ial (v := v612) rfl (hH.1 146 (0, 30) rfl) (by omega) (by omega) q_v612 ?_
                          refine qm_Ru.go 6 (c' := (182, [.ref 118, .int y, .int r, .int s, .int v516, .int v517, .int v518, .int (-1), .int 1], [.int (v612 + 0)], h)) rfl ?_
                          obtain ⟨v613, q_v613, e_v613⟩ := hk_add (x := v612) (y := 0) (a := v612.toInt) (b := 0) rfl rfl (by omega) (by omega)
                          rw [q_v613]
                          refine qm_Ru.go 1 (c' := (183, [.ref 118, .int y, .int r, .int s, .int v516, .int v517, .int v518, .int (-1), .int 1], [.ref 118, .int v613], h)) rfl ?_
                          refine hk_getr rfl (hH.1 118 (17, 105) rfl) rfl (hH.2 118 24 (some 129) rfl) ?_
                          refine qm_Ru.go 1 (c' := (187, [.ref 118, .int y, .int r, .int s, .int v516, .int v517, .int v518, .int (-1), .int 1], [.ref 118, .ref 129, .int v613], h)) rfl ?_
                          refine hk_geti (v := v1) rfl (hH.1 118 (17, 105) rfl) rfl q_v1 ?_
                          refine qm_Ru.go 0 (c' := (190, [.ref 118, .int y, .int r, .int s, .int v516, .int v517, .int v518, .int (-1), .int 1], [.int v1, .ref 129, .int v613], h)) rfl ?_
                          obtain ⟨v614, q_v614⟩ : ∃ v, h.2.1 129 (v1.toInt.toNat) = v := ⟨_, rfl⟩
                          refine hk_ial (v := v614) rfl (hH.1 129 (0, 2) rfl) (by omega) (by omega) q_v614 ?_
                          refine qm_Ru.go 0 (c' := (191, [.ref 118, .int y, .int r, .int s, .int v516, .int v517, .int v518, .int (-1), .int 1], [.int v614, .int v613], h)) rfl ?_
                          refine hk_cle (ix := v613.toInt) (iy := v614.toInt) rfl rfl rfl (fun z615 => ?_) (fun z615 => ?_)
                          · refine qm_Ru.go 0 (c' := (197, [.ref 118, .int y, .int r, .int s, .int v516, .int v517, .int v518, .int (-1), .int 1], [], h)) rfl ?_
                            have a_v518 := ra_of hV.1 (by omega) q_v518 (by omega)
                            obtain ⟨v616, q_v616⟩ : ∃ v, h.2.1 118 44 = v := ⟨_, rfl⟩
                            have b_v616 : (0 : Int) ≤ v616.toInt ∧ v616.toInt ≤ 30 := by rw [← q_v616]; exact hB 118 44
                            have l_v518 : ((v518.toInt.toNat : Nat) : Int) < v616.toInt := by rw [← q_v616]; exact hV.1.2.2.2 (v518.toInt.toNat) (by show (h.2.1 150 (v518.toInt.toNat)).toInt ≠ 0; omega)
                            obtain ⟨v617, q_v617⟩ : ∃ v, h.2.1 150 (v518.toInt.toNat) = v := ⟨_, rfl⟩
                            have b_v617 : (0 : Int) ≤ v617.toInt ∧ v617.toInt ≤ 2 := by rw [← q_v617]; exact hB 150 (v518.toInt.toNat)
                            obtain ⟨v618, q_v618⟩ : ∃ v, h.2.1 151 (v518.toInt.toNat) = v := ⟨_, rfl⟩
                            have b_v618 : (0 : Int) ≤ v618.toInt ∧ v618.toInt ≤ 79 := by rw [← q_v618]; exact hB 151 (v518.toInt.toNat)
                            rw [q_v617, q_v618] at a_v518
                            refine qm_Ru.go 1 (c' := (198, [.ref 118, .int y, .int r, .int s, .int v516, .int v517, .int v518, .int (-1), .int 1], [.ref 118], h)) rfl ?_
                            refine hk_inv (o := 118) (r := []) (as := [.ref 118]) rfl rfl (hH.1 118 (17, 105) rfl) rfl rfl rfl rfl (hs_looks (h := h) h6 hH hB (v_R_ru hV)  (by omega) (fun I619 J620 hB_I619 e_I619 => ?_))
                            have hV_I619 : v_R I619 := v_R_cg hV e_I619 rfl
                            refine qm_Ru.go 2 (c' := (204, [.ref 118, .int y, .int r, .int s, .int v516, .int v517, .int v518, .int (-1), .int 1], [.int v518, .ref 118], (h.1, I619, J620, h.2.2.2))) rfl ?_
                            refine hk_inv (o := 118) (r := []) (as := [.ref 118, .int v518]) rfl rfl (hH.1 118 (17, 105) rfl) rfl rfl rfl rfl (rl_away (h := (h.1, I619, J620, h.2.2.2)) hH hB_I619 hV_I619 (b := v518) (by omega) (show pI (I619) 150 (v518.toInt.toNat) = 1 from (congrArg Int32.toInt (show (I619) 150 (v518.toInt.toNat) = _ from ((e_I619 150 rfl (v518.toInt.toNat)).trans q_v617))).trans (by omega)) (fun I621 hB_I621 hV_I621 e_I621 p0_I621 pn_I621 => ?_))
                            obtain ⟨v622, q_v622⟩ : ∃ v, I621 150 (v518.toInt.toNat) = v := ⟨_, rfl⟩
                            have f_v622 : v622.toInt = 0 := by rw [← q_v622]; exact p0_I621
                            refine qm_Ru.go 4 (c' := (220, [.ref 118, .int y, .int r, .int s, .int v516, .int v517, .int v518, .int (-1), .int 1], [.ref 118], (h.1, I621, J620, h.2.2.2))) rfl ?_
                            refine hk_inv (o := 118) (r := []) (as := [.ref 118]) rfl rfl (hH.1 118 (17, 105) rfl) rfl rfl rfl rfl (hs_maybe (h := (h.1, I621, J620, h.2.2.2)) h6 hH hB_I621 (v_R_ru hV_I621)  (by omega) (fun v625 I623 J624 c_v625 hB_I623 e_I623 => ?_))
                            have hV_I623 : v_R I623 := v_R_cg hV_I621 e_I623 rfl
                            have b_v625 : (0 : Int) ≤ v625.toInt ∧ v625.toInt ≤ 1 := c_v625
                            refine qm_Ru.go 0 (c' := (223, [.ref 118, .int y, .int r, .int s, .int v516, .int v517, .int v518, .int (-1), .int 1], [.int v625], (h.1, I623, J624, h.2.2.2))) rfl ?_
                            refine hk_zne (ix := v625.toInt) rfl rfl (fun z626 => ?_) (fun z626 => ?_)
                            · refine qm_Ru.go 2 (c' := (253, [.ref 118, .int y, .int r, .int s, .int v516, .int v517, .int v518, .int (-1), .int 1], [.int (-1), .int s], (h.1, I623, J624, h.2.2.2))) rfl ?_
                              refine hk_ceq (ix := s.toInt) (iy := (-1)) rfl rfl rfl (fun z627 => by exfalso; omega) (fun z627 => ?_)
                              refine qm_Ru.go 6 (c' := (273, [.ref 118, .int y, .int r, .int s, .int v516, .int v517, .int v518, .int (-1), .int 1], [.int s, .int v518, .ref 118], (h.1, I623, J624, h.2.2.2))) rfl ?_
                              refine hk_inv (o := 118) (r := []) (as := [.ref 118, .int v518, .int s]) rfl rfl (hH.1 118 (17, 105) rfl) rfl rfl rfl rfl (rp_puts (h := (h.1, I623, J624, h.2.2.2)) hH hB_I623 hV_I623 (b := v518) (s := s) (hv := v609.toInt) (by omega) (by omega) (show pI (I623) 150 (v518.toInt.toNat) = 0 from (congrArg Int32.toInt (show (I623) 150 (v518.toInt.toNat) = _ from ((e_I623 150 rfl (v518.toInt.toNat)).trans q_v622))).trans (by omega)) (congrArg Int32.toInt (show (I623) 154 (s.toInt.toNat) = _ from ((e_I623 154 rfl (s.toInt.toNat)).trans ((e_I621 154 rfl (s.toInt.toNat)).trans ((e_I619 154 rfl (s.toInt.toNat)).trans q_v609))))) (by omega) (by omega) (show ((v518.toInt.toNat : Nat) : Int) < ((I623) 118 44).toInt from by rw [(show (I623) 118 44 = _ from ((e_I623 118 rfl 44).trans ((e_I621 118 rfl 44).trans ((e_I619 118 rfl 44).trans q_v616))))]; omega) (fun I628 hB_I628 hV_I628 e_I628 p0_I628 pn_I628 pm_I628 p4_I628 => ?_))
                              obtain ⟨v629, q_v629⟩ : ∃ v, I628 150 (v518.toInt.toNat) = v := ⟨_, rfl⟩
                              have f_v629 : v629.toInt = 2 := by rw [← q_v629]; exact p0_I628
                              obtain ⟨v630, q_v630⟩ : ∃ v, I628 154 (s.toInt.toNat) = v := ⟨_, rfl⟩
                              have f_v630 : v630.toInt = v609.toInt + 1 := by rw [← q_v630]; exact p4_I628
                              refine qm_Ru.go 1 (c' := (278, [.ref 118, .int y, .int r, .int s, .int v516, .int v517, .int v518, .int (-1), .int 1], [.int 1], (h.1, I628, J624, h.2.2.2))) rfl ?_
                              refine qm_Ru.rt (v := (some (.int 1))) (h' := (h.1, I628, J624, h.2.2.2)) rfl ?_
                              exact k (some (.int 1)) (I628) (J624) ⟨_, rfl, ⟨by decide, by decide⟩⟩ hB_I628 hV_I628 (fun o ho i => ((e_I628 o (hk_ms rfl ho) i).trans ((e_I623 o (hk_ms rfl ho) i).trans ((e_I621 o (hk_ms rfl ho) i).trans ((e_I619 o (hk_ms rfl ho) i).trans rfl)))))
                            · refine qm_Ru.go 3 (c' := (231, [.ref 118, .int y, .int r, .int s, .int v516, .int v517, .int v518, .int (-1), .int 1], [.int v517, .int v518, .ref 118], (h.1, I623, J624, h.2.2.2))) rfl ?_
                              refine hk_inv (o := 118) (r := []) (as := [.ref 118, .int v518, .int v517]) rfl rfl (hH.1 118 (17, 105) rfl) rfl rfl rfl rfl (rb_boards (h := (h.1, I623, J624, h.2.2.2)) hH hB_I623 hV_I623 (b := v518) (k0 := v517) (by omega) (by omega) (show pI (I623) 150 (v518.toInt.toNat) = 0 from (congrArg Int32.toInt (show (I623) 150 (v518.toInt.toNat) = _ from ((e_I623 150 rfl (v518.toInt.toNat)).trans q_v622))).trans (by omega)) (show ((v518.toInt.toNat : Nat) : Int) < ((I623) 118 44).toInt from by rw [(show (I623) 118 44 = _ from ((e_I623 118 rfl 44).trans ((e_I621 118 rfl 44).trans ((e_I619 118 rfl 44).trans q_v616))))]; omega) (fun I631 hB_I631 hV_I631 e_I631 p0_I631 pn_I631 p1_I631 pm_I631 => ?_))
                              obtain ⟨v632, q_v632⟩ : ∃ v, I631 150 (v518.toInt.toNat) = v := ⟨_, rfl⟩
                              have f_v632 : v632.toInt = 1 := by rw [← q_v632]; exact p0_I631
                              obtain ⟨v633, q_v633⟩ : ∃ v, I631 151 (v518.toInt.toNat) = v := ⟨_, rfl⟩
                              have f_v633 : v633.toInt = v517.toInt := by rw [← q_v633]; exact (congrArg Int32.toInt p1_I631)
                              refine qm_Ru.go 4 (c' := (250, [.ref 118, .int y, .int r, .int s, .int v516, .int v517, .int v518, .int (-1), .int 1], [.int (-3)], (h.1, I631, J624, h.2.2.2))) rfl ?_
                              refine qm_Ru.rt (v := (some (.int (-3)))) (h' := (h.1, I631, J624, h.2.2.2)) rfl ?_
                              exact k (some (.int (-3))) (I631) (J624) ⟨_, rfl, ⟨by decide, by decide⟩⟩ hB_I631 hV_I631 (fun o ho i => ((e_I631 o (hk_ms rfl ho) i).trans ((e_I623 o (hk_ms rfl ho) i).trans ((e_I621 o (hk_ms rfl ho) i).trans ((e_I619 o (hk_ms rfl ho) i).trans rfl)))))
                          · refine qm_Ru.go 1 (c' := (196, [.ref 118, .int y, .int r, .int s, .int v516, .int v517, .int v518, .int (-1), .int 1], [.int (-2)], h)) rfl ?_
                            refine qm_Ru.rt (v := (some (.int (-2)))) (h' := h) rfl ?_
                            exact k (some (.int (-2))) (h.2.1) (h.2.2.1) ⟨_, rfl, ⟨by decide, by decide⟩⟩ hB hV (fun o ho i => rfl)
                        · refine qm_Ru.go 1 (c' := (156, [.ref 118, .int y, .int r, .int s, .int v516, .int v517, .int v518, .int (-1), .int 1], [.int (-1)], h)) rfl ?_
                          refine qm_Ru.rt (v := (some (.int (-1)))) (h' := h) rfl ?_
                          exact k (some (.int (-1))) (h.2.1) (h.2.2.1) ⟨_, rfl, ⟨by decide, by decide⟩⟩ hB hV (fun o ho i => rfl)
                      · refine qm_Ru.go 1 (c' := (112, [.ref 118, .int y, .int r, .int s, .int v516, .int v517, .int v518, .float 0, .float 0], [.ref 118], h)) rfl ?_
                        refine hk_getr rfl (hH.1 118 (17, 105) rfl) rfl (hH.2 118 51 (some 152) rfl) ?_
                        refine qm_Ru.go 1 (c' := (117, [.ref 118, .int y, .int r, .int s, .int v516, .int v517, .int v518, .float 0, .float 0], [.int v516, .ref 152], h)) rfl ?_
                        obtain ⟨v634, q_v634⟩ : ∃ v, h.2.1 152 (v516.toInt.toNat) = v := ⟨_, rfl⟩
                        have b_v634 : (-1 : Int) ≤ v634.toInt ∧ v634.toInt ≤ 29 := by rw [← q_v634]; exact hB 152 (v516.toInt.toNat)
                        refine hk_ial (v := v634) rfl (hH.1 152 (0, 80) rfl) (by omega) (by omega) q_v634 ?_
                        refine qm_Ru.go 4 (c' := (127, [.ref 118, .int y, .int r, .int s, .int v516, .int v517, .int v518, .int v634, .float 0], [.int (-1), .int v634], h)) rfl ?_
                        refine hk_cne (ix := v634.toInt) (iy := (-1)) rfl rfl rfl (fun z635 => ?_) (fun z635 => ?_)
                        · refine qm_Ru.go 4 (c' := (139, [.ref 118, .int y, .int r, .int s, .int v516, .int v517, .int v518, .int v634, .int 2], [.int (-1), .int s], h)) rfl ?_
                          refine hk_ceq (ix := s.toInt) (iy := (-1)) rfl rfl rfl (fun z636 => by exfalso; omega) (fun z636 => ?_)
                          refine qm_Ru.go 1 (c' := (143, [.ref 118, .int y, .int r, .int s, .int v516, .int v517, .int v518, .int v634, .int 2], [.ref 118], h)) rfl ?_
                          refine hk_getr rfl (hH.1 118 (17, 105) rfl) rfl (hH.2 118 53 (some 154) rfl) ?_
                          refine qm_Ru.go 1 (c' := (147, [.ref 118, .int y, .int r, .int s, .int v516, .int v517, .int v518, .int v634, .int 2], [.int s, .ref 154], h)) rfl ?_
                          obtain ⟨v637, q_v637⟩ : ∃ v, h.2.1 154 (s.toInt.toNat) = v := ⟨_, rfl⟩
                          have b_v637 : (0 : Int) ≤ v637.toInt ∧ v637.toInt ≤ 4 := by rw [← q_v637]; exact hB 154 (s.toInt.toNat)
                          refine hk_ial (v := v637) rfl (hH.1 154 (0, 4) rfl) (by omega) (by omega) q_v637 ?_
                          refine qm_Ru.go 2 (c' := (151, [.ref 118, .int y, .int r, .int s, .int v516, .int v517, .int v518, .int v634, .int 2], [.int (v637 + 2)], h)) rfl ?_
                          obtain ⟨v638, q_v638, e_v638⟩ := hk_add (x := v637) (y := 2) (a := v637.toInt) (b := 2) rfl rfl (by omega) (by omega)
                          rw [q_v638]
                          refine qm_Ru.go 1 (c' := (152, [.ref 118, .int y, .int r, .int s, .int v516, .int v517, .int v518, .int v634, .int 2], [.int 4, .int v638], h)) rfl ?_
                          refine hk_cle (ix := v638.toInt) (iy := 4) rfl rfl rfl (fun z639 => ?_) (fun z639 => ?_)
                          · refine qm_Ru.go 1 (c' := (158, [.ref 118, .int y, .int r, .int s, .int v516, .int v517, .int v518, .int v634, .int 2], [.ref 118], h)) rfl ?_
                            refine hk_getr rfl (hH.1 118 (17, 105) rfl) rfl (hH.2 118 45 (some 146) rfl) ?_
                            refine qm_Ru.go 1 (c' := (163, [.ref 118, .int y, .int r, .int s, .int v516, .int v517, .int v518, .int v634, .int 2], [.int v518, .ref 146], h)) rfl ?_
                            obtain ⟨v640, q_v640⟩ : ∃ v, h.2.1 146 (v518.toInt.toNat) = v := ⟨_, rfl⟩
                            have b_v640 : (0 : Int) ≤ v640.toInt ∧ v640.toInt ≤ 40 := by rw [← q_v640]; exact hB 146 (v518.toInt.toNat)
                            refine hk_ial (v := v640) rfl (hH.1 146 (0, 30) rfl) (by omega) (by omega) q_v640 ?_
                            refine qm_Ru.go 2 (c' := (167, [.ref 118, .int y, .int r, .int s, .int v516, .int v517, .int v518, .int v634, .int 2], [.int (-1), .int v634, .int v640], h)) rfl ?_
                            refine hk_cne (ix := v634.toInt) (iy := (-1)) rfl rfl rfl (fun z641 => ?_) (fun z641 => by exfalso; omega)
                            refine qm_Ru.go 1 (c' := (175, [.ref 118, .int y, .int r, .int s, .int v516, .int v517, .int v518, .int v634, .int 2], [.ref 118, .int v640], h)) rfl ?_
                            refine hk_getr rfl (hH.1 118 (17, 105) rfl) rfl (hH.2 118 45 (some 146) rfl) ?_
                            refine qm_Ru.go 1 (c' := (180, [.ref 118, .int y, .int r, .int s, .int v516, .int v517, .int v518, .int v634, .int 2], [.int v634, .ref 146, .int v640], h)) rfl ?_
                            obtain ⟨v642, q_v642⟩ : ∃ v, h.2.1 146 (v634.toInt.toNat) = v := ⟨_, rfl⟩
                            have b_v642 : (0 : Int) ≤ v642.toInt ∧ v642.toInt ≤ 40 := by rw [← q_v642]; exact hB 146 (v634.toInt.toNat)
                            refine hk_ial (v := v642) rfl (hH.1 146 (0, 30) rfl) (by omega) (by omega) q_v642 ?_
                            refine qm_Ru.go 1 (c' := (182, [.ref 118, .int y, .int r, .int s, .int v516, .int v517, .int v518, .int v634, .int 2], [.int (v640 + v642)], h)) rfl ?_
                            obtain ⟨v643, q_v643, e_v643⟩ := hk_add (x := v640) (y := v642) (a := v640.toInt) (b := v642.toInt) rfl rfl (by omega) (by omega)
                            rw [q_v643]
                            refine qm_Ru.go 1 (c' := (183, [.ref 118, .int y, .int r, .int s, .int v516, .int v517, .int v518, .int v634, .int 2], [.ref 118, .int v643], h)) rfl ?_
                            refine hk_getr rfl (hH.1 118 (17, 105) rfl) rfl (hH.2 118 24 (some 129) rfl) ?_
                            refine qm_Ru.go 1 (c' := (187, [.ref 118, .int y, .int r, .int s, .int v516, .int v517, .int v518, .int v634, .int 2], [.ref 118, .ref 129, .int v643], h)) rfl ?_
                            refine hk_geti (v := v1) rfl (hH.1 118 (17, 105) rfl) rfl q_v1 ?_
                            refine qm_Ru.go 0 (c' := (190, [.ref 118, .int y, .int r, .int s, .int v516, .int v517, .int v518, .int v634, .int 2], [.int v1, .ref 129, .int v643], h)) rfl ?_
                            obtain ⟨v644, q_v644⟩ : ∃ v, h.2.1 129 (v1.toInt.toNat) = v := ⟨_, rfl⟩
                            refine hk_ial (v := v644) rfl (hH.1 129 (0, 2) rfl) (by omega) (by omega) q_v644 ?_
                            refine qm_Ru.go 0 (c' := (191, [.ref 118, .int y, .int r, .int s, .int v516, .int v517, .int v518, .int v634, .int 2], [.int v644, .int v643], h)) rfl ?_
                            refine hk_cle (ix := v643.toInt) (iy := v644.toInt) rfl rfl rfl (fun z645 => ?_) (fun z645 => ?_)
                            · refine qm_Ru.go 0 (c' := (197, [.ref 118, .int y, .int r, .int s, .int v516, .int v517, .int v518, .int v634, .int 2], [], h)) rfl ?_
                              have a_v518 := ra_of hV.1 (by omega) q_v518 (by omega)
                              have a_v634 := ra_of hV.1 (by omega) q_v634 (by omega)
                              have n_v634 : v634.toInt ≠ v518.toInt := fun e => by have e2 : v634 = v518 := hk_eqi.mpr e; subst e2; omega
                              obtain ⟨v646, q_v646⟩ : ∃ v, h.2.1 118 44 = v := ⟨_, rfl⟩
                              have b_v646 : (0 : Int) ≤ v646.toInt ∧ v646.toInt ≤ 30 := by rw [← q_v646]; exact hB 118 44
                              have l_v518 : ((v518.toInt.toNat : Nat) : Int) < v646.toInt := by rw [← q_v646]; exact hV.1.2.2.2 (v518.toInt.toNat) (by show (h.2.1 150 (v518.toInt.toNat)).toInt ≠ 0; omega)
                              obtain ⟨v647, q_v647⟩ : ∃ v, h.2.1 150 (v518.toInt.toNat) = v := ⟨_, rfl⟩
                              have b_v647 : (0 : Int) ≤ v647.toInt ∧ v647.toInt ≤ 2 := by rw [← q_v647]; exact hB 150 (v518.toInt.toNat)
                              obtain ⟨v648, q_v648⟩ : ∃ v, h.2.1 151 (v518.toInt.toNat) = v := ⟨_, rfl⟩
                              have b_v648 : (0 : Int) ≤ v648.toInt ∧ v648.toInt ≤ 79 := by rw [← q_v648]; exact hB 151 (v518.toInt.toNat)
                              rw [q_v647, q_v648] at a_v518
                              have l_v634 : ((v634.toInt.toNat : Nat) : Int) < v646.toInt := by rw [← q_v646]; exact hV.1.2.2.2 (v634.toInt.toNat) (by show (h.2.1 150 (v634.toInt.toNat)).toInt ≠ 0; omega)
                              obtain ⟨v649, q_v649⟩ : ∃ v, h.2.1 150 (v634.toInt.toNat) = v := ⟨_, rfl⟩
                              have b_v649 : (0 : Int) ≤ v649.toInt ∧ v649.toInt ≤ 2 := by rw [← q_v649]; exact hB 150 (v634.toInt.toNat)
                              obtain ⟨v650, q_v650⟩ : ∃ v, h.2.1 151 (v634.toInt.toNat) = v := ⟨_, rfl⟩
                              have b_v650 : (0 : Int) ≤ v650.toInt ∧ v650.toInt ≤ 79 := by rw [← q_v650]; exact hB 151 (v634.toInt.toNat)
                              rw [q_v649, q_v650] at a_v634
                              refine qm_Ru.go 1 (c' := (198, [.ref 118, .int y, .int r, .int s, .int v516, .int v517, .int v518, .int v634, .int 2], [.ref 118], h)) rfl ?_
                              refine hk_inv (o := 118) (r := []) (as := [.ref 118]) rfl rfl (hH.1 118 (17, 105) rfl) rfl rfl rfl rfl (hs_looks (h := h) h6 hH hB (v_R_ru hV)  (by omega) (fun I651 J652 hB_I651 e_I651 => ?_))
                              have hV_I651 : v_R I651 := v_R_cg hV e_I651 rfl
                              refine qm_Ru.go 2 (c' := (204, [.ref 118, .int y, .int r, .int s, .int v516, .int v517, .int v518, .int v634, .int 2], [.int v518, .ref 118], (h.1, I651, J652, h.2.2.2))) rfl ?_
                              refine hk_inv (o := 118) (r := []) (as := [.ref 118, .int v518]) rfl rfl (hH.1 118 (17, 105) rfl) rfl rfl rfl rfl (rl_away (h := (h.1, I651, J652, h.2.2.2)) hH hB_I651 hV_I651 (b := v518) (by omega) (show pI (I651) 150 (v518.toInt.toNat) = 1 from (congrArg Int32.toInt (show (I651) 150 (v518.toInt.toNat) = _ from ((e_I651 150 rfl (v518.toInt.toNat)).trans q_v647))).trans (by omega)) (fun I653 hB_I653 hV_I653 e_I653 p0_I653 pn_I653 => ?_))
                              obtain ⟨v654, q_v654⟩ : ∃ v, I653 150 (v518.toInt.toNat) = v := ⟨_, rfl⟩
                              have f_v654 : v654.toInt = 0 := by rw [← q_v654]; exact p0_I653
                              refine qm_Ru.go 2 (c' := (210, [.ref 118, .int y, .int r, .int s, .int v516, .int v517, .int v518, .int v634, .int 2], [.int (-1), .int v634], (h.1, I653, J652, h.2.2.2))) rfl ?_
                              refine hk_ceq (ix := v634.toInt) (iy := (-1)) rfl rfl rfl (fun z655 => by exfalso; omega) (fun z655 => ?_)
                              refine qm_Ru.go 2 (c' := (216, [.ref 118, .int y, .int r, .int s, .int v516, .int v517, .int v518, .int v634, .int 2], [.int v634, .ref 118], (h.1, I653, J652, h.2.2.2))) rfl ?_
                              refine hk_inv (o := 118) (r := []) (as := [.ref 118, .int v634]) rfl rfl (hH.1 118 (17, 105) rfl) rfl rfl rfl rfl (rl_away (h := (h.1, I653, J652, h.2.2.2)) hH hB_I653 hV_I653 (b := v634) (by omega) (show pI (I653) 150 (v634.toInt.toNat) = 1 from (congrArg Int32.toInt (show (I653) 150 (v634.toInt.toNat) = _ from ((pn_I653 (v634.toInt.toNat) (by omega)).trans ((e_I651 150 rfl (v634.toInt.toNat)).trans q_v649)))).trans (by omega)) (fun I656 hB_I656 hV_I656 e_I656 p0_I656 pn_I656 => ?_))
                              obtain ⟨v657, q_v657⟩ : ∃ v, I656 150 (v634.toInt.toNat) = v := ⟨_, rfl⟩
                              have f_v657 : v657.toInt = 0 := by rw [← q_v657]; exact p0_I656
                              refine qm_Ru.go 1 (c' := (220, [.ref 118, .int y, .int r, .int s, .int v516, .int v517, .int v518, .int v634, .int 2], [.ref 118], (h.1, I656, J652, h.2.2.2))) rfl ?_
                              refine hk_inv (o := 118) (r := []) (as := [.ref 118]) rfl rfl (hH.1 118 (17, 105) rfl) rfl rfl rfl rfl (hs_maybe (h := (h.1, I656, J652, h.2.2.2)) h6 hH hB_I656 (v_R_ru hV_I656)  (by omega) (fun v660 I658 J659 c_v660 hB_I658 e_I658 => ?_))
                              have hV_I658 : v_R I658 := v_R_cg hV_I656 e_I658 rfl
                              have b_v660 : (0 : Int) ≤ v660.toInt ∧ v660.toInt ≤ 1 := c_v660
                              refine qm_Ru.go 0 (c' := (223, [.ref 118, .int y, .int r, .int s, .int v516, .int v517, .int v518, .int v634, .int 2], [.int v660], (h.1, I658, J659, h.2.2.2))) rfl ?_
                              refine hk_zne (ix := v660.toInt) rfl rfl (fun z661 => ?_) (fun z661 => ?_)
                              · refine qm_Ru.go 2 (c' := (253, [.ref 118, .int y, .int r, .int s, .int v516, .int v517, .int v518, .int v634, .int 2], [.int (-1), .int s], (h.1, I658, J659, h.2.2.2))) rfl ?_
                                refine hk_ceq (ix := s.toInt) (iy := (-1)) rfl rfl rfl (fun z662 => by exfalso; omega) (fun z662 => ?_)
                                refine qm_Ru.go 2 (c' := (259, [.ref 118, .int y, .int r, .int s, .int v516, .int v517, .int v518, .int v634, .int 2], [.int (-1), .int v634], (h.1, I658, J659, h.2.2.2))) rfl ?_
                                refine hk_ceq (ix := v634.toInt) (iy := (-1)) rfl rfl rfl (fun z663 => by exfalso; omega) (fun z663 => ?_)
                                refine qm_Ru.go 3 (c' := (266, [.ref 118, .int y, .int r, .int s, .int v516, .int v517, .int v518, .int v634, .int 2], [.int s, .int v634, .ref 118], (h.1, I658, J659, h.2.2.2))) rfl ?_
                                refine hk_inv (o := 118) (r := []) (as := [.ref 118, .int v634, .int s]) rfl rfl (hH.1 118 (17, 105) rfl) rfl rfl rfl rfl (rp_puts (h := (h.1, I658, J659, h.2.2.2)) hH hB_I658 hV_I658 (b := v634) (s := s) (hv := v637.toInt) (by omega) (by omega) (show pI (I658) 150 (v634.toInt.toNat) = 0 from (congrArg Int32.toInt (show (I658) 150 (v634.toInt.toNat) = _ from ((e_I658 150 rfl (v634.toInt.toNat)).trans q_v657))).trans (by omega)) (congrArg Int32.toInt (show (I658) 154 (s.toInt.toNat) = _ from ((e_I658 154 rfl (s.toInt.toNat)).trans ((e_I656 154 rfl (s.toInt.toNat)).trans ((e_I653 154 rfl (s.toInt.toNat)).trans ((e_I651 154 rfl (s.toInt.toNat)).trans q_v637)))))) (by omega) (by omega) (show ((v634.toInt.toNat : Nat) : Int) < ((I658) 118 44).toInt from by rw [(show (I658) 118 44 = _ from ((e_I658 118 rfl 44).trans ((e_I656 118 rfl 44).trans ((e_I653 118 rfl 44).trans ((e_I651 118 rfl 44).trans q_v646)))))]; omega) (fun I664 hB_I664 hV_I664 e_I664 p0_I664 pn_I664 pm_I664 p4_I664 => ?_))
                                obtain ⟨v665, q_v665⟩ : ∃ v, I664 150 (v634.toInt.toNat) = v := ⟨_, rfl⟩
                                have f_v665 : v665.toInt = 2 := by rw [← q_v665]; exact p0_I664
                                obtain ⟨v666, q_v666⟩ : ∃ v, I664 154 (s.toInt.toNat) = v := ⟨_, rfl⟩
                                have f_v666 : v666.toInt = v637.toInt + 1 := by rw [← q_v666]; exact p4_I664
                                refine qm_Ru.go 3 (c' := (273, [.ref 118, .int y, .int r, .int s, .int v516, .int v517, .int v518, .int v634, .int 2], [.int s, .int v518, .ref 118], (h.1, I664, J659, h.2.2.2))) rfl ?_
                                refine hk_inv (o := 118) (r := []) (as := [.ref 118, .int v518, .int s]) rfl rfl (hH.1 118 (17, 105) rfl) rfl rfl rfl rfl (rp_puts (h := (h.1, I664, J659, h.2.2.2)) hH hB_I664 hV_I664 (b := v518) (s := s) (hv := v666.toInt) (by omega) (by omega) (show pI (I664) 150 (v518.toInt.toNat) = 0 from (congrArg Int32.toInt (show (I664) 150 (v518.toInt.toNat) = _ from ((pn_I664 (v518.toInt.toNat) (by omega)).trans ((e_I658 150 rfl (v518.toInt.toNat)).trans ((pn_I656 (v518.toInt.toNat) (by omega)).trans q_v654))))).trans (by omega)) (congrArg Int32.toInt q_v666) (by omega) (by omega) (show ((v518.toInt.toNat : Nat) : Int) < ((I664) 118 44).toInt from by rw [(show (I664) 118 44 = _ from ((e_I664 118 rfl 44).trans ((e_I658 118 rfl 44).trans ((e_I656 118 rfl 44).trans ((e_I653 118 rfl 44).trans ((e_I651 118 rfl 44).trans q_v646))))))]; omega) (fun I667 hB_I667 hV_I667 e_I667 p0_I667 pn_I667 pm_I667 p4_I667 => ?_))
                                obtain ⟨v668, q_v668⟩ : ∃ v, I667 150 (v518.toInt.toNat) = v := ⟨_, rfl⟩
                                have f_v668 : v668.toInt = 2 := by rw [← q_v668]; exact p0_I667
                                obtain ⟨v669, q_v669⟩ : ∃ v, I667 154 (s.toInt.toNat) = v := ⟨_, rfl⟩
                                have f_v669 : v669.toInt = v666.toInt + 1 := by rw [← q_v669]; exact p4_I667
                                refine qm_Ru.go 1 (c' := (278, [.ref 118, .int y, .int r, .int s, .int v516, .int v517, .int v518, .int v634, .int 2], [.int 2], (h.1, I667, J659, h.2.2.2))) rfl ?_
                                refine qm_Ru.rt (v := (some (.int 2))) (h' := (h.1, I667, J659, h.2.2.2)) rfl ?_
                                exact k (some (.int 2)) (I667) (J659) ⟨_, rfl, ⟨by decide, by decide⟩⟩ hB_I667 hV_I667 (fun o ho i => ((e_I667 o (hk_ms rfl ho) i).trans ((e_I664 o (hk_ms rfl ho) i).trans ((e_I658 o (hk_ms rfl ho) i).trans ((e_I656 o (hk_ms rfl ho) i).trans ((e_I653 o (hk_ms rfl ho) i).trans ((e_I651 o (hk_ms rfl ho) i).trans rfl)))))))
                              · refine qm_Ru.go 3 (c' := (231, [.ref 118, .int y, .int r, .int s, .int v516, .int v517, .int v518, .int v634, .int 2], [.int v517, .int v518, .ref 118], (h.1, I658, J659, h.2.2.2))) rfl ?_
                                refine hk_inv (o := 118) (r := []) (as := [.ref 118, .int v518, .int v517]) rfl rfl (hH.1 118 (17, 105) rfl) rfl rfl rfl rfl (rb_boards (h := (h.1, I658, J659, h.2.2.2)) hH hB_I658 hV_I658 (b := v518) (k0 := v517) (by omega) (by omega) (show pI (I658) 150 (v518.toInt.toNat) = 0 from (congrArg Int32.toInt (show (I658) 150 (v518.toInt.toNat) = _ from ((e_I658 150 rfl (v518.toInt.toNat)).trans ((pn_I656 (v518.toInt.toNat) (by omega)).trans q_v654)))).trans (by omega)) (show ((v518.toInt.toNat : Nat) : Int) < ((I658) 118 44).toInt from by rw [(show (I658) 118 44 = _ from ((e_I658 118 rfl 44).trans ((e_I656 118 rfl 44).trans ((e_I653 118 rfl 44).trans ((e_I651 118 rfl 44).trans q_v646)))))]; omega) (fun I670 hB_I670 hV_I670 e_I670 p0_I670 pn_I670 p1_I670 pm_I670 => ?_))
                                obtain ⟨v671, q_v671⟩ : ∃ v, I670 150 (v518.toInt.toNat) = v := ⟨_, rfl⟩
                                have f_v671 : v671.toInt = 1 := by rw [← q_v671]; exact p0_I670
                                obtain ⟨v672, q_v672⟩ : ∃ v, I670 151 (v518.toInt.toNat) = v := ⟨_, rfl⟩
                                have f_v672 : v672.toInt = v517.toInt := by rw [← q_v672]; exact (congrArg Int32.toInt p1_I670)
                                refine qm_Ru.go 2 (c' := (237, [.ref 118, .int y, .int r, .int s, .int v516, .int v517, .int v518, .int v634, .int 2], [.int (-1), .int v634], (h.1, I670, J659, h.2.2.2))) rfl ?_
                                refine hk_ceq (ix := v634.toInt) (iy := (-1)) rfl rfl rfl (fun z673 => by exfalso; omega) (fun z673 => ?_)
                                refine qm_Ru.go 3 (c' := (245, [.ref 118, .int y, .int r, .int s, .int v516, .int v517, .int v518, .int v634, .int 2], [.int v516, .int v634, .ref 118], (h.1, I670, J659, h.2.2.2))) rfl ?_
                                refine hk_inv (o := 118) (r := []) (as := [.ref 118, .int v634, .int v516]) rfl rfl (hH.1 118 (17, 105) rfl) rfl rfl rfl rfl (rb_boards (h := (h.1, I670, J659, h.2.2.2)) hH hB_I670 hV_I670 (b := v634) (k0 := v516) (by omega) (by omega) (show pI (I670) 150 (v634.toInt.toNat) = 0 from (congrArg Int32.toInt (show (I670) 150 (v634.toInt.toNat) = _ from ((pn_I670 (v634.toInt.toNat) (by omega)).trans ((e_I658 150 rfl (v634.toInt.toNat)).trans q_v657)))).trans (by omega)) (show ((v634.toInt.toNat : Nat) : Int) < ((I670) 118 44).toInt from by rw [(show (I670) 118 44 = _ from ((e_I670 118 rfl 44).trans ((e_I658 118 rfl 44).trans ((e_I656 118 rfl 44).trans ((e_I653 118 rfl 44).trans ((e_I651 118 rfl 44).trans q_v646))))))]; omega) (fun I674 hB_I674 hV_I674 e_I674 p0_I674 pn_I674 p1_I674 pm_I674 => ?_))
                                obtain ⟨v675, q_v675⟩ : ∃ v, I674 150 (v634.toInt.toNat) = v := ⟨_, rfl⟩
                                have f_v675 : v675.toInt = 1 := by rw [← q_v675]; exact p0_I674
                                obtain ⟨v676, q_v676⟩ : ∃ v, I674 151 (v634.toInt.toNat) = v := ⟨_, rfl⟩
                                have f_v676 : v676.toInt = v516.toInt := by rw [← q_v676]; exact (congrArg Int32.toInt p1_I674)
                                refine qm_Ru.go 1 (c' := (250, [.ref 118, .int y, .int r, .int s, .int v516, .int v517, .int v518, .int v634, .int 2], [.int (-3)], (h.1, I674, J659, h.2.2.2))) rfl ?_
                                refine qm_Ru.rt (v := (some (.int (-3)))) (h' := (h.1, I674, J659, h.2.2.2)) rfl ?_
                                exact k (some (.int (-3))) (I674) (J659) ⟨_, rfl, ⟨by decide, by decide⟩⟩ hB_I674 hV_I674 (fun o ho i => ((e_I674 o (hk_ms rfl ho) i).trans ((e_I670 o (hk_ms rfl ho) i).trans ((e_I658 o (hk_ms rfl ho) i).trans ((e_I656 o (hk_ms rfl ho) i).trans ((e_I653 o (hk_ms rfl ho) i).trans ((e_I651 o (hk_ms rfl ho) i).trans rfl)))))))
                            · refine qm_Ru.go 1 (c' := (196, [.ref 118, .int y, .int r, .int s, .int v516, .int v517, .int v518, .int v634, .int 2], [.int (-2)], h)) rfl ?_
                              refine qm_Ru.rt (v := (some (.int (-2)))) (h' := h) rfl ?_
                              exact k (some (.int (-2))) (h.2.1) (h.2.2.1) ⟨_, rfl, ⟨by decide, by decide⟩⟩ hB hV (fun o ho i => rfl)
                          · refine qm_Ru.go 1 (c' := (156, [.ref 118, .int y, .int r, .int s, .int v516, .int v517, .int v518, .int v634, .int 2], [.int (-1)], h)) rfl ?_
                            refine qm_Ru.rt (v := (some (.int (-1)))) (h' := h) rfl ?_
                            exact k (some (.int (-1))) (h.2.1) (h.2.2.1) ⟨_, rfl, ⟨by decide, by decide⟩⟩ hB hV (fun o ho i => rfl)
                        · refine qm_Ru.go 5 (c' := (139, [.ref 118, .int y, .int r, .int s, .int v516, .int v517, .int v518, .int v634, .int 1], [.int (-1), .int s], h)) rfl ?_
                          refine hk_ceq (ix := s.toInt) (iy := (-1)) rfl rfl rfl (fun z677 => by exfalso; omega) (fun z677 => ?_)
                          refine qm_Ru.go 1 (c' := (143, [.ref 118, .int y, .int r, .int s, .int v516, .int v517, .int v518, .int v634, .int 1], [.ref 118], h)) rfl ?_
                          refine hk_getr rfl (hH.1 118 (17, 105) rfl) rfl (hH.2 118 53 (some 154) rfl) ?_
                          refine qm_Ru.go 1 (c' := (147, [.ref 118, .int y, .int r, .int s, .int v516, .int v517, .int v518, .int v634, .int 1], [.int s, .ref 154], h)) rfl ?_
                          obtain ⟨v678, q_v678⟩ : ∃ v, h.2.1 154 (s.toInt.toNat) = v := ⟨_, rfl⟩
                          have b_v678 : (0 : Int) ≤ v678.toInt ∧ v678.toInt ≤ 4 := by rw [← q_v678]; exact hB 154 (s.toInt.toNat)
                          refine hk_ial (v := v678) rfl (hH.1 154 (0, 4) rfl) (by omega) (by omega) q_v678 ?_
                          refine qm_Ru.go 2 (c' := (151, [.ref 118, .int y, .int r, .int s, .int v516, .int v517, .int v518, .int v634, .int 1], [.int (v678 + 1)], h)) rfl ?_
                          obtain ⟨v679, q_v679, e_v679⟩ := hk_add (x := v678) (y := 1) (a := v678.toInt) (b := 1) rfl rfl (by omega) (by omega)
                          rw [q_v679]
                          refine qm_Ru.go 1 (c' := (152, [.ref 118, .int y, .int r, .int s, .int v516, .int v517, .int v518, .int v634, .int 1], [.int 4, .int v679], h)) rfl ?_
                          refine hk_cle (ix := v679.toInt) (iy := 4) rfl rfl rfl (fun z680 => ?_) (fun z680 => ?_)
                          · refine qm_Ru.go 1 (c' := (158, [.ref 118, .int y, .int r, .int s, .int v516, .int v517, .int v518, .int v634, .int 1], [.ref 118], h)) rfl ?_
                            refine hk_getr rfl (hH.1 118 (17, 105) rfl) rfl (hH.2 118 45 (some 146) rfl) ?_
                            refine qm_Ru.go 1 (c' := (163, [.ref 118, .int y, .int r, .int s, .int v516, .int v517, .int v518, .int v634, .int 1], [.int v518, .ref 146], h)) rfl ?_
                            obtain ⟨v681, q_v681⟩ : ∃ v, h.2.1 146 (v518.toInt.toNat) = v := ⟨_, rfl⟩
                            have b_v681 : (0 : Int) ≤ v681.toInt ∧ v681.toInt ≤ 40 := by rw [← q_v681]; exact hB 146 (v518.toInt.toNat)
                            refine hk_ial (v := v681) rfl (hH.1 146 (0, 30) rfl) (by omega) (by omega) q_v681 ?_
                            refine qm_Ru.go 2 (c' := (167, [.ref 118, .int y, .int r, .int s, .int v516, .int v517, .int v518, .int v634, .int 1], [.int (-1), .int v634, .int v681], h)) rfl ?_
                            refine hk_cne (ix := v634.toInt) (iy := (-1)) rfl rfl rfl (fun z682 => by exfalso; omega) (fun z682 => ?_)
                            refine qm_Ru.go 3 (c' := (182, [.ref 118, .int y, .int r, .int s, .int v516, .int v517, .int v518, .int v634, .int 1], [.int (v681 + 0)], h)) rfl ?_
                            obtain ⟨v683, q_v683, e_v683⟩ := hk_add (x := v681) (y := 0) (a := v681.toInt) (b := 0) rfl rfl (by omega) (by omega)
                            rw [q_v683]
                            refine qm_Ru.go 1 (c' := (183, [.ref 118, .int y, .int r, .int s, .int v516, .int v517, .int v518, .int v634, .int 1], [.ref 118, .int v683], h)) rfl ?_
                            refine hk_getr rfl (hH.1 118 (17, 105) rfl) rfl (hH.2 118 24 (some 129) rfl) ?_
                            refine qm_Ru.go 1 (c' := (187, [.ref 118, .int y, .int r, .int s, .int v516, .int v517, .int v518, .int v634, .int 1], [.ref 118, .ref 129, .int v683], h)) rfl ?_
                            refine hk_geti (v := v1) rfl (hH.1 118 (17, 105) rfl) rfl q_v1 ?_
                            refine qm_Ru.go 0 (c' := (190, [.ref 118, .int y, .int r, .int s, .int v516, .int v517, .int v518, .int v634, .int 1], [.int v1, .ref 129, .int v683], h)) rfl ?_
                            obtain ⟨v684, q_v684⟩ : ∃ v, h.2.1 129 (v1.toInt.toNat) = v := ⟨_, rfl⟩
                            refine hk_ial (v := v684) rfl (hH.1 129 (0, 2) rfl) (by omega) (by omega) q_v684 ?_
                            refine qm_Ru.go 0 (c' := (191, [.ref 118, .int y, .int r, .int s, .int v516, .int v517, .int v518, .int v634, .int 1], [.int v684, .int v683], h)) rfl ?_
                            refine hk_cle (ix := v683.toInt) (iy := v684.toInt) rfl rfl rfl (fun z685 => ?_) (fun z685 => ?_)
                            · refine qm_Ru.go 0 (c' := (197, [.ref 118, .int y, .int r, .int s, .int v516, .int v517, .int v518, .int v634, .int 1], [], h)) rfl ?_
                              have a_v518 := ra_of hV.1 (by omega) q_v518 (by omega)
                              obtain ⟨v686, q_v686⟩ : ∃ v, h.2.1 118 44 = v := ⟨_, rfl⟩
                              have b_v686 : (0 : Int) ≤ v686.toInt ∧ v686.toInt ≤ 30 := by rw [← q_v686]; exact hB 118 44
                              have l_v518 : ((v518.toInt.toNat : Nat) : Int) < v686.toInt := by rw [← q_v686]; exact hV.1.2.2.2 (v518.toInt.toNat) (by show (h.2.1 150 (v518.toInt.toNat)).toInt ≠ 0; omega)
                              obtain ⟨v687, q_v687⟩ : ∃ v, h.2.1 150 (v518.toInt.toNat) = v := ⟨_, rfl⟩
                              have b_v687 : (0 : Int) ≤ v687.toInt ∧ v687.toInt ≤ 2 := by rw [← q_v687]; exact hB 150 (v518.toInt.toNat)
                              obtain ⟨v688, q_v688⟩ : ∃ v, h.2.1 151 (v518.toInt.toNat) = v := ⟨_, rfl⟩
                              have b_v688 : (0 : Int) ≤ v688.toInt ∧ v688.toInt ≤ 79 := by rw [← q_v688]; exact hB 151 (v518.toInt.toNat)
                              rw [q_v687, q_v688] at a_v518
                              refine qm_Ru.go 1 (c' := (198, [.ref 118, .int y, .int r, .int s, .int v516, .int v517, .int v518, .int v634, .int 1], [.ref 118], h)) rfl ?_
                              refine hk_inv (o := 118) (r := []) (as := [.ref 118]) rfl rfl (hH.1 118 (17, 105) rfl) rfl rfl rfl rfl (hs_looks (h := h) h6 hH hB (v_R_ru hV)  (by omega) (fun I689 J690 hB_I689 e_I689 => ?_))
                              have hV_I689 : v_R I689 := v_R_cg hV e_I689 rfl
                              refine qm_Ru.go 2 (c' := (204, [.ref 118, .int y, .int r, .int s, .int v516, .int v517, .int v518, .int v634, .int 1], [.int v518, .ref 118], (h.1, I689, J690, h.2.2.2))) rfl ?_
                              refine hk_inv (o := 118) (r := []) (as := [.ref 118, .int v518]) rfl rfl (hH.1 118 (17, 105) rfl) rfl rfl rfl rfl (rl_away (h := (h.1, I689, J690, h.2.2.2)) hH hB_I689 hV_I689 (b := v518) (by omega) (show pI (I689) 150 (v518.toInt.toNat) = 1 from (congrArg Int32.toInt (show (I689) 150 (v518.toInt.toNat) = _ from ((e_I689 150 rfl (v518.toInt.toNat)).trans q_v687))).trans (by omega)) (fun I691 hB_I691 hV_I691 e_I691 p0_I691 pn_I691 => ?_))
                              obtain ⟨v692, q_v692⟩ : ∃ v, I691 150 (v518.toInt.toNat) = v := ⟨_, rfl⟩
                              have f_v692 : v692.toInt = 0 := by rw [← q_v692]; exact p0_I691
                              refine qm_Ru.go 2 (c' := (210, [.ref 118, .int y, .int r, .int s, .int v516, .int v517, .int v518, .int v634, .int 1], [.int (-1), .int v634], (h.1, I691, J690, h.2.2.2))) rfl ?_
                              refine hk_ceq (ix := v634.toInt) (iy := (-1)) rfl rfl rfl (fun z693 => ?_) (fun z693 => by exfalso; omega)
                              refine qm_Ru.go 1 (c' := (220, [.ref 118, .int y, .int r, .int s, .int v516, .int v517, .int v518, .int v634, .int 1], [.ref 118], (h.1, I691, J690, h.2.2.2))) rfl ?_
                              refine hk_inv (o := 118) (r := []) (as := [.ref 118]) rfl rfl (hH.1 118 (17, 105) rfl) rfl rfl rfl rfl (hs_maybe (h := (h.1, I691, J690, h.2.2.2)) h6 hH hB_I691 (v_R_ru hV_I691)  (by omega) (fun v696 I694 J695 c_v696 hB_I694 e_I694 => ?_))
                              have hV_I694 : v_R I694 := v_R_cg hV_I691 e_I694 rfl
                              have b_v696 : (0 : Int) ≤ v696.toInt ∧ v696.toInt ≤ 1 := c_v696
                              refine qm_Ru.go 0 (c' := (223, [.ref 118, .int y, .int r, .int s, .int v516, .int v517, .int v518, .int v634, .int 1], [.int v696], (h.1, I694, J695, h.2.2.2))) rfl ?_
                              refine hk_zne (ix := v696.toInt) rfl rfl (fun z697 => ?_) (fun z697 => ?_)
                              · refine qm_Ru.go 2 (c' := (253, [.ref 118, .int y, .int r, .int s, .int v516, .int v517, .int v518, .int v634, .int 1], [.int (-1), .int s], (h.1, I694, J695, h.2.2.2))) rfl ?_
                                refine hk_ceq (ix := s.toInt) (iy := (-1)) rfl rfl rfl (fun z698 => by exfalso; omega) (fun z698 => ?_)
                                refine qm_Ru.go 2 (c' := (259, [.ref 118, .int y, .int r, .int s, .int v516, .int v517, .int v518, .int v634, .int 1], [.int (-1), .int v634], (h.1, I694, J695, h.2.2.2))) rfl ?_
                                refine hk_ceq (ix := v634.toInt) (iy := (-1)) rfl rfl rfl (fun z699 => ?_) (fun z699 => by exfalso; omega)
                                refine qm_Ru.go 3 (c' := (273, [.ref 118, .int y, .int r, .int s, .int v516, .int v517, .int v518, .int v634, .int 1], [.int s, .int v518, .ref 118], (h.1, I694, J695, h.2.2.2))) rfl ?_
                                refine hk_inv (o := 118) (r := []) (as := [.ref 118, .int v518, .int s]) rfl rfl (hH.1 118 (17, 105) rfl) rfl rfl rfl rfl (rp_puts (h := (h.1, I694, J695, h.2.2.2)) hH hB_I694 hV_I694 (b := v518) (s := s) (hv := v678.toInt) (by omega) (by omega) (show pI (I694) 150 (v518.toInt.toNat) = 0 from (congrArg Int32.toInt (show (I694) 150 (v518.toInt.toNat) = _ from ((e_I694 150 rfl (v518.toInt.toNat)).trans q_v692))).trans (by omega)) (congrArg Int32.toInt (show (I694) 154 (s.toInt.toNat) = _ from ((e_I694 154 rfl (s.toInt.toNat)).trans ((e_I691 154 rfl (s.toInt.toNat)).trans ((e_I689 154 rfl (s.toInt.toNat)).trans q_v678))))) (by omega) (by omega) (show ((v518.toInt.toNat : Nat) : Int) < ((I694) 118 44).toInt from by rw [(show (I694) 118 44 = _ from ((e_I694 118 rfl 44).trans ((e_I691 118 rfl 44).trans ((e_I689 118 rfl 44).trans q_v686))))]; omega) (fun I700 hB_I700 hV_I700 e_I700 p0_I700 pn_I700 pm_I700 p4_I700 => ?_))
                                obtain ⟨v701, q_v701⟩ : ∃ v, I700 150 (v518.toInt.toNat) = v := ⟨_, rfl⟩
                                have f_v701 : v701.toInt = 2 := by rw [← q_v701]; exact p0_I700
                                obtain ⟨v702, q_v702⟩ : ∃ v, I700 154 (s.toInt.toNat) = v := ⟨_, rfl⟩
                                have f_v702 : v702.toInt = v678.toInt + 1 := by rw [← q_v702]; exact p4_I700
                                refine qm_Ru.go 1 (c' := (278, [.ref 118, .int y, .int r, .int s, .int v516, .int v517, .int v518, .int v634, .int 1], [.int 1], (h.1, I700, J695, h.2.2.2))) rfl ?_
                                refine qm_Ru.rt (v := (some (.int 1))) (h' := (h.1, I700, J695, h.2.2.2)) rfl ?_
                                exact k (some (.int 1)) (I700) (J695) ⟨_, rfl, ⟨by decide, by decide⟩⟩ hB_I700 hV_I700 (fun o ho i => ((e_I700 o (hk_ms rfl ho) i).trans ((e_I694 o (hk_ms rfl ho) i).trans ((e_I691 o (hk_ms rfl ho) i).trans ((e_I689 o (hk_ms rfl ho) i).trans rfl)))))
                              · refine qm_Ru.go 3 (c' := (231, [.ref 118, .int y, .int r, .int s, .int v516, .int v517, .int v518, .int v634, .int 1], [.int v517, .int v518, .ref 118], (h.1, I694, J695, h.2.2.2))) rfl ?_
                                refine hk_inv (o := 118) (r := []) (as := [.ref 118, .int v518, .int v517]) rfl rfl (hH.1 118 (17, 105) rfl) rfl rfl rfl rfl (rb_boards (h := (h.1, I694, J695, h.2.2.2)) hH hB_I694 hV_I694 (b := v518) (k0 := v517) (by omega) (by omega) (show pI (I694) 150 (v518.toInt.toNat) = 0 from (congrArg Int32.toInt (show (I694) 150 (v518.toInt.toNat) = _ from ((e_I694 150 rfl (v518.toInt.toNat)).trans q_v692))).trans (by omega)) (show ((v518.toInt.toNat : Nat) : Int) < ((I694) 118 44).toInt from by rw [(show (I694) 118 44 = _ from ((e_I694 118 rfl 44).trans ((e_I691 118 rfl 44).trans ((e_I689 118 rfl 44).trans q_v686))))]; omega) (fun I703 hB_I703 hV_I703 e_I703 p0_I703 pn_I703 p1_I703 pm_I703 => ?_))
                                obtain ⟨v704, q_v704⟩ : ∃ v, I703 150 (v518.toInt.toNat) = v := ⟨_, rfl⟩
                                have f_v704 : v704.toInt = 1 := by rw [← q_v704]; exact p0_I703
                                obtain ⟨v705, q_v705⟩ : ∃ v, I703 151 (v518.toInt.toNat) = v := ⟨_, rfl⟩
                                have f_v705 : v705.toInt = v517.toInt := by rw [← q_v705]; exact (congrArg Int32.toInt p1_I703)
                                refine qm_Ru.go 2 (c' := (237, [.ref 118, .int y, .int r, .int s, .int v516, .int v517, .int v518, .int v634, .int 1], [.int (-1), .int v634], (h.1, I703, J695, h.2.2.2))) rfl ?_
                                refine hk_ceq (ix := v634.toInt) (iy := (-1)) rfl rfl rfl (fun z706 => ?_) (fun z706 => by exfalso; omega)
                                refine qm_Ru.go 1 (c' := (250, [.ref 118, .int y, .int r, .int s, .int v516, .int v517, .int v518, .int v634, .int 1], [.int (-3)], (h.1, I703, J695, h.2.2.2))) rfl ?_
                                refine qm_Ru.rt (v := (some (.int (-3)))) (h' := (h.1, I703, J695, h.2.2.2)) rfl ?_
                                exact k (some (.int (-3))) (I703) (J695) ⟨_, rfl, ⟨by decide, by decide⟩⟩ hB_I703 hV_I703 (fun o ho i => ((e_I703 o (hk_ms rfl ho) i).trans ((e_I694 o (hk_ms rfl ho) i).trans ((e_I691 o (hk_ms rfl ho) i).trans ((e_I689 o (hk_ms rfl ho) i).trans rfl)))))
                            · refine qm_Ru.go 1 (c' := (196, [.ref 118, .int y, .int r, .int s, .int v516, .int v517, .int v518, .int v634, .int 1], [.int (-2)], h)) rfl ?_
                              refine qm_Ru.rt (v := (some (.int (-2)))) (h' := h) rfl ?_
                              exact k (some (.int (-2))) (h.2.1) (h.2.2.1) ⟨_, rfl, ⟨by decide, by decide⟩⟩ hB hV (fun o ho i => rfl)
                          · refine qm_Ru.go 1 (c' := (156, [.ref 118, .int y, .int r, .int s, .int v516, .int v517, .int v518, .int v634, .int 1], [.int (-1)], h)) rfl ?_
                            refine qm_Ru.rt (v := (some (.int (-1)))) (h' := h) rfl ?_
                            exact k (some (.int (-1))) (h.2.1) (h.2.2.1) ⟨_, rfl, ⟨by decide, by decide⟩⟩ hB hV (fun o ho i => rfl)
