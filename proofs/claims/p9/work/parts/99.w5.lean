/-! contracts by hand -/
theorem hc_unloading29 : hk_ct v_C (fun h => h.2.2.2 0 9 = some 111 ∧ h.2.2.2 28 2 = some 29) (fun as I => ∃ y r s : Int32, as = [.ref 28, .int y, .int r, .int s]) 102 (some (-3, 2)) [6, 7, 8, 9, 10, 11, 12, 13, 14, 16, 17, 28, 36, 37] 40 := by
  intro L xs d Z h as h6 hH hT hB hV hp hd k
  obtain ⟨y, r, s, rfl⟩ := hp
  obtain ⟨d, rfl⟩ : ∃ e, d = e + 40 := ⟨d - 40, by omega⟩
  show qm_Ru (some (L, xs)) (d + 40) cd_102 (qm_ent 10 [.ref 28, .int y, .int r, .int s] h) Z
  refine qm_Ru.go 3 (c' := (3, [.ref 28, .int y, .int r, .int s, .float 0, .float 0, .float 0, .float 0, .float 0, .float 0], [.int r, .int y, .ref 28], h)) rfl ?_
  refine hk_inv (o := 28) (r := []) (as := [.ref 28, .int y, .int r]) rfl rfl (hH.1 28 (9, 8) rfl) rfl rfl rfl rfl ?_
  refine qm_Ru.go 2 (c' := (2, [.ref 28, .int y, .int r], [.int y, .ref 28], h)) rfl ?_
  refine hk_inv (o := 28) (r := []) (as := [.ref 28, .int y]) rfl rfl (hH.1 28 (9, 8) rfl) rfl rfl rfl rfl ?_
  refine qm_Ru.go 1 (c' := (1, [.ref 28, .int y], [.int y], h)) rfl ?_
  refine hk_zlt (ix := y.toInt) rfl rfl (fun z1 => ?_) (fun z1 => ?_)
  · refine qm_Ru.go 1 (c' := (20, [.ref 28, .int y], [.int 0], h)) rfl ?_
    refine qm_Ru.rt (v := (some (.int 0))) (h' := h) rfl ?_
    refine qm_Ru.go 2 (c' := (22, [.ref 28, .int y, .int r], [.int 0], h)) rfl ?_
    refine qm_Ru.rt (v := (some (.int 0))) (h' := h) rfl ?_
    refine qm_Ru.go 2 (c' := (17, [.ref 28, .int y, .int r, .int s, .float 0, .float 0, .float 0, .float 0, .float 0, .float 0], [.int (-1)], h)) rfl ?_
    refine qm_Ru.rt (v := (some (.int (-1)))) (h' := h) rfl ?_
    exact k (some (.int (-1))) (h.2.1) (h.2.2.1) ⟨_, rfl, ⟨by decide, by decide⟩⟩ hB hV (fun _ _ _ => rfl)
  · refine qm_Ru.go 2 (c' := (6, [.ref 28, .int y], [.ref 28, .int y], h)) rfl ?_
    refine hk_getr rfl (hH.1 28 (9, 8) rfl) rfl hT.2 ?_
    refine qm_Ru.go 0 (c' := (9, [.ref 28, .int y], [.ref 29, .int y], h)) rfl ?_
    obtain ⟨v2, q_v2⟩ : ∃ v, h.2.1 29 0 = v := ⟨_, rfl⟩
    have b_v2 : (2 : Int) ≤ v2.toInt ∧ v2.toInt ≤ 5 := by rw [← q_v2]; exact hB 29 0
    refine hk_geti (v := v2) rfl (hH.1 29 (11, 16) rfl) rfl q_v2 ?_
    refine qm_Ru.go 0 (c' := (12, [.ref 28, .int y], [.int v2, .int y], h)) rfl ?_
    refine hk_cge (ix := y.toInt) (iy := v2.toInt) rfl rfl rfl (fun z3 => ?_) (fun z3 => ?_)
    · refine qm_Ru.go 1 (c' := (20, [.ref 28, .int y], [.int 0], h)) rfl ?_
      refine qm_Ru.rt (v := (some (.int 0))) (h' := h) rfl ?_
      refine qm_Ru.go 2 (c' := (22, [.ref 28, .int y, .int r], [.int 0], h)) rfl ?_
      refine qm_Ru.rt (v := (some (.int 0))) (h' := h) rfl ?_
      refine qm_Ru.go 2 (c' := (17, [.ref 28, .int y, .int r, .int s, .float 0, .float 0, .float 0, .float 0, .float 0, .float 0], [.int (-1)], h)) rfl ?_
      refine qm_Ru.rt (v := (some (.int (-1)))) (h' := h) rfl ?_
      exact k (some (.int (-1))) (h.2.1) (h.2.2.1) ⟨_, rfl, ⟨by decide, by decide⟩⟩ hB hV (fun _ _ _ => rfl)
    · refine qm_Ru.go 2 (c' := (20, [.ref 28, .int y], [.int 1], h)) rfl ?_
      refine qm_Ru.rt (v := (some (.int 1))) (h' := h) rfl ?_
      refine qm_Ru.go 2 (c' := (9, [.ref 28, .int y, .int r], [.int r], h)) rfl ?_
      refine hk_zlt (ix := r.toInt) rfl rfl (fun z4 => ?_) (fun z4 => ?_)
      · refine qm_Ru.go 1 (c' := (22, [.ref 28, .int y, .int r], [.int 0], h)) rfl ?_
        refine qm_Ru.rt (v := (some (.int 0))) (h' := h) rfl ?_
        refine qm_Ru.go 2 (c' := (17, [.ref 28, .int y, .int r, .int s, .float 0, .float 0, .float 0, .float 0, .float 0, .float 0], [.int (-1)], h)) rfl ?_
        refine qm_Ru.rt (v := (some (.int (-1)))) (h' := h) rfl ?_
        exact k (some (.int (-1))) (h.2.1) (h.2.2.1) ⟨_, rfl, ⟨by decide, by decide⟩⟩ hB hV (fun _ _ _ => rfl)
      · refine qm_Ru.go 2 (c' := (14, [.ref 28, .int y, .int r], [.int 4, .int r], h)) rfl ?_
        refine hk_cge (ix := r.toInt) (iy := 4) rfl rfl rfl (fun z5 => ?_) (fun z5 => ?_)
        · refine qm_Ru.go 1 (c' := (22, [.ref 28, .int y, .int r], [.int 0], h)) rfl ?_
          refine qm_Ru.rt (v := (some (.int 0))) (h' := h) rfl ?_
          refine qm_Ru.go 2 (c' := (17, [.ref 28, .int y, .int r, .int s, .float 0, .float 0, .float 0, .float 0, .float 0, .float 0], [.int (-1)], h)) rfl ?_
          refine qm_Ru.rt (v := (some (.int (-1)))) (h' := h) rfl ?_
          exact k (some (.int (-1))) (h.2.1) (h.2.2.1) ⟨_, rfl, ⟨by decide, by decide⟩⟩ hB hV (fun _ _ _ => rfl)
        · refine qm_Ru.go 2 (c' := (22, [.ref 28, .int y, .int r], [.int 1], h)) rfl ?_
          refine qm_Ru.rt (v := (some (.int 1))) (h' := h) rfl ?_
          refine qm_Ru.go 2 (c' := (10, [.ref 28, .int y, .int r, .int s, .float 0, .float 0, .float 0, .float 0, .float 0, .float 0], [.int s], h)) rfl ?_
          refine qm_Ru.call (j := 103) (as := [.int s]) (c' := (13, [.ref 28, .int y, .int r, .int s, .float 0, .float 0, .float 0, .float 0, .float 0, .float 0], [], h)) rfl rfl rfl ?_
          refine qm_Ru.go 2 (c' := (2, [.int s], [.int (-1), .int s], h)) rfl ?_
          refine hk_clt (ix := s.toInt) (iy := (-1)) rfl rfl rfl (fun z6 => ?_) (fun z6 => ?_)
          · refine qm_Ru.go 1 (c' := (15, [.int s], [.int 0], h)) rfl ?_
            refine qm_Ru.rt (v := (some (.int 0))) (h' := h) rfl ?_
            refine qm_Ru.go 2 (c' := (17, [.ref 28, .int y, .int r, .int s, .float 0, .float 0, .float 0, .float 0, .float 0, .float 0], [.int (-1)], h)) rfl ?_
            refine qm_Ru.rt (v := (some (.int (-1)))) (h' := h) rfl ?_
            exact k (some (.int (-1))) (h.2.1) (h.2.2.1) ⟨_, rfl, ⟨by decide, by decide⟩⟩ hB hV (fun _ _ _ => rfl)
          · refine qm_Ru.go 2 (c' := (7, [.int s], [.int 4, .int s], h)) rfl ?_
            refine hk_cge (ix := s.toInt) (iy := 4) rfl rfl rfl (fun z7 => ?_) (fun z7 => ?_)
            · refine qm_Ru.go 1 (c' := (15, [.int s], [.int 0], h)) rfl ?_
              refine qm_Ru.rt (v := (some (.int 0))) (h' := h) rfl ?_
              refine qm_Ru.go 2 (c' := (17, [.ref 28, .int y, .int r, .int s, .float 0, .float 0, .float 0, .float 0, .float 0, .float 0], [.int (-1)], h)) rfl ?_
              refine qm_Ru.rt (v := (some (.int (-1)))) (h' := h) rfl ?_
              exact k (some (.int (-1))) (h.2.1) (h.2.2.1) ⟨_, rfl, ⟨by decide, by decide⟩⟩ hB hV (fun _ _ _ => rfl)
            · refine qm_Ru.go 2 (c' := (15, [.int s], [.int 1], h)) rfl ?_
              refine qm_Ru.rt (v := (some (.int 1))) (h' := h) rfl ?_
              refine qm_Ru.go 4 (c' := (21, [.ref 28, .int y, .int r, .int s, .float 0, .float 0, .float 0, .float 0, .float 0, .float 0], [.int r, .int y, .ref 28], h)) rfl ?_
              refine hk_inv (o := 28) (r := []) (as := [.ref 28, .int y, .int r]) rfl rfl (hH.1 28 (9, 8) rfl) rfl rfl rfl rfl ?_
              refine qm_Ru.go 2 (c' := (2, [.ref 28, .int y, .int r, .float 0], [.int y, .ref 28], h)) rfl ?_
              refine hk_inv (o := 28) (r := []) (as := [.ref 28, .int y]) rfl rfl (hH.1 28 (9, 8) rfl) rfl rfl rfl rfl ?_
              refine qm_Ru.go 2 (c' := (2, [.ref 28, .int y], [.int y, .ref 28], h)) rfl ?_
              refine hk_inv (o := 28) (r := []) (as := [.ref 28, .int y]) rfl rfl (hH.1 28 (9, 8) rfl) rfl rfl rfl rfl ?_
              refine qm_Ru.go 1 (c' := (1, [.ref 28, .int y], [.ref 28], h)) rfl ?_
              obtain ⟨v8, q_v8⟩ : ∃ v, h.2.1 28 4 = v := ⟨_, rfl⟩
              refine hk_geti (v := v8) rfl (hH.1 28 (9, 8) rfl) rfl q_v8 ?_
              refine qm_Ru.go 2 (c' := (6, [.ref 28, .int y], [.int (v8 >>> (y &&& 31))], h)) rfl ?_
              obtain ⟨v9, q_v9⟩ : ∃ v, (v8 >>> (y &&& 31)) = v := ⟨_, rfl⟩
              rw [q_v9]
              refine qm_Ru.go 2 (c' := (8, [.ref 28, .int y], [.int (v9 &&& 1)], h)) rfl ?_
              obtain ⟨v10, q_v10⟩ : ∃ v, (v9 &&& 1) = v := ⟨_, rfl⟩
              rw [q_v10]
              refine qm_Ru.go 1 (c' := (9, [.ref 28, .int y], [.int 1, .int v10], h)) rfl ?_
              refine hk_cne (ix := v10.toInt) (iy := 1) rfl rfl rfl (fun z11 => ?_) (fun z11 => ?_)
              · refine qm_Ru.go 1 (c' := (17, [.ref 28, .int y], [.int 0], h)) rfl ?_
                refine qm_Ru.rt (v := (some (.int 0))) (h' := h) rfl ?_
                refine qm_Ru.go 2 (c' := (13, [.ref 28, .int y], [.int 0], h)) rfl ?_
                refine qm_Ru.rt (v := (some (.int 0))) (h' := h) rfl ?_
                refine qm_Ru.go 2 (c' := (7, [.ref 28, .int y, .int r, .int 0], [.ref 28], h)) rfl ?_
                refine hk_getr rfl (hH.1 28 (9, 8) rfl) rfl (hH.2 28 3 (some 36) rfl) ?_
                refine qm_Ru.go 5 (c' := (15, [.ref 28, .int y, .int r, .int 0], [.int 1, .int r, .int y, .ref 36], h)) rfl ?_
                refine qm_Ru.call (j := 75) (as := [.int y, .int r, .int 1]) (c' := (18, [.ref 28, .int y, .int r, .int 0], [.ref 36], h)) rfl rfl rfl ?_
                refine qm_Ru.go 3 (c' := (3, [.int y, .int r, .int 1], [.int (y * 4)], h)) rfl ?_
                obtain ⟨v12, q_v12, e_v12⟩ := hk_mul (x := y) (y := 4) (a := y.toInt) (b := 4) rfl rfl (by omega) (by omega)
                rw [q_v12]
                refine qm_Ru.go 2 (c' := (5, [.int y, .int r, .int 1], [.int (v12 + r)], h)) rfl ?_
                obtain ⟨v13, q_v13, e_v13⟩ := hk_add (x := v12) (y := r) (a := v12.toInt) (b := r.toInt) rfl rfl (by omega) (by omega)
                rw [q_v13]
                refine qm_Ru.go 2 (c' := (7, [.int y, .int r, .int 1], [.int (v13 * 4)], h)) rfl ?_
                obtain ⟨v14, q_v14, e_v14⟩ := hk_mul (x := v13) (y := 4) (a := v13.toInt) (b := 4) rfl rfl (by omega) (by omega)
                rw [q_v14]
                refine qm_Ru.go 2 (c' := (9, [.int y, .int r, .int 1], [.int (v14 + 1)], h)) rfl ?_
                obtain ⟨v15, q_v15, e_v15⟩ := hk_add (x := v14) (y := 1) (a := v14.toInt) (b := 1) rfl rfl (by omega) (by omega)
                rw [q_v15]
                refine qm_Ru.rt (v := (some (.int v15))) (h' := h) rfl ?_
                refine qm_Ru.go 0 (c' := (18, [.ref 28, .int y, .int r, .int 0], [.int v15, .ref 36], h)) rfl ?_
                obtain ⟨v16, q_v16⟩ : ∃ v, h.2.1 36 (v15.toInt.toNat) = v := ⟨_, rfl⟩
                have b_v16 : (-1 : Int) ≤ v16.toInt ∧ v16.toInt ≤ 29 := by rw [← q_v16]; exact hB 36 (v15.toInt.toNat)
                refine hk_ial (v := v16) rfl (hH.1 36 (0, 80) rfl) (by omega) (by omega) q_v16 ?_
                refine qm_Ru.go 0 (c' := (19, [.ref 28, .int y, .int r, .int 0], [.int v16], h)) rfl ?_
                refine qm_Ru.go 1 (c' := (20, [.ref 28, .int y, .int r, .int 0], [.int (-1), .int v16], h)) rfl ?_
                refine hk_ceq (ix := v16.toInt) (iy := (-1)) rfl rfl rfl (fun z17 => ?_) (fun z17 => ?_)
                · refine qm_Ru.go 1 (c' := (28, [.ref 28, .int y, .int r, .int 0], [.ref 28], h)) rfl ?_
                  refine hk_getr rfl (hH.1 28 (9, 8) rfl) rfl (hH.2 28 3 (some 36) rfl) ?_
                  refine qm_Ru.go 3 (c' := (34, [.ref 28, .int y, .int r, .int 0], [.int 0, .int r, .int y, .ref 36], h)) rfl ?_
                  refine qm_Ru.call (j := 75) (as := [.int y, .int r, .int 0]) (c' := (37, [.ref 28, .int y, .int r, .int 0], [.ref 36], h)) rfl rfl rfl ?_
                  refine qm_Ru.go 3 (c' := (3, [.int y, .int r, .int 0], [.int (y * 4)], h)) rfl ?_
                  rw [q_v12]
                  refine qm_Ru.go 2 (c' := (5, [.int y, .int r, .int 0], [.int (v12 + r)], h)) rfl ?_
                  rw [q_v13]
                  refine qm_Ru.go 2 (c' := (7, [.int y, .int r, .int 0], [.int (v13 * 4)], h)) rfl ?_
                  rw [q_v14]
                  refine qm_Ru.go 2 (c' := (9, [.int y, .int r, .int 0], [.int (v14 + 0)], h)) rfl ?_
                  obtain ⟨v21, q_v21, e_v21⟩ := hk_add (x := v14) (y := 0) (a := v14.toInt) (b := 0) rfl rfl (by omega) (by omega)
                  rw [q_v21]
                  refine qm_Ru.rt (v := (some (.int v21))) (h' := h) rfl ?_
                  refine qm_Ru.go 0 (c' := (37, [.ref 28, .int y, .int r, .int 0], [.int v21, .ref 36], h)) rfl ?_
                  obtain ⟨v22, q_v22⟩ : ∃ v, h.2.1 36 (v21.toInt.toNat) = v := ⟨_, rfl⟩
                  have b_v22 : (-1 : Int) ≤ v22.toInt ∧ v22.toInt ≤ 29 := by rw [← q_v22]; exact hB 36 (v21.toInt.toNat)
                  refine hk_ial (v := v22) rfl (hH.1 36 (0, 80) rfl) (by omega) (by omega) q_v22 ?_
                  refine qm_Ru.go 0 (c' := (38, [.ref 28, .int y, .int r, .int 0], [.int v22], h)) rfl ?_
                  refine qm_Ru.go 1 (c' := (39, [.ref 28, .int y, .int r, .int 0], [.int (-1), .int v22], h)) rfl ?_
                  refine hk_ceq (ix := v22.toInt) (iy := (-1)) rfl rfl rfl (fun z23 => ?_) (fun z23 => ?_)
                  · refine qm_Ru.go 1 (c' := (47, [.ref 28, .int y, .int r, .int 0], [.int (-1)], h)) rfl ?_
                    refine qm_Ru.rt (v := (some (.int (-1)))) (h' := h) rfl ?_
                    refine qm_Ru.go 5 (c' := (33, [.ref 28, .int y, .int r, .int s, .int (-1), .float 0, .float 0, .float 0, .float 0, .float 0], [.int (-1)], h)) rfl ?_
                    refine qm_Ru.rt (v := (some (.int (-1)))) (h' := h) rfl ?_
                    exact k (some (.int (-1))) (h.2.1) (h.2.2.1) ⟨_, rfl, ⟨by decide, by decide⟩⟩ hB hV (fun _ _ _ => rfl)
                  · refine qm_Ru.go 2 (c' := (47, [.ref 28, .int y, .int r, .int 0], [.int 0], h)) rfl ?_
                    refine qm_Ru.rt (v := (some (.int 0))) (h' := h) rfl ?_
                    refine qm_Ru.go 5 (c' := (35, [.ref 28, .int y, .int r, .int s, .int 0, .float 0, .float 0, .float 0, .float 0, .float 0], [.ref 28], h)) rfl ?_
                    refine hk_getr rfl (hH.1 28 (9, 8) rfl) rfl (hH.2 28 3 (some 36) rfl) ?_
                    refine qm_Ru.go 3 (c' := (42, [.ref 28, .int y, .int r, .int s, .int 0, .float 0, .float 0, .float 0, .float 0, .float 0], [.int 0, .int r, .int y, .ref 36], h)) rfl ?_
                    refine qm_Ru.call (j := 75) (as := [.int y, .int r, .int 0]) (c' := (45, [.ref 28, .int y, .int r, .int s, .int 0, .float 0, .float 0, .float 0, .float 0, .float 0], [.ref 36], h)) rfl rfl rfl ?_
                    refine qm_Ru.go 3 (c' := (3, [.int y, .int r, .int 0], [.int (y * 4)], h)) rfl ?_
                    rw [q_v12]
                    refine qm_Ru.go 2 (c' := (5, [.int y, .int r, .int 0], [.int (v12 + r)], h)) rfl ?_
                    rw [q_v13]
                    refine qm_Ru.go 2 (c' := (7, [.int y, .int r, .int 0], [.int (v13 * 4)], h)) rfl ?_
                    rw [q_v14]
                    refine qm_Ru.go 2 (c' := (9, [.int y, .int r, .int 0], [.int (v14 + 0)], h)) rfl ?_
                    rw [q_v21]
                    refine qm_Ru.rt (v := (some (.int v21))) (h' := h) rfl ?_
                    refine qm_Ru.go 0 (c' := (45, [.ref 28, .int y, .int r, .int s, .int 0, .float 0, .float 0, .float 0, .float 0, .float 0], [.int v21, .ref 36], h)) rfl ?_
                    refine hk_ial (v := v22) rfl (hH.1 36 (0, 80) rfl) (by omega) (by omega) q_v22 ?_
                    refine qm_Ru.go 2 (c' := (49, [.ref 28, .int y, .int r, .int s, .int 0, .int v22, .float 0, .float 0, .float 0, .float 0], [.ref 28], h)) rfl ?_
                    refine hk_getr rfl (hH.1 28 (9, 8) rfl) rfl (hH.2 28 0 (some 6) rfl) ?_
                    refine qm_Ru.go 0 (c' := (52, [.ref 28, .int y, .int r, .int s, .int 0, .int v22, .float 0, .float 0, .float 0, .float 0], [.ref 6], h)) rfl ?_
                    refine hk_getr rfl (hH.1 6 (6, 9) rfl) rfl (hH.2 6 4 (some 10) rfl) ?_
                    refine qm_Ru.go 1 (c' := (57, [.ref 28, .int y, .int r, .int s, .int 0, .int v22, .float 0, .float 0, .float 0, .float 0], [.int v22, .ref 10], h)) rfl ?_
                    obtain ⟨v28, q_v28⟩ : ∃ v, h.2.1 10 (v22.toInt.toNat) = v := ⟨_, rfl⟩
                    have b_v28 : (0 : Int) ≤ v28.toInt ∧ v28.toInt ≤ 1 := by rw [← q_v28]; exact hB 10 (v22.toInt.toNat)
                    refine hk_bal (v := v28) rfl (hH.1 10 (2, 30) rfl) (by decide) (by omega) (by omega) q_v28 ?_
                    refine qm_Ru.go 0 (c' := (58, [.ref 28, .int y, .int r, .int s, .int 0, .int v22, .float 0, .float 0, .float 0, .float 0], [.int v28], h)) rfl ?_
                    refine hk_zeq (ix := v28.toInt) rfl rfl (fun z29 => ?_) (fun z29 => ?_)
                    · refine qm_Ru.go 10 (c' := (93, [.ref 28, .int y, .int r, .int s, .int 0, .int v22, .int 0, .int 1, .float 0, .float 0], [.int (-1), .int s], h)) rfl ?_
                      refine hk_ceq (ix := s.toInt) (iy := (-1)) rfl rfl rfl (fun z30 => ?_) (fun z30 => ?_)
                      · refine qm_Ru.go 0 (c' := (111, [.ref 28, .int y, .int r, .int s, .int 0, .int v22, .int 0, .int 1, .float 0, .float 0], [], h)) rfl ?_
                        refine qm_Ru.go 1 (c' := (112, [.ref 28, .int y, .int r, .int s, .int 0, .int v22, .int 0, .int 1, .float 0, .float 0], [.ref 28], h)) rfl ?_
                        refine hk_getr rfl (hH.1 28 (9, 8) rfl) rfl (hH.2 28 0 (some 6) rfl) ?_
                        refine qm_Ru.go 0 (c' := (115, [.ref 28, .int y, .int r, .int s, .int 0, .int v22, .int 0, .int 1, .float 0, .float 0], [.ref 6], h)) rfl ?_
                        refine hk_getr rfl (hH.1 6 (6, 9) rfl) rfl (hH.2 6 1 (some 7) rfl) ?_
                        refine qm_Ru.go 1 (c' := (120, [.ref 28, .int y, .int r, .int s, .int 0, .int v22, .int 0, .int 1, .float 0, .float 0], [.int v22, .ref 7], h)) rfl ?_
                        obtain ⟨v31, q_v31⟩ : ∃ v, h.2.1 7 (v22.toInt.toNat) = v := ⟨_, rfl⟩
                        have b_v31 : (0 : Int) ≤ v31.toInt ∧ v31.toInt ≤ 40 := by rw [← q_v31]; exact hB 7 (v22.toInt.toNat)
                        refine hk_ial (v := v31) rfl (hH.1 7 (0, 30) rfl) (by omega) (by omega) q_v31 ?_
                        refine qm_Ru.go 5 (c' := (153, [.ref 28, .int y, .int r, .int s, .int 0, .int v22, .int 0, .int 1, .float 0, .float 0], [.int (v31 + 0)], h)) rfl ?_
                        obtain ⟨v32, q_v32, e_v32⟩ := hk_add (x := v31) (y := 0) (a := v31.toInt) (b := 0) rfl rfl (by omega) (by omega)
                        rw [q_v32]
                        refine qm_Ru.go 3 (c' := (158, [.ref 28, .int y, .int r, .int s, .int 0, .int v22, .int 0, .int 1, .int v32, .float 0], [.ref 28, .int v32], h)) rfl ?_
                        refine hk_getr rfl (hH.1 28 (9, 8) rfl) rfl hT.2 ?_
                        refine qm_Ru.go 0 (c' := (161, [.ref 28, .int y, .int r, .int s, .int 0, .int v22, .int 0, .int 1, .int v32, .float 0], [.ref 29, .int v32], h)) rfl ?_
                        obtain ⟨v33, q_v33⟩ : ∃ v, h.2.1 29 4 = v := ⟨_, rfl⟩
                        refine hk_geti (v := v33) rfl (hH.1 29 (11, 16) rfl) rfl q_v33 ?_
                        refine qm_Ru.go 0 (c' := (164, [.ref 28, .int y, .int r, .int s, .int 0, .int v22, .int 0, .int 1, .int v32, .float 0], [.int v33, .int v32], h)) rfl ?_
                        refine hk_cle (ix := v32.toInt) (iy := v33.toInt) rfl rfl rfl (fun z34 => ?_) (fun z34 => ?_)
                        · refine qm_Ru.go 5 (c' := (176, [.ref 28, .int y, .int r, .int s, .int 0, .int v22, .int 0, .int 1, .int v32, .float 0], [.int (-v32), .int r, .int y, .ref 28], h)) rfl ?_
                          obtain ⟨v35, q_v35, e_v35⟩ := hk_neg (x := v32) (a := v32.toInt) rfl (by omega)
                          rw [q_v35]
                          refine hk_inv (o := 28) (r := []) (as := [.ref 28, .int y, .int r, .int v35]) rfl rfl (hH.1 28 (9, 8) rfl) rfl rfl rfl rfl (hs_borne29 h6 hH hT hB (v_C_ru hV) ⟨by show (0 : Int) ≤ y.toInt; omega, by show y.toInt ≤ (4 : Int); omega⟩ ⟨by show (0 : Int) ≤ r.toInt; omega, by show r.toInt ≤ (3 : Int); omega⟩ (qa_in_full _) (by omega) (fun v36 I37 J38 c_v36 _ e_I37 => ?_))
                          have e_I37 : I37 = h.2.1 := funext fun o => funext fun i => e_I37 o rfl i
                          subst e_I37
                          have b_v36 : (0 : Int) ≤ v36.toInt ∧ v36.toInt ≤ 1 := c_v36
                          refine qm_Ru.go 0 (c' := (179, [.ref 28, .int y, .int r, .int s, .int 0, .int v22, .int 0, .int 1, .int v32, .float 0], [.int v36], (h.1, h.2.1, J38, h.2.2.2))) rfl ?_
                          refine hk_zne (ix := v36.toInt) rfl rfl (fun z39 => ?_) (fun z39 => ?_)
                          · refine qm_Ru.go 0 (c' := (197, [.ref 28, .int y, .int r, .int s, .int 0, .int v22, .int 0, .int 1, .int v32, .float 0], [], (h.1, h.2.1, J38, h.2.2.2))) rfl ?_
                            exact hq_land00 (h := (h.1, h.2.1, J38, h.2.2.2)) hH hB hV (by omega) (by omega) (by omega) (fun c => absurd z30 c) (p_at q_v22 (by omega) (by omega)) (p_no q_v16 (by omega) (by omega)) (fun v I hB2 hV2 hm2 ev => k (some (.int v)) I _ ⟨_, rfl, ⟨by show (-3 : Int) ≤ v.toInt; omega, by show v.toInt ≤ (2 : Int); omega⟩⟩ hB2 hV2 hm2)
                          · refine qm_Ru.go 5 (c' := (188, [.ref 28, .int y, .int r, .int s, .int 0, .int v22, .int 0, .int 1, .int v32, .float 0], [.int (-v32), .int r, .int y, .ref 28], (h.1, h.2.1, J38, h.2.2.2))) rfl ?_
                            rw [q_v35]
                            refine hk_inv (o := 28) (r := []) (as := [.ref 28, .int y, .int r, .int v35]) rfl rfl (hH.1 28 (9, 8) rfl) rfl rfl rfl rfl (hs_nowor29 h6 hH hT hB (v_C_ru hV) ⟨by show (0 : Int) ≤ y.toInt; omega, by show y.toInt ≤ (4 : Int); omega⟩ ⟨by show (0 : Int) ≤ r.toInt; omega, by show r.toInt ≤ (3 : Int); omega⟩ (qa_in_full _) (by omega) (fun v41 I42 J43 c_v41 _ e_I42 => ?_))
                            have e_I42 : I42 = h.2.1 := funext fun o => funext fun i => e_I42 o rfl i
                            subst e_I42
                            have b_v41 : (0 : Int) ≤ v41.toInt ∧ v41.toInt ≤ 1 := c_v41
                            refine qm_Ru.go 0 (c' := (191, [.ref 28, .int y, .int r, .int s, .int 0, .int v22, .int 0, .int 1, .int v32, .float 0], [.int v41], (h.1, h.2.1, J43, h.2.2.2))) rfl ?_
                            refine hk_zne (ix := v41.toInt) rfl rfl (fun z44 => ?_) (fun z44 => ?_)
                            · refine qm_Ru.go 0 (c' := (197, [.ref 28, .int y, .int r, .int s, .int 0, .int v22, .int 0, .int 1, .int v32, .float 0], [], (h.1, h.2.1, J43, h.2.2.2))) rfl ?_
                              exact hq_land00 (h := (h.1, h.2.1, J43, h.2.2.2)) hH hB hV (by omega) (by omega) (by omega) (fun c => absurd z30 c) (p_at q_v22 (by omega) (by omega)) (p_no q_v16 (by omega) (by omega)) (fun v I hB2 hV2 hm2 ev => k (some (.int v)) I _ ⟨_, rfl, ⟨by show (-3 : Int) ≤ v.toInt; omega, by show v.toInt ≤ (2 : Int); omega⟩⟩ hB2 hV2 hm2)
                            · refine qm_Ru.go 1 (c' := (196, [.ref 28, .int y, .int r, .int s, .int 0, .int v22, .int 0, .int 1, .int v32, .float 0], [.int (-3)], (h.1, h.2.1, J43, h.2.2.2))) rfl ?_
                              refine qm_Ru.rt (v := (some (.int (-3)))) (h' := (h.1, h.2.1, J43, h.2.2.2)) rfl ?_
                              exact k (some (.int (-3))) (h.2.1) (J43) ⟨_, rfl, ⟨by decide, by decide⟩⟩ hB hV (fun _ _ _ => rfl)
                        · refine qm_Ru.go 1 (c' := (169, [.ref 28, .int y, .int r, .int s, .int 0, .int v22, .int 0, .int 1, .int v32, .float 0], [.int (-2)], h)) rfl ?_
                          refine qm_Ru.rt (v := (some (.int (-2)))) (h' := h) rfl ?_
                          exact k (some (.int (-2))) (h.2.1) (h.2.2.1) ⟨_, rfl, ⟨by decide, by decide⟩⟩ hB hV (fun _ _ _ => rfl)
                      · refine qm_Ru.go 1 (c' := (97, [.ref 28, .int y, .int r, .int s, .int 0, .int v22, .int 0, .int 1, .float 0, .float 0], [.ref 28], h)) rfl ?_
                        refine hk_getr rfl (hH.1 28 (9, 8) rfl) rfl (hH.2 28 1 (some 15) rfl) ?_
                        refine qm_Ru.go 1 (c' := (101, [.ref 28, .int y, .int r, .int s, .int 0, .int v22, .int 0, .int 1, .float 0, .float 0], [.int s, .ref 15], h)) rfl ?_
                        refine hk_inv (o := 15) (r := []) (as := [.ref 15, .int s]) rfl rfl (hH.1 15 (15, 8) rfl) rfl rfl rfl rfl ?_
                        refine qm_Ru.go 2 (c' := (2, [.ref 15, .int s], [.ref 15, .int 4], h)) rfl ?_
                        refine hk_getr rfl (hH.1 15 (15, 8) rfl) rfl (hH.2 15 2 (some 17) rfl) ?_
                        refine qm_Ru.go 1 (c' := (6, [.ref 15, .int s], [.int s, .ref 17, .int 4], h)) rfl ?_
                        obtain ⟨v45, q_v45⟩ : ∃ v, h.2.1 17 (s.toInt.toNat) = v := ⟨_, rfl⟩
                        have b_v45 : (0 : Int) ≤ v45.toInt ∧ v45.toInt ≤ 4 := by rw [← q_v45]; exact hB 17 (s.toInt.toNat)
                        refine hk_ial (v := v45) rfl (hH.1 17 (0, 4) rfl) (by omega) (by omega) q_v45 ?_
                        refine qm_Ru.go 1 (c' := (8, [.ref 15, .int s], [.int (4 - v45)], h)) rfl ?_
                        obtain ⟨v46, q_v46, e_v46⟩ := hk_sub (x := 4) (y := v45) (a := 4) (b := v45.toInt) rfl rfl (by omega) (by omega)
                        rw [q_v46]
                        refine qm_Ru.rt (v := (some (.int v46))) (h' := h) rfl ?_
                        refine qm_Ru.go 1 (c' := (106, [.ref 28, .int y, .int r, .int s, .int 0, .int v22, .int 0, .int 1, .float 0, .float 0], [.int 1, .int v46], h)) rfl ?_
                        refine hk_cge (ix := v46.toInt) (iy := 1) rfl rfl rfl (fun z47 => ?_) (fun z47 => ?_)
                        · refine qm_Ru.go 0 (c' := (111, [.ref 28, .int y, .int r, .int s, .int 0, .int v22, .int 0, .int 1, .float 0, .float 0], [], h)) rfl ?_
                          refine qm_Ru.go 1 (c' := (112, [.ref 28, .int y, .int r, .int s, .int 0, .int v22, .int 0, .int 1, .float 0, .float 0], [.ref 28], h)) rfl ?_
                          refine hk_getr rfl (hH.1 28 (9, 8) rfl) rfl (hH.2 28 0 (some 6) rfl) ?_
                          refine qm_Ru.go 0 (c' := (115, [.ref 28, .int y, .int r, .int s, .int 0, .int v22, .int 0, .int 1, .float 0, .float 0], [.ref 6], h)) rfl ?_
                          refine hk_getr rfl (hH.1 6 (6, 9) rfl) rfl (hH.2 6 1 (some 7) rfl) ?_
                          refine qm_Ru.go 1 (c' := (120, [.ref 28, .int y, .int r, .int s, .int 0, .int v22, .int 0, .int 1, .float 0, .float 0], [.int v22, .ref 7], h)) rfl ?_
                          obtain ⟨v48, q_v48⟩ : ∃ v, h.2.1 7 (v22.toInt.toNat) = v := ⟨_, rfl⟩
                          have b_v48 : (0 : Int) ≤ v48.toInt ∧ v48.toInt ≤ 40 := by rw [← q_v48]; exact hB 7 (v22.toInt.toNat)
                          refine hk_ial (v := v48) rfl (hH.1 7 (0, 30) rfl) (by omega) (by omega) q_v48 ?_
                          refine qm_Ru.go 5 (c' := (153, [.ref 28, .int y, .int r, .int s, .int 0, .int v22, .int 0, .int 1, .float 0, .float 0], [.int (v48 + 0)], h)) rfl ?_
                          obtain ⟨v49, q_v49, e_v49⟩ := hk_add (x := v48) (y := 0) (a := v48.toInt) (b := 0) rfl rfl (by omega) (by omega)
                          rw [q_v49]
                          refine qm_Ru.go 3 (c' := (158, [.ref 28, .int y, .int r, .int s, .int 0, .int v22, .int 0, .int 1, .int v49, .float 0], [.ref 28, .int v49], h)) rfl ?_
                          refine hk_getr rfl (hH.1 28 (9, 8) rfl) rfl hT.2 ?_
                          refine qm_Ru.go 0 (c' := (161, [.ref 28, .int y, .int r, .int s, .int 0, .int v22, .int 0, .int 1, .int v49, .float 0], [.ref 29, .int v49], h)) rfl ?_
                          obtain ⟨v50, q_v50⟩ : ∃ v, h.2.1 29 4 = v := ⟨_, rfl⟩
                          refine hk_geti (v := v50) rfl (hH.1 29 (11, 16) rfl) rfl q_v50 ?_
                          refine qm_Ru.go 0 (c' := (164, [.ref 28, .int y, .int r, .int s, .int 0, .int v22, .int 0, .int 1, .int v49, .float 0], [.int v50, .int v49], h)) rfl ?_
                          refine hk_cle (ix := v49.toInt) (iy := v50.toInt) rfl rfl rfl (fun z51 => ?_) (fun z51 => ?_)
                          · refine qm_Ru.go 5 (c' := (176, [.ref 28, .int y, .int r, .int s, .int 0, .int v22, .int 0, .int 1, .int v49, .float 0], [.int (-v49), .int r, .int y, .ref 28], h)) rfl ?_
                            obtain ⟨v52, q_v52, e_v52⟩ := hk_neg (x := v49) (a := v49.toInt) rfl (by omega)
                            rw [q_v52]
                            refine hk_inv (o := 28) (r := []) (as := [.ref 28, .int y, .int r, .int v52]) rfl rfl (hH.1 28 (9, 8) rfl) rfl rfl rfl rfl (hs_borne29 h6 hH hT hB (v_C_ru hV) ⟨by show (0 : Int) ≤ y.toInt; omega, by show y.toInt ≤ (4 : Int); omega⟩ ⟨by show (0 : Int) ≤ r.toInt; omega, by show r.toInt ≤ (3 : Int); omega⟩ (qa_in_full _) (by omega) (fun v53 I54 J55 c_v53 _ e_I54 => ?_))
                            have e_I54 : I54 = h.2.1 := funext fun o => funext fun i => e_I54 o rfl i
                            subst e_I54
                            have b_v53 : (0 : Int) ≤ v53.toInt ∧ v53.toInt ≤ 1 := c_v53
                            refine qm_Ru.go 0 (c' := (179, [.ref 28, .int y, .int r, .int s, .int 0, .int v22, .int 0, .int 1, .int v49, .float 0], [.int v53], (h.1, h.2.1, J55, h.2.2.2))) rfl ?_
                            refine hk_zne (ix := v53.toInt) rfl rfl (fun z56 => ?_) (fun z56 => ?_)
                            · refine qm_Ru.go 0 (c' := (197, [.ref 28, .int y, .int r, .int s, .int 0, .int v22, .int 0, .int 1, .int v49, .float 0], [], (h.1, h.2.1, J55, h.2.2.2))) rfl ?_
                              exact hq_land00 (h := (h.1, h.2.1, J55, h.2.2.2)) hH hB hV (by omega) (by omega) (by omega) (fun _ => by rw [q_v45]; omega) (p_at q_v22 (by omega) (by omega)) (p_no q_v16 (by omega) (by omega)) (fun v I hB2 hV2 hm2 ev => k (some (.int v)) I _ ⟨_, rfl, ⟨by show (-3 : Int) ≤ v.toInt; omega, by show v.toInt ≤ (2 : Int); omega⟩⟩ hB2 hV2 hm2)
                            · refine qm_Ru.go 5 (c' := (188, [.ref 28, .int y, .int r, .int s, .int 0, .int v22, .int 0, .int 1, .int v49, .float 0], [.int (-v49), .int r, .int y, .ref 28], (h.1, h.2.1, J55, h.2.2.2))) rfl ?_
                              rw [q_v52]
                              refine hk_inv (o := 28) (r := []) (as := [.ref 28, .int y, .int r, .int v52]) rfl rfl (hH.1 28 (9, 8) rfl) rfl rfl rfl rfl (hs_nowor29 h6 hH hT hB (v_C_ru hV) ⟨by show (0 : Int) ≤ y.toInt; omega, by show y.toInt ≤ (4 : Int); omega⟩ ⟨by show (0 : Int) ≤ r.toInt; omega, by show r.toInt ≤ (3 : Int); omega⟩ (qa_in_full _) (by omega) (fun v58 I59 J60 c_v58 _ e_I59 => ?_))
                              have e_I59 : I59 = h.2.1 := funext fun o => funext fun i => e_I59 o rfl i
                              subst e_I59
                              have b_v58 : (0 : Int) ≤ v58.toInt ∧ v58.toInt ≤ 1 := c_v58
                              refine qm_Ru.go 0 (c' := (191, [.ref 28, .int y, .int r, .int s, .int 0, .int v22, .int 0, .int 1, .int v49, .float 0], [.int v58], (h.1, h.2.1, J60, h.2.2.2))) rfl ?_
                              refine hk_zne (ix := v58.toInt) rfl rfl (fun z61 => ?_) (fun z61 => ?_)
                              · refine qm_Ru.go 0 (c' := (197, [.ref 28, .int y, .int r, .int s, .int 0, .int v22, .int 0, .int 1, .int v49, .float 0], [], (h.1, h.2.1, J60, h.2.2.2))) rfl ?_
                                exact hq_land00 (h := (h.1, h.2.1, J60, h.2.2.2)) hH hB hV (by omega) (by omega) (by omega) (fun _ => by rw [q_v45]; omega) (p_at q_v22 (by omega) (by omega)) (p_no q_v16 (by omega) (by omega)) (fun v I hB2 hV2 hm2 ev => k (some (.int v)) I _ ⟨_, rfl, ⟨by show (-3 : Int) ≤ v.toInt; omega, by show v.toInt ≤ (2 : Int); omega⟩⟩ hB2 hV2 hm2)
                              · refine qm_Ru.go 1 (c' := (196, [.ref 28, .int y, .int r, .int s, .int 0, .int v22, .int 0, .int 1, .int v49, .float 0], [.int (-3)], (h.1, h.2.1, J60, h.2.2.2))) rfl ?_
                                refine qm_Ru.rt (v := (some (.int (-3)))) (h' := (h.1, h.2.1, J60, h.2.2.2)) rfl ?_
                                exact k (some (.int (-3))) (h.2.1) (J60) ⟨_, rfl, ⟨by decide, by decide⟩⟩ hB hV (fun _ _ _ => rfl)
                          · refine qm_Ru.go 1 (c' := (169, [.ref 28, .int y, .int r, .int s, .int 0, .int v22, .int 0, .int 1, .int v49, .float 0], [.int (-2)], h)) rfl ?_
                            refine qm_Ru.rt (v := (some (.int (-2)))) (h' := h) rfl ?_
                            exact k (some (.int (-2))) (h.2.1) (h.2.2.1) ⟨_, rfl, ⟨by decide, by decide⟩⟩ hB hV (fun _ _ _ => rfl)
                        · refine qm_Ru.go 1 (c' := (110, [.ref 28, .int y, .int r, .int s, .int 0, .int v22, .int 0, .int 1, .float 0, .float 0], [.int (-1)], h)) rfl ?_
                          refine qm_Ru.rt (v := (some (.int (-1)))) (h' := h) rfl ?_
                          exact k (some (.int (-1))) (h.2.1) (h.2.2.1) ⟨_, rfl, ⟨by decide, by decide⟩⟩ hB hV (fun _ _ _ => rfl)
                    · refine qm_Ru.go 3 (c' := (65, [.ref 28, .int y, .int r, .int s, .int 0, .int v22, .float 0, .float 0, .float 0, .float 0], [.int y, .ref 28, .int 0], h)) rfl ?_
                      refine hk_inv (o := 28) (r := [.int 0]) (as := [.ref 28, .int y]) rfl rfl (hH.1 28 (9, 8) rfl) rfl rfl rfl rfl ?_
                      refine qm_Ru.go 2 (c' := (2, [.ref 28, .int y], [.int y, .ref 28], h)) rfl ?_
                      refine hk_inv (o := 28) (r := []) (as := [.ref 28, .int y]) rfl rfl (hH.1 28 (9, 8) rfl) rfl rfl rfl rfl ?_
                      refine qm_Ru.go 1 (c' := (1, [.ref 28, .int y], [.ref 28], h)) rfl ?_
                      refine hk_geti (v := v8) rfl (hH.1 28 (9, 8) rfl) rfl q_v8 ?_
                      refine qm_Ru.go 2 (c' := (6, [.ref 28, .int y], [.int (v8 >>> (y &&& 31))], h)) rfl ?_
                      rw [q_v9]
                      refine qm_Ru.go 2 (c' := (8, [.ref 28, .int y], [.int (v9 &&& 1)], h)) rfl ?_
                      rw [q_v10]
                      refine qm_Ru.go 1 (c' := (9, [.ref 28, .int y], [.int 1, .int v10], h)) rfl ?_
                      refine hk_cne (ix := v10.toInt) (iy := 1) rfl rfl rfl (fun z64 => ?_) (fun z64 => by exfalso; omega)
                      refine qm_Ru.go 1 (c' := (17, [.ref 28, .int y], [.int 0], h)) rfl ?_
                      refine qm_Ru.rt (v := (some (.int 0))) (h' := h) rfl ?_
                      refine qm_Ru.go 2 (c' := (13, [.ref 28, .int y], [.int 0], h)) rfl ?_
                      refine qm_Ru.rt (v := (some (.int 0))) (h' := h) rfl ?_
                      refine qm_Ru.go 11 (c' := (93, [.ref 28, .int y, .int r, .int s, .int 0, .int v22, .int 0, .int 1, .float 0, .float 0], [.int (-1), .int s], h)) rfl ?_
                      refine hk_ceq (ix := s.toInt) (iy := (-1)) rfl rfl rfl (fun z65 => ?_) (fun z65 => ?_)
                      · refine qm_Ru.go 0 (c' := (111, [.ref 28, .int y, .int r, .int s, .int 0, .int v22, .int 0, .int 1, .float 0, .float 0], [], h)) rfl ?_
                        refine qm_Ru.go 1 (c' := (112, [.ref 28, .int y, .int r, .int s, .int 0, .int v22, .int 0, .int 1, .float 0, .float 0], [.ref 28], h)) rfl ?_
                        refine hk_getr rfl (hH.1 28 (9, 8) rfl) rfl (hH.2 28 0 (some 6) rfl) ?_
                        refine qm_Ru.go 0 (c' := (115, [.ref 28, .int y, .int r, .int s, .int 0, .int v22, .int 0, .int 1, .float 0, .float 0], [.ref 6], h)) rfl ?_
                        refine hk_getr rfl (hH.1 6 (6, 9) rfl) rfl (hH.2 6 1 (some 7) rfl) ?_
                        refine qm_Ru.go 1 (c' := (120, [.ref 28, .int y, .int r, .int s, .int 0, .int v22, .int 0, .int 1, .float 0, .float 0], [.int v22, .ref 7], h)) rfl ?_
                        obtain ⟨v66, q_v66⟩ : ∃ v, h.2.1 7 (v22.toInt.toNat) = v := ⟨_, rfl⟩
                        have b_v66 : (0 : Int) ≤ v66.toInt ∧ v66.toInt ≤ 40 := by rw [← q_v66]; exact hB 7 (v22.toInt.toNat)
                        refine hk_ial (v := v66) rfl (hH.1 7 (0, 30) rfl) (by omega) (by omega) q_v66 ?_
                        refine qm_Ru.go 5 (c' := (153, [.ref 28, .int y, .int r, .int s, .int 0, .int v22, .int 0, .int 1, .float 0, .float 0], [.int (v66 + 0)], h)) rfl ?_
                        obtain ⟨v67, q_v67, e_v67⟩ := hk_add (x := v66) (y := 0) (a := v66.toInt) (b := 0) rfl rfl (by omega) (by omega)
                        rw [q_v67]
                        refine qm_Ru.go 3 (c' := (158, [.ref 28, .int y, .int r, .int s, .int 0, .int v22, .int 0, .int 1, .int v67, .float 0], [.ref 28, .int v67], h)) rfl ?_
                        refine hk_getr rfl (hH.1 28 (9, 8) rfl) rfl hT.2 ?_
                        refine qm_Ru.go 0 (c' := (161, [.ref 28, .int y, .int r, .int s, .int 0, .int v22, .int 0, .int 1, .int v67, .float 0], [.ref 29, .int v67], h)) rfl ?_
                        obtain ⟨v68, q_v68⟩ : ∃ v, h.2.1 29 4 = v := ⟨_, rfl⟩
                        refine hk_geti (v := v68) rfl (hH.1 29 (11, 16) rfl) rfl q_v68 ?_
                        refine qm_Ru.go 0 (c' := (164, [.ref 28, .int y, .int r, .int s, .int 0, .int v22, .int 0, .int 1, .int v67, .float 0], [.int v68, .int v67], h)) rfl ?_
                        refine hk_cle (ix := v67.toInt) (iy := v68.toInt) rfl rfl rfl (fun z69 => ?_) (fun z69 => ?_)
                        · refine qm_Ru.go 5 (c' := (176, [.ref 28, .int y, .int r, .int s, .int 0, .int v22, .int 0, .int 1, .int v67, .float 0], [.int (-v67), .int r, .int y, .ref 28], h)) rfl ?_
                          obtain ⟨v70, q_v70, e_v70⟩ := hk_neg (x := v67) (a := v67.toInt) rfl (by omega)
                          rw [q_v70]
                          refine hk_inv (o := 28) (r := []) (as := [.ref 28, .int y, .int r, .int v70]) rfl rfl (hH.1 28 (9, 8) rfl) rfl rfl rfl rfl (hs_borne29 h6 hH hT hB (v_C_ru hV) ⟨by show (0 : Int) ≤ y.toInt; omega, by show y.toInt ≤ (4 : Int); omega⟩ ⟨by show (0 : Int) ≤ r.toInt; omega, by show r.toInt ≤ (3 : Int); omega⟩ (qa_in_full _) (by omega) (fun v71 I72 J73 c_v71 _ e_I72 => ?_))
                          have e_I72 : I72 = h.2.1 := funext fun o => funext fun i => e_I72 o rfl i
                          subst e_I72
                          have b_v71 : (0 : Int) ≤ v71.toInt ∧ v71.toInt ≤ 1 := c_v71
                          refine qm_Ru.go 0 (c' := (179, [.ref 28, .int y, .int r, .int s, .int 0, .int v22, .int 0, .int 1, .int v67, .float 0], [.int v71], (h.1, h.2.1, J73, h.2.2.2))) rfl ?_
                          refine hk_zne (ix := v71.toInt) rfl rfl (fun z74 => ?_) (fun z74 => ?_)
                          · refine qm_Ru.go 0 (c' := (197, [.ref 28, .int y, .int r, .int s, .int 0, .int v22, .int 0, .int 1, .int v67, .float 0], [], (h.1, h.2.1, J73, h.2.2.2))) rfl ?_
                            exact hq_land00 (h := (h.1, h.2.1, J73, h.2.2.2)) hH hB hV (by omega) (by omega) (by omega) (fun c => absurd z65 c) (p_at q_v22 (by omega) (by omega)) (p_no q_v16 (by omega) (by omega)) (fun v I hB2 hV2 hm2 ev => k (some (.int v)) I _ ⟨_, rfl, ⟨by show (-3 : Int) ≤ v.toInt; omega, by show v.toInt ≤ (2 : Int); omega⟩⟩ hB2 hV2 hm2)
                          · refine qm_Ru.go 5 (c' := (188, [.ref 28, .int y, .int r, .int s, .int 0, .int v22, .int 0, .int 1, .int v67, .float 0], [.int (-v67), .int r, .int y, .ref 28], (h.1, h.2.1, J73, h.2.2.2))) rfl ?_
                            rw [q_v70]
                            refine hk_inv (o := 28) (r := []) (as := [.ref 28, .int y, .int r, .int v70]) rfl rfl (hH.1 28 (9, 8) rfl) rfl rfl rfl rfl (hs_nowor29 h6 hH hT hB (v_C_ru hV) ⟨by show (0 : Int) ≤ y.toInt; omega, by show y.toInt ≤ (4 : Int); omega⟩ ⟨by show (0 : Int) ≤ r.toInt; omega, by show r.toInt ≤ (3 : Int); omega⟩ (qa_in_full _) (by omega) (fun v76 I77 J78 c_v76 _ e_I77 => ?_))
                            have e_I77 : I77 = h.2.1 := funext fun o => funext fun i => e_I77 o rfl i
                            subst e_I77
                            have b_v76 : (0 : Int) ≤ v76.toInt ∧ v76.toInt ≤ 1 := c_v76
                            refine qm_Ru.go 0 (c' := (191, [.ref 28, .int y, .int r, .int s, .int 0, .int v22, .int 0, .int 1, .int v67, .float 0], [.int v76], (h.1, h.2.1, J78, h.2.2.2))) rfl ?_
                            refine hk_zne (ix := v76.toInt) rfl rfl (fun z79 => ?_) (fun z79 => ?_)
                            · refine qm_Ru.go 0 (c' := (197, [.ref 28, .int y, .int r, .int s, .int 0, .int v22, .int 0, .int 1, .int v67, .float 0], [], (h.1, h.2.1, J78, h.2.2.2))) rfl ?_
                              exact hq_land00 (h := (h.1, h.2.1, J78, h.2.2.2)) hH hB hV (by omega) (by omega) (by omega) (fun c => absurd z65 c) (p_at q_v22 (by omega) (by omega)) (p_no q_v16 (by omega) (by omega)) (fun v I hB2 hV2 hm2 ev => k (some (.int v)) I _ ⟨_, rfl, ⟨by show (-3 : Int) ≤ v.toInt; omega, by show v.toInt ≤ (2 : Int); omega⟩⟩ hB2 hV2 hm2)
                            · refine qm_Ru.go 1 (c' := (196, [.ref 28, .int y, .int r, .int s, .int 0, .int v22, .int 0, .int 1, .int v67, .float 0], [.int (-3)], (h.1, h.2.1, J78, h.2.2.2))) rfl ?_
                              refine qm_Ru.rt (v := (some (.int (-3)))) (h' := (h.1, h.2.1, J78, h.2.2.2)) rfl ?_
                              exact k (some (.int (-3))) (h.2.1) (J78) ⟨_, rfl, ⟨by decide, by decide⟩⟩ hB hV (fun _ _ _ => rfl)
                        · refine qm_Ru.go 1 (c' := (169, [.ref 28, .int y, .int r, .int s, .int 0, .int v22, .int 0, .int 1, .int v67, .float 0], [.int (-2)], h)) rfl ?_
                          refine qm_Ru.rt (v := (some (.int (-2)))) (h' := h) rfl ?_
                          exact k (some (.int (-2))) (h.2.1) (h.2.2.1) ⟨_, rfl, ⟨by decide, by decide⟩⟩ hB hV (fun _ _ _ => rfl)
                      · refine qm_Ru.go 1 (c' := (97, [.ref 28, .int y, .int r, .int s, .int 0, .int v22, .int 0, .int 1, .float 0, .float 0], [.ref 28], h)) rfl ?_
                        refine hk_getr rfl (hH.1 28 (9, 8) rfl) rfl (hH.2 28 1 (some 15) rfl) ?_
                        refine qm_Ru.go 1 (c' := (101, [.ref 28, .int y, .int r, .int s, .int 0, .int v22, .int 0, .int 1, .float 0, .float 0], [.int s, .ref 15], h)) rfl ?_
                        refine hk_inv (o := 15) (r := []) (as := [.ref 15, .int s]) rfl rfl (hH.1 15 (15, 8) rfl) rfl rfl rfl rfl ?_
                        refine qm_Ru.go 2 (c' := (2, [.ref 15, .int s], [.ref 15, .int 4], h)) rfl ?_
                        refine hk_getr rfl (hH.1 15 (15, 8) rfl) rfl (hH.2 15 2 (some 17) rfl) ?_
                        refine qm_Ru.go 1 (c' := (6, [.ref 15, .int s], [.int s, .ref 17, .int 4], h)) rfl ?_
                        obtain ⟨v80, q_v80⟩ : ∃ v, h.2.1 17 (s.toInt.toNat) = v := ⟨_, rfl⟩
                        have b_v80 : (0 : Int) ≤ v80.toInt ∧ v80.toInt ≤ 4 := by rw [← q_v80]; exact hB 17 (s.toInt.toNat)
                        refine hk_ial (v := v80) rfl (hH.1 17 (0, 4) rfl) (by omega) (by omega) q_v80 ?_
                        refine qm_Ru.go 1 (c' := (8, [.ref 15, .int s], [.int (4 - v80)], h)) rfl ?_
                        obtain ⟨v81, q_v81, e_v81⟩ := hk_sub (x := 4) (y := v80) (a := 4) (b := v80.toInt) rfl rfl (by omega) (by omega)
                        rw [q_v81]
                        refine qm_Ru.rt (v := (some (.int v81))) (h' := h) rfl ?_
                        refine qm_Ru.go 1 (c' := (106, [.ref 28, .int y, .int r, .int s, .int 0, .int v22, .int 0, .int 1, .float 0, .float 0], [.int 1, .int v81], h)) rfl ?_
                        refine hk_cge (ix := v81.toInt) (iy := 1) rfl rfl rfl (fun z82 => ?_) (fun z82 => ?_)
                        · refine qm_Ru.go 0 (c' := (111, [.ref 28, .int y, .int r, .int s, .int 0, .int v22, .int 0, .int 1, .float 0, .float 0], [], h)) rfl ?_
                          refine qm_Ru.go 1 (c' := (112, [.ref 28, .int y, .int r, .int s, .int 0, .int v22, .int 0, .int 1, .float 0, .float 0], [.ref 28], h)) rfl ?_
                          refine hk_getr rfl (hH.1 28 (9, 8) rfl) rfl (hH.2 28 0 (some 6) rfl) ?_
                          refine qm_Ru.go 0 (c' := (115, [.ref 28, .int y, .int r, .int s, .int 0, .int v22, .int 0, .int 1, .float 0, .float 0], [.ref 6], h)) rfl ?_
                          refine hk_getr rfl (hH.1 6 (6, 9) rfl) rfl (hH.2 6 1 (some 7) rfl) ?_
                          refine qm_Ru.go 1 (c' := (120, [.ref 28, .int y, .int r, .int s, .int 0, .int v22, .int 0, .int 1, .float 0, .float 0], [.int v22, .ref 7], h)) rfl ?_
                          obtain ⟨v83, q_v83⟩ : ∃ v, h.2.1 7 (v22.toInt.toNat) = v := ⟨_, rfl⟩
                          have b_v83 : (0 : Int) ≤ v83.toInt ∧ v83.toInt ≤ 40 := by rw [← q_v83]; exact hB 7 (v22.toInt.toNat)
                          refine hk_ial (v := v83) rfl (hH.1 7 (0, 30) rfl) (by omega) (by omega) q_v83 ?_
                          refine qm_Ru.go 5 (c' := (153, [.ref 28, .int y, .int r, .int s, .int 0, .int v22, .int 0, .int 1, .float 0, .float 0], [.int (v83 + 0)], h)) rfl ?_
                          obtain ⟨v84, q_v84, e_v84⟩ := hk_add (x := v83) (y := 0) (a := v83.toInt) (b := 0) rfl rfl (by omega) (by omega)
                          rw [q_v84]
                          refine qm_Ru.go 3 (c' := (158, [.ref 28, .int y, .int r, .int s, .int 0, .int v22, .int 0, .int 1, .int v84, .float 0], [.ref 28, .int v84], h)) rfl ?_
                          refine hk_getr rfl (hH.1 28 (9, 8) rfl) rfl hT.2 ?_
                          refine qm_Ru.go 0 (c' := (161, [.ref 28, .int y, .int r, .int s, .int 0, .int v22, .int 0, .int 1, .int v84, .float 0], [.ref 29, .int v84], h)) rfl ?_
                          obtain ⟨v85, q_v85⟩ : ∃ v, h.2.1 29 4 = v := ⟨_, rfl⟩
                          refine hk_geti (v := v85) rfl (hH.1 29 (11, 16) rfl) rfl q_v85 ?_
                          refine qm_Ru.go 0 (c' := (164, [.ref 28, .int y, .int r, .int s, .int 0, .int v22, .int 0, .int 1, .int v84, .float 0], [.int v85, .int v84], h)) rfl ?_
                          refine hk_cle (ix := v84.toInt) (iy := v85.toInt) rfl rfl rfl (fun z86 => ?_) (fun z86 => ?_)
                          · refine qm_Ru.go 5 (c' := (176, [.ref 28, .int y, .int r, .int s, .int 0, .int v22, .int 0, .int 1, .int v84, .float 0], [.int (-v84), .int r, .int y, .ref 28], h)) rfl ?_
                            obtain ⟨v87, q_v87, e_v87⟩ := hk_neg (x := v84) (a := v84.toInt) rfl (by omega)
                            rw [q_v87]
                            refine hk_inv (o := 28) (r := []) (as := [.ref 28, .int y, .int r, .int v87]) rfl rfl (hH.1 28 (9, 8) rfl) rfl rfl rfl rfl (hs_borne29 h6 hH hT hB (v_C_ru hV) ⟨by show (0 : Int) ≤ y.toInt; omega, by show y.toInt ≤ (4 : Int); omega⟩ ⟨by show (0 : Int) ≤ r.toInt; omega, by show r.toInt ≤ (3 : Int); omega⟩ (qa_in_full _) (by omega) (fun v88 I89 J90 c_v88 _ e_I89 => ?_))
                            have e_I89 : I89 = h.2.1 := funext fun o => funext fun i => e_I89 o rfl i
                            subst e_I89
                            have b_v88 : (0 : Int) ≤ v88.toInt ∧ v88.toInt ≤ 1 := c_v88
                            refine qm_Ru.go 0 (c' := (179, [.ref 28, .int y, .int r, .int s, .int 0, .int v22, .int 0, .int 1, .int v84, .float 0], [.int v88], (h.1, h.2.1, J90, h.2.2.2))) rfl ?_
                            refine hk_zne (ix := v88.toInt) rfl rfl (fun z91 => ?_) (fun z91 => ?_)
                            · refine qm_Ru.go 0 (c' := (197, [.ref 28, .int y, .int r, .int s, .int 0, .int v22, .int 0, .int 1, .int v84, .float 0], [], (h.1, h.2.1, J90, h.2.2.2))) rfl ?_
                              exact hq_land00 (h := (h.1, h.2.1, J90, h.2.2.2)) hH hB hV (by omega) (by omega) (by omega) (fun _ => by rw [q_v80]; omega) (p_at q_v22 (by omega) (by omega)) (p_no q_v16 (by omega) (by omega)) (fun v I hB2 hV2 hm2 ev => k (some (.int v)) I _ ⟨_, rfl, ⟨by show (-3 : Int) ≤ v.toInt; omega, by show v.toInt ≤ (2 : Int); omega⟩⟩ hB2 hV2 hm2)
                            · refine qm_Ru.go 5 (c' := (188, [.ref 28, .int y, .int r, .int s, .int 0, .int v22, .int 0, .int 1, .int v84, .float 0], [.int (-v84), .int r, .int y, .ref 28], (h.1, h.2.1, J90, h.2.2.2))) rfl ?_
                              rw [q_v87]
                              refine hk_inv (o := 28) (r := []) (as := [.ref 28, .int y, .int r, .int v87]) rfl rfl (hH.1 28 (9, 8) rfl) rfl rfl rfl rfl (hs_nowor29 h6 hH hT hB (v_C_ru hV) ⟨by show (0 : Int) ≤ y.toInt; omega, by show y.toInt ≤ (4 : Int); omega⟩ ⟨by show (0 : Int) ≤ r.toInt; omega, by show r.toInt ≤ (3 : Int); omega⟩ (qa_in_full _) (by omega) (fun v93 I94 J95 c_v93 _ e_I94 => ?_))
                              have e_I94 : I94 = h.2.1 := funext fun o => funext fun i => e_I94 o rfl i
                              subst e_I94
                              have b_v93 : (0 : Int) ≤ v93.toInt ∧ v93.toInt ≤ 1 := c_v93
                              refine qm_Ru.go 0 (c' := (191, [.ref 28, .int y, .int r, .int s, .int 0, .int v22, .int 0, .int 1, .int v84, .float 0], [.int v93], (h.1, h.2.1, J95, h.2.2.2))) rfl ?_
                              refine hk_zne (ix := v93.toInt) rfl rfl (fun z96 => ?_) (fun z96 => ?_)
                              · refine qm_Ru.go 0 (c' := (197, [.ref 28, .int y, .int r, .int s, .int 0, .int v22, .int 0, .int 1, .int v84, .float 0], [], (h.1, h.2.1, J95, h.2.2.2))) rfl ?_
                                exact hq_land00 (h := (h.1, h.2.1, J95, h.2.2.2)) hH hB hV (by omega) (by omega) (by omega) (fun _ => by rw [q_v80]; omega) (p_at q_v22 (by omega) (by omega)) (p_no q_v16 (by omega) (by omega)) (fun v I hB2 hV2 hm2 ev => k (some (.int v)) I _ ⟨_, rfl, ⟨by show (-3 : Int) ≤ v.toInt; omega, by show v.toInt ≤ (2 : Int); omega⟩⟩ hB2 hV2 hm2)
                              · refine qm_Ru.go 1 (c' := (196, [.ref 28, .int y, .int r, .int s, .int 0, .int v22, .int 0, .int 1, .int v84, .float 0], [.int (-3)], (h.1, h.2.1, J95, h.2.2.2))) rfl ?_
                                refine qm_Ru.rt (v := (some (.int (-3)))) (h' := (h.1, h.2.1, J95, h.2.2.2)) rfl ?_
                                exact k (some (.int (-3))) (h.2.1) (J95) ⟨_, rfl, ⟨by decide, by decide⟩⟩ hB hV (fun _ _ _ => rfl)
                          · refine qm_Ru.go 1 (c' := (169, [.ref 28, .int y, .int r, .int s, .int 0, .int v22, .int 0, .int 1, .int v84, .float 0], [.int (-2)], h)) rfl ?_
                            refine qm_Ru.rt (v := (some (.int (-2)))) (h' := h) rfl ?_
                            exact k (some (.int (-2))) (h.2.1) (h.2.2.1) ⟨_, rfl, ⟨by decide, by decide⟩⟩ hB hV (fun _ _ _ => rfl)
                        · refine qm_Ru.go 1 (c' := (110, [.ref 28, .int y, .int r, .int s, .int 0, .int v22, .int 0, .int 1, .float 0, .float 0], [.int (-1)], h)) rfl ?_
                          refine qm_Ru.rt (v := (some (.int (-1)))) (h' := h) rfl ?_
                          exact k (some (.int (-1))) (h.2.1) (h.2.2.1) ⟨_, rfl, ⟨by decide, by decide⟩⟩ hB hV (fun _ _ _ => rfl)
                · refine qm_Ru.go 3 (c' := (26, [.ref 28, .int y, .int r, .int 0], [.int 1], h)) rfl ?_
                  refine qm_Ru.rt (v := (some (.int 1))) (h' := h) rfl ?_
                  refine qm_Ru.go 5 (c' := (35, [.ref 28, .int y, .int r, .int s, .int 1, .float 0, .float 0, .float 0, .float 0, .float 0], [.ref 28], h)) rfl ?_
                  refine hk_getr rfl (hH.1 28 (9, 8) rfl) rfl (hH.2 28 3 (some 36) rfl) ?_
                  refine qm_Ru.go 3 (c' := (42, [.ref 28, .int y, .int r, .int s, .int 1, .float 0, .float 0, .float 0, .float 0, .float 0], [.int 1, .int r, .int y, .ref 36], h)) rfl ?_
                  refine qm_Ru.call (j := 75) (as := [.int y, .int r, .int 1]) (c' := (45, [.ref 28, .int y, .int r, .int s, .int 1, .float 0, .float 0, .float 0, .float 0, .float 0], [.ref 36], h)) rfl rfl rfl ?_
                  refine qm_Ru.go 3 (c' := (3, [.int y, .int r, .int 1], [.int (y * 4)], h)) rfl ?_
                  rw [q_v12]
                  refine qm_Ru.go 2 (c' := (5, [.int y, .int r, .int 1], [.int (v12 + r)], h)) rfl ?_
                  rw [q_v13]
                  refine qm_Ru.go 2 (c' := (7, [.int y, .int r, .int 1], [.int (v13 * 4)], h)) rfl ?_
                  rw [q_v14]
                  refine qm_Ru.go 2 (c' := (9, [.int y, .int r, .int 1], [.int (v14 + 1)], h)) rfl ?_
                  rw [q_v15]
                  refine qm_Ru.rt (v := (some (.int v15))) (h' := h) rfl ?_
                  refine qm_Ru.go 0 (c' := (45, [.ref 28, .int y, .int r, .int s, .int 1, .float 0, .float 0, .float 0, .float 0, .float 0], [.int v15, .ref 36], h)) rfl ?_
                  refine hk_ial (v := v16) rfl (hH.1 36 (0, 80) rfl) (by omega) (by omega) q_v16 ?_
                  refine qm_Ru.go 2 (c' := (49, [.ref 28, .int y, .int r, .int s, .int 1, .int v16, .float 0, .float 0, .float 0, .float 0], [.ref 28], h)) rfl ?_
                  refine hk_getr rfl (hH.1 28 (9, 8) rfl) rfl (hH.2 28 0 (some 6) rfl) ?_
                  refine qm_Ru.go 0 (c' := (52, [.ref 28, .int y, .int r, .int s, .int 1, .int v16, .float 0, .float 0, .float 0, .float 0], [.ref 6], h)) rfl ?_
                  refine hk_getr rfl (hH.1 6 (6, 9) rfl) rfl (hH.2 6 4 (some 10) rfl) ?_
                  refine qm_Ru.go 1 (c' := (57, [.ref 28, .int y, .int r, .int s, .int 1, .int v16, .float 0, .float 0, .float 0, .float 0], [.int v16, .ref 10], h)) rfl ?_
                  obtain ⟨v101, q_v101⟩ : ∃ v, h.2.1 10 (v16.toInt.toNat) = v := ⟨_, rfl⟩
                  have b_v101 : (0 : Int) ≤ v101.toInt ∧ v101.toInt ≤ 1 := by rw [← q_v101]; exact hB 10 (v16.toInt.toNat)
                  refine hk_bal (v := v101) rfl (hH.1 10 (2, 30) rfl) (by decide) (by omega) (by omega) q_v101 ?_
                  refine qm_Ru.go 0 (c' := (58, [.ref 28, .int y, .int r, .int s, .int 1, .int v16, .float 0, .float 0, .float 0, .float 0], [.int v101], h)) rfl ?_
                  refine hk_zeq (ix := v101.toInt) rfl rfl (fun z102 => ?_) (fun z102 => ?_)
                  · refine qm_Ru.go 10 (c' := (93, [.ref 28, .int y, .int r, .int s, .int 1, .int v16, .int 1, .int 1, .float 0, .float 0], [.int (-1), .int s], h)) rfl ?_
                    refine hk_ceq (ix := s.toInt) (iy := (-1)) rfl rfl rfl (fun z103 => ?_) (fun z103 => ?_)
                    · refine qm_Ru.go 0 (c' := (111, [.ref 28, .int y, .int r, .int s, .int 1, .int v16, .int 1, .int 1, .float 0, .float 0], [], h)) rfl ?_
                      refine qm_Ru.go 1 (c' := (112, [.ref 28, .int y, .int r, .int s, .int 1, .int v16, .int 1, .int 1, .float 0, .float 0], [.ref 28], h)) rfl ?_
                      refine hk_getr rfl (hH.1 28 (9, 8) rfl) rfl (hH.2 28 0 (some 6) rfl) ?_
                      refine qm_Ru.go 0 (c' := (115, [.ref 28, .int y, .int r, .int s, .int 1, .int v16, .int 1, .int 1, .float 0, .float 0], [.ref 6], h)) rfl ?_
                      refine hk_getr rfl (hH.1 6 (6, 9) rfl) rfl (hH.2 6 1 (some 7) rfl) ?_
                      refine qm_Ru.go 1 (c' := (120, [.ref 28, .int y, .int r, .int s, .int 1, .int v16, .int 1, .int 1, .float 0, .float 0], [.int v16, .ref 7], h)) rfl ?_
                      obtain ⟨v104, q_v104⟩ : ∃ v, h.2.1 7 (v16.toInt.toNat) = v := ⟨_, rfl⟩
                      have b_v104 : (0 : Int) ≤ v104.toInt ∧ v104.toInt ≤ 40 := by rw [← q_v104]; exact hB 7 (v16.toInt.toNat)
                      refine hk_ial (v := v104) rfl (hH.1 7 (0, 30) rfl) (by omega) (by omega) q_v104 ?_
                      refine qm_Ru.go 5 (c' := (153, [.ref 28, .int y, .int r, .int s, .int 1, .int v16, .int 1, .int 1, .float 0, .float 0], [.int (v104 + 0)], h)) rfl ?_
                      obtain ⟨v105, q_v105, e_v105⟩ := hk_add (x := v104) (y := 0) (a := v104.toInt) (b := 0) rfl rfl (by omega) (by omega)
                      rw [q_v105]
                      refine qm_Ru.go 3 (c' := (158, [.ref 28, .int y, .int r, .int s, .int 1, .int v16, .int 1, .int 1, .int v105, .float 0], [.ref 28, .int v105], h)) rfl ?_
                      refine hk_getr rfl (hH.1 28 (9, 8) rfl) rfl hT.2 ?_
                      refine qm_Ru.go 0 (c' := (161, [.ref 28, .int y, .int r, .int s, .int 1, .int v16, .int 1, .int 1, .int v105, .float 0], [.ref 29, .int v105], h)) rfl ?_
                      obtain ⟨v106, q_v106⟩ : ∃ v, h.2.1 29 4 = v := ⟨_, rfl⟩
                      refine hk_geti (v := v106) rfl (hH.1 29 (11, 16) rfl) rfl q_v106 ?_
                      refine qm_Ru.go 0 (c' := (164, [.ref 28, .int y, .int r, .int s, .int 1, .int v16, .int 1, .int 1, .int v105, .float 0], [.int v106, .int v105], h)) rfl ?_
                      refine hk_cle (ix := v105.toInt) (iy := v106.toInt) rfl rfl rfl (fun z107 => ?_) (fun z107 => ?_)
                      · refine qm_Ru.go 5 (c' := (176, [.ref 28, .int y, .int r, .int s, .int 1, .int v16, .int 1, .int 1, .int v105, .float 0], [.int (-v105), .int r, .int y, .ref 28], h)) rfl ?_
                        obtain ⟨v108, q_v108, e_v108⟩ := hk_neg (x := v105) (a := v105.toInt) rfl (by omega)
                        rw [q_v108]
                        refine hk_inv (o := 28) (r := []) (as := [.ref 28, .int y, .int r, .int v108]) rfl rfl (hH.1 28 (9, 8) rfl) rfl rfl rfl rfl (hs_borne29 h6 hH hT hB (v_C_ru hV) ⟨by show (0 : Int) ≤ y.toInt; omega, by show y.toInt ≤ (4 : Int); omega⟩ ⟨by show (0 : Int) ≤ r.toInt; omega, by show r.toInt ≤ (3 : Int); omega⟩ (qa_in_full _) (by omega) (fun v109 I110 J111 c_v109 _ e_I110 => ?_))
                        have e_I110 : I110 = h.2.1 := funext fun o => funext fun i => e_I110 o rfl i
                        subst e_I110
                        have b_v109 : (0 : Int) ≤ v109.toInt ∧ v109.toInt ≤ 1 := c_v109
                        refine qm_Ru.go 0 (c' := (179, [.ref 28, .int y, .int r, .int s, .int 1, .int v16, .int 1, .int 1, .int v105, .float 0], [.int v109], (h.1, h.2.1, J111, h.2.2.2))) rfl ?_
                        refine hk_zne (ix := v109.toInt) rfl rfl (fun z112 => ?_) (fun z112 => ?_)
                        · refine qm_Ru.go 0 (c' := (197, [.ref 28, .int y, .int r, .int s, .int 1, .int v16, .int 1, .int 1, .int v105, .float 0], [], (h.1, h.2.1, J111, h.2.2.2))) rfl ?_
                          exact hq_land11 (h := (h.1, h.2.1, J111, h.2.2.2)) hH hB hV (by omega) (by omega) (by omega) (fun c => absurd z103 c) (p_at q_v16 (by omega) (by omega)) (fun v I hB2 hV2 hm2 ev => k (some (.int v)) I _ ⟨_, rfl, ⟨by show (-3 : Int) ≤ v.toInt; omega, by show v.toInt ≤ (2 : Int); omega⟩⟩ hB2 hV2 hm2)
                        · refine qm_Ru.go 5 (c' := (188, [.ref 28, .int y, .int r, .int s, .int 1, .int v16, .int 1, .int 1, .int v105, .float 0], [.int (-v105), .int r, .int y, .ref 28], (h.1, h.2.1, J111, h.2.2.2))) rfl ?_
                          rw [q_v108]
                          refine hk_inv (o := 28) (r := []) (as := [.ref 28, .int y, .int r, .int v108]) rfl rfl (hH.1 28 (9, 8) rfl) rfl rfl rfl rfl (hs_nowor29 h6 hH hT hB (v_C_ru hV) ⟨by show (0 : Int) ≤ y.toInt; omega, by show y.toInt ≤ (4 : Int); omega⟩ ⟨by show (0 : Int) ≤ r.toInt; omega, by show r.toInt ≤ (3 : Int); omega⟩ (qa_in_full _) (by omega) (fun v114 I115 J116 c_v114 _ e_I115 => ?_))
                          have e_I115 : I115 = h.2.1 := funext fun o => funext fun i => e_I115 o rfl i
                          subst e_I115
                          have b_v114 : (0 : Int) ≤ v114.toInt ∧ v114.toInt ≤ 1 := c_v114
                          refine qm_Ru.go 0 (c' := (191, [.ref 28, .int y, .int r, .int s, .int 1, .int v16, .int 1, .int 1, .int v105, .float 0], [.int v114], (h.1, h.2.1, J116, h.2.2.2))) rfl ?_
                          refine hk_zne (ix := v114.toInt) rfl rfl (fun z117 => ?_) (fun z117 => ?_)
                          · refine qm_Ru.go 0 (c' := (197, [.ref 28, .int y, .int r, .int s, .int 1, .int v16, .int 1, .int 1, .int v105, .float 0], [], (h.1, h.2.1, J116, h.2.2.2))) rfl ?_
                            exact hq_land11 (h := (h.1, h.2.1, J116, h.2.2.2)) hH hB hV (by omega) (by omega) (by omega) (fun c => absurd z103 c) (p_at q_v16 (by omega) (by omega)) (fun v I hB2 hV2 hm2 ev => k (some (.int v)) I _ ⟨_, rfl, ⟨by show (-3 : Int) ≤ v.toInt; omega, by show v.toInt ≤ (2 : Int); omega⟩⟩ hB2 hV2 hm2)
                          · refine qm_Ru.go 1 (c' := (196, [.ref 28, .int y, .int r, .int s, .int 1, .int v16, .int 1, .int 1, .int v105, .float 0], [.int (-3)], (h.1, h.2.1, J116, h.2.2.2))) rfl ?_
                            refine qm_Ru.rt (v := (some (.int (-3)))) (h' := (h.1, h.2.1, J116, h.2.2.2)) rfl ?_
                            exact k (some (.int (-3))) (h.2.1) (J116) ⟨_, rfl, ⟨by decide, by decide⟩⟩ hB hV (fun _ _ _ => rfl)
                      · refine qm_Ru.go 1 (c' := (169, [.ref 28, .int y, .int r, .int s, .int 1, .int v16, .int 1, .int 1, .int v105, .float 0], [.int (-2)], h)) rfl ?_
                        refine qm_Ru.rt (v := (some (.int (-2)))) (h' := h) rfl ?_
                        exact k (some (.int (-2))) (h.2.1) (h.2.2.1) ⟨_, rfl, ⟨by decide, by decide⟩⟩ hB hV (fun _ _ _ => rfl)
                    · refine qm_Ru.go 1 (c' := (97, [.ref 28, .int y, .int r, .int s, .int 1, .int v16, .int 1, .int 1, .float 0, .float 0], [.ref 28], h)) rfl ?_
                      refine hk_getr rfl (hH.1 28 (9, 8) rfl) rfl (hH.2 28 1 (some 15) rfl) ?_
                      refine qm_Ru.go 1 (c' := (101, [.ref 28, .int y, .int r, .int s, .int 1, .int v16, .int 1, .int 1, .float 0, .float 0], [.int s, .ref 15], h)) rfl ?_
                      refine hk_inv (o := 15) (r := []) (as := [.ref 15, .int s]) rfl rfl (hH.1 15 (15, 8) rfl) rfl rfl rfl rfl ?_
                      refine qm_Ru.go 2 (c' := (2, [.ref 15, .int s], [.ref 15, .int 4], h)) rfl ?_
                      refine hk_getr rfl (hH.1 15 (15, 8) rfl) rfl (hH.2 15 2 (some 17) rfl) ?_
                      refine qm_Ru.go 1 (c' := (6, [.ref 15, .int s], [.int s, .ref 17, .int 4], h)) rfl ?_
                      obtain ⟨v118, q_v118⟩ : ∃ v, h.2.1 17 (s.toInt.toNat) = v := ⟨_, rfl⟩
                      have b_v118 : (0 : Int) ≤ v118.toInt ∧ v118.toInt ≤ 4 := by rw [← q_v118]; exact hB 17 (s.toInt.toNat)
                      refine hk_ial (v := v118) rfl (hH.1 17 (0, 4) rfl) (by omega) (by omega) q_v118 ?_
                      refine qm_Ru.go 1 (c' := (8, [.ref 15, .int s], [.int (4 - v118)], h)) rfl ?_
                      obtain ⟨v119, q_v119, e_v119⟩ := hk_sub (x := 4) (y := v118) (a := 4) (b := v118.toInt) rfl rfl (by omega) (by omega)
                      rw [q_v119]
                      refine qm_Ru.rt (v := (some (.int v119))) (h' := h) rfl ?_
                      refine qm_Ru.go 1 (c' := (106, [.ref 28, .int y, .int r, .int s, .int 1, .int v16, .int 1, .int 1, .float 0, .float 0], [.int 1, .int v119], h)) rfl ?_
                      refine hk_cge (ix := v119.toInt) (iy := 1) rfl rfl rfl (fun z120 => ?_) (fun z120 => ?_)
                      · refine qm_Ru.go 0 (c' := (111, [.ref 28, .int y, .int r, .int s, .int 1, .int v16, .int 1, .int 1, .float 0, .float 0], [], h)) rfl ?_
                        refine qm_Ru.go 1 (c' := (112, [.ref 28, .int y, .int r, .int s, .int 1, .int v16, .int 1, .int 1, .float 0, .float 0], [.ref 28], h)) rfl ?_
                        refine hk_getr rfl (hH.1 28 (9, 8) rfl) rfl (hH.2 28 0 (some 6) rfl) ?_
                        refine qm_Ru.go 0 (c' := (115, [.ref 28, .int y, .int r, .int s, .int 1, .int v16, .int 1, .int 1, .float 0, .float 0], [.ref 6], h)) rfl ?_
                        refine hk_getr rfl (hH.1 6 (6, 9) rfl) rfl (hH.2 6 1 (some 7) rfl) ?_
                        refine qm_Ru.go 1 (c' := (120, [.ref 28, .int y, .int r, .int s, .int 1, .int v16, .int 1, .int 1, .float 0, .float 0], [.int v16, .ref 7], h)) rfl ?_
                        obtain ⟨v121, q_v121⟩ : ∃ v, h.2.1 7 (v16.toInt.toNat) = v := ⟨_, rfl⟩
                        have b_v121 : (0 : Int) ≤ v121.toInt ∧ v121.toInt ≤ 40 := by rw [← q_v121]; exact hB 7 (v16.toInt.toNat)
                        refine hk_ial (v := v121) rfl (hH.1 7 (0, 30) rfl) (by omega) (by omega) q_v121 ?_
                        refine qm_Ru.go 5 (c' := (153, [.ref 28, .int y, .int r, .int s, .int 1, .int v16, .int 1, .int 1, .float 0, .float 0], [.int (v121 + 0)], h)) rfl ?_
                        obtain ⟨v122, q_v122, e_v122⟩ := hk_add (x := v121) (y := 0) (a := v121.toInt) (b := 0) rfl rfl (by omega) (by omega)
                        rw [q_v122]
                        refine qm_Ru.go 3 (c' := (158, [.ref 28, .int y, .int r, .int s, .int 1, .int v16, .int 1, .int 1, .int v122, .float 0], [.ref 28, .int v122], h)) rfl ?_
                        refine hk_getr rfl (hH.1 28 (9, 8) rfl) rfl hT.2 ?_
                        refine qm_Ru.go 0 (c' := (161, [.ref 28, .int y, .int r, .int s, .int 1, .int v16, .int 1, .int 1, .int v122, .float 0], [.ref 29, .int v122], h)) rfl ?_
                        obtain ⟨v123, q_v123⟩ : ∃ v, h.2.1 29 4 = v := ⟨_, rfl⟩
                        refine hk_geti (v := v123) rfl (hH.1 29 (11, 16) rfl) rfl q_v123 ?_
                        refine qm_Ru.go 0 (c' := (164, [.ref 28, .int y, .int r, .int s, .int 1, .int v16, .int 1, .int 1, .int v122, .float 0], [.int v123, .int v122], h)) rfl ?_
                        refine hk_cle (ix := v122.toInt) (iy := v123.toInt) rfl rfl rfl (fun z124 => ?_) (fun z124 => ?_)
                        · refine qm_Ru.go 5 (c' := (176, [.ref 28, .int y, .int r, .int s, .int 1, .int v16, .int 1, .int 1, .int v122, .float 0], [.int (-v122), .int r, .int y, .ref 28], h)) rfl ?_
                          obtain ⟨v125, q_v125, e_v125⟩ := hk_neg (x := v122) (a := v122.toInt) rfl (by omega)
                          rw [q_v125]
                          refine hk_inv (o := 28) (r := []) (as := [.ref 28, .int y, .int r, .int v125]) rfl rfl (hH.1 28 (9, 8) rfl) rfl rfl rfl rfl (hs_borne29 h6 hH hT hB (v_C_ru hV) ⟨by show (0 : Int) ≤ y.toInt; omega, by show y.toInt ≤ (4 : Int); omega⟩ ⟨by show (0 : Int) ≤ r.toInt; omega, by show r.toInt ≤ (3 : Int); omega⟩ (qa_in_full _) (by omega) (fun v126 I127 J128 c_v126 _ e_I127 => ?_))
                          have e_I127 : I127 = h.2.1 := funext fun o => funext fun i => e_I127 o rfl i
                          subst e_I127
                          have b_v126 : (0 : Int) ≤ v126.toInt ∧ v126.toInt ≤ 1 := c_v126
                          refine qm_Ru.go 0 (c' := (179, [.ref 28, .int y, .int r, .int s, .int 1, .int v16, .int 1, .int 1, .int v122, .float 0], [.int v126], (h.1, h.2.1, J128, h.2.2.2))) rfl ?_
                          refine hk_zne (ix := v126.toInt) rfl rfl (fun z129 => ?_) (fun z129 => ?_)
                          · refine qm_Ru.go 0 (c' := (197, [.ref 28, .int y, .int r, .int s, .int 1, .int v16, .int 1, .int 1, .int v122, .float 0], [], (h.1, h.2.1, J128, h.2.2.2))) rfl ?_
                            exact hq_land11 (h := (h.1, h.2.1, J128, h.2.2.2)) hH hB hV (by omega) (by omega) (by omega) (fun _ => by rw [q_v118]; omega) (p_at q_v16 (by omega) (by omega)) (fun v I hB2 hV2 hm2 ev => k (some (.int v)) I _ ⟨_, rfl, ⟨by show (-3 : Int) ≤ v.toInt; omega, by show v.toInt ≤ (2 : Int); omega⟩⟩ hB2 hV2 hm2)
                          · refine qm_Ru.go 5 (c' := (188, [.ref 28, .int y, .int r, .int s, .int 1, .int v16, .int 1, .int 1, .int v122, .float 0], [.int (-v122), .int r, .int y, .ref 28], (h.1, h.2.1, J128, h.2.2.2))) rfl ?_
                            rw [q_v125]
                            refine hk_inv (o := 28) (r := []) (as := [.ref 28, .int y, .int r, .int v125]) rfl rfl (hH.1 28 (9, 8) rfl) rfl rfl rfl rfl (hs_nowor29 h6 hH hT hB (v_C_ru hV) ⟨by show (0 : Int) ≤ y.toInt; omega, by show y.toInt ≤ (4 : Int); omega⟩ ⟨by show (0 : Int) ≤ r.toInt; omega, by show r.toInt ≤ (3 : Int); omega⟩ (qa_in_full _) (by omega) (fun v131 I132 J133 c_v131 _ e_I132 => ?_))
                            have e_I132 : I132 = h.2.1 := funext fun o => funext fun i => e_I132 o rfl i
                            subst e_I132
                            have b_v131 : (0 : Int) ≤ v131.toInt ∧ v131.toInt ≤ 1 := c_v131
                            refine qm_Ru.go 0 (c' := (191, [.ref 28, .int y, .int r, .int s, .int 1, .int v16, .int 1, .int 1, .int v122, .float 0], [.int v131], (h.1, h.2.1, J133, h.2.2.2))) rfl ?_
                            refine hk_zne (ix := v131.toInt) rfl rfl (fun z134 => ?_) (fun z134 => ?_)
                            · refine qm_Ru.go 0 (c' := (197, [.ref 28, .int y, .int r, .int s, .int 1, .int v16, .int 1, .int 1, .int v122, .float 0], [], (h.1, h.2.1, J133, h.2.2.2))) rfl ?_
                              exact hq_land11 (h := (h.1, h.2.1, J133, h.2.2.2)) hH hB hV (by omega) (by omega) (by omega) (fun _ => by rw [q_v118]; omega) (p_at q_v16 (by omega) (by omega)) (fun v I hB2 hV2 hm2 ev => k (some (.int v)) I _ ⟨_, rfl, ⟨by show (-3 : Int) ≤ v.toInt; omega, by show v.toInt ≤ (2 : Int); omega⟩⟩ hB2 hV2 hm2)
                            · refine qm_Ru.go 1 (c' := (196, [.ref 28, .int y, .int r, .int s, .int 1, .int v16, .int 1, .int 1, .int v122, .float 0], [.int (-3)], (h.1, h.2.1, J133, h.2.2.2))) rfl ?_
                              refine qm_Ru.rt (v := (some (.int (-3)))) (h' := (h.1, h.2.1, J133, h.2.2.2)) rfl ?_
                              exact k (some (.int (-3))) (h.2.1) (J133) ⟨_, rfl, ⟨by decide, by decide⟩⟩ hB hV (fun _ _ _ => rfl)
                        · refine qm_Ru.go 1 (c' := (169, [.ref 28, .int y, .int r, .int s, .int 1, .int v16, .int 1, .int 1, .int v122, .float 0], [.int (-2)], h)) rfl ?_
                          refine qm_Ru.rt (v := (some (.int (-2)))) (h' := h) rfl ?_
                          exact k (some (.int (-2))) (h.2.1) (h.2.2.1) ⟨_, rfl, ⟨by decide, by decide⟩⟩ hB hV (fun _ _ _ => rfl)
                      · refine qm_Ru.go 1 (c' := (110, [.ref 28, .int y, .int r, .int s, .int 1, .int v16, .int 1, .int 1, .float 0, .float 0], [.int (-1)], h)) rfl ?_
                        refine qm_Ru.rt (v := (some (.int (-1)))) (h' := h) rfl ?_
                        exact k (some (.int (-1))) (h.2.1) (h.2.2.1) ⟨_, rfl, ⟨by decide, by decide⟩⟩ hB hV (fun _ _ _ => rfl)
                  · refine qm_Ru.go 3 (c' := (65, [.ref 28, .int y, .int r, .int s, .int 1, .int v16, .float 0, .float 0, .float 0, .float 0], [.int y, .ref 28, .int 1], h)) rfl ?_
                    refine hk_inv (o := 28) (r := [.int 1]) (as := [.ref 28, .int y]) rfl rfl (hH.1 28 (9, 8) rfl) rfl rfl rfl rfl ?_
                    refine qm_Ru.go 2 (c' := (2, [.ref 28, .int y], [.int y, .ref 28], h)) rfl ?_
                    refine hk_inv (o := 28) (r := []) (as := [.ref 28, .int y]) rfl rfl (hH.1 28 (9, 8) rfl) rfl rfl rfl rfl ?_
                    refine qm_Ru.go 1 (c' := (1, [.ref 28, .int y], [.ref 28], h)) rfl ?_
                    refine hk_geti (v := v8) rfl (hH.1 28 (9, 8) rfl) rfl q_v8 ?_
                    refine qm_Ru.go 2 (c' := (6, [.ref 28, .int y], [.int (v8 >>> (y &&& 31))], h)) rfl ?_
                    rw [q_v9]
                    refine qm_Ru.go 2 (c' := (8, [.ref 28, .int y], [.int (v9 &&& 1)], h)) rfl ?_
                    rw [q_v10]
                    refine qm_Ru.go 1 (c' := (9, [.ref 28, .int y], [.int 1, .int v10], h)) rfl ?_
                    refine hk_cne (ix := v10.toInt) (iy := 1) rfl rfl rfl (fun z137 => ?_) (fun z137 => by exfalso; omega)
                    refine qm_Ru.go 1 (c' := (17, [.ref 28, .int y], [.int 0], h)) rfl ?_
                    refine qm_Ru.rt (v := (some (.int 0))) (h' := h) rfl ?_
                    refine qm_Ru.go 2 (c' := (13, [.ref 28, .int y], [.int 0], h)) rfl ?_
                    refine qm_Ru.rt (v := (some (.int 0))) (h' := h) rfl ?_
                    refine qm_Ru.go 14 (c' := (93, [.ref 28, .int y, .int r, .int s, .int 1, .int v16, .int 0, .int 2, .float 0, .float 0], [.int (-1), .int s], h)) rfl ?_
                    refine hk_ceq (ix := s.toInt) (iy := (-1)) rfl rfl rfl (fun z138 => ?_) (fun z138 => ?_)
                    · refine qm_Ru.go 0 (c' := (111, [.ref 28, .int y, .int r, .int s, .int 1, .int v16, .int 0, .int 2, .float 0, .float 0], [], h)) rfl ?_
                      refine qm_Ru.go 1 (c' := (112, [.ref 28, .int y, .int r, .int s, .int 1, .int v16, .int 0, .int 2, .float 0, .float 0], [.ref 28], h)) rfl ?_
                      refine hk_getr rfl (hH.1 28 (9, 8) rfl) rfl (hH.2 28 0 (some 6) rfl) ?_
                      refine qm_Ru.go 0 (c' := (115, [.ref 28, .int y, .int r, .int s, .int 1, .int v16, .int 0, .int 2, .float 0, .float 0], [.ref 6], h)) rfl ?_
                      refine hk_getr rfl (hH.1 6 (6, 9) rfl) rfl (hH.2 6 1 (some 7) rfl) ?_
                      refine qm_Ru.go 1 (c' := (120, [.ref 28, .int y, .int r, .int s, .int 1, .int v16, .int 0, .int 2, .float 0, .float 0], [.int v16, .ref 7], h)) rfl ?_
                      obtain ⟨v139, q_v139⟩ : ∃ v, h.2.1 7 (v16.toInt.toNat) = v := ⟨_, rfl⟩
                      have b_v139 : (0 : Int) ≤ v139.toInt ∧ v139.toInt ≤ 40 := by rw [← q_v139]; exact hB 7 (v16.toInt.toNat)
                      refine hk_ial (v := v139) rfl (hH.1 7 (0, 30) rfl) (by omega) (by omega) q_v139 ?_
                      refine qm_Ru.go 4 (c' := (129, [.ref 28, .int y, .int r, .int s, .int 1, .int v16, .int 0, .int 2, .float 0, .float 0], [.ref 28, .int v139], h)) rfl ?_
                      refine hk_getr rfl (hH.1 28 (9, 8) rfl) rfl (hH.2 28 0 (some 6) rfl) ?_
                      refine qm_Ru.go 0 (c' := (132, [.ref 28, .int y, .int r, .int s, .int 1, .int v16, .int 0, .int 2, .float 0, .float 0], [.ref 6, .int v139], h)) rfl ?_
                      refine hk_getr rfl (hH.1 6 (6, 9) rfl) rfl (hH.2 6 1 (some 7) rfl) ?_
                      refine qm_Ru.go 1 (c' := (136, [.ref 28, .int y, .int r, .int s, .int 1, .int v16, .int 0, .int 2, .float 0, .float 0], [.ref 28, .ref 7, .int v139], h)) rfl ?_
                      refine hk_getr rfl (hH.1 28 (9, 8) rfl) rfl (hH.2 28 3 (some 36) rfl) ?_
                      refine qm_Ru.go 3 (c' := (143, [.ref 28, .int y, .int r, .int s, .int 1, .int v16, .int 0, .int 2, .float 0, .float 0], [.int 0, .int r, .int y, .ref 36, .ref 7, .int v139], h)) rfl ?_
                      refine qm_Ru.call (j := 75) (as := [.int y, .int r, .int 0]) (c' := (146, [.ref 28, .int y, .int r, .int s, .int 1, .int v16, .int 0, .int 2, .float 0, .float 0], [.ref 36, .ref 7, .int v139], h)) rfl rfl rfl ?_
                      refine qm_Ru.go 3 (c' := (3, [.int y, .int r, .int 0], [.int (y * 4)], h)) rfl ?_
                      rw [q_v12]
                      refine qm_Ru.go 2 (c' := (5, [.int y, .int r, .int 0], [.int (v12 + r)], h)) rfl ?_
                      rw [q_v13]
                      refine qm_Ru.go 2 (c' := (7, [.int y, .int r, .int 0], [.int (v13 * 4)], h)) rfl ?_
                      rw [q_v14]
                      refine qm_Ru.go 2 (c' := (9, [.int y, .int r, .int 0], [.int (v14 + 0)], h)) rfl ?_
                      obtain ⟨v143, q_v143, e_v143⟩ := hk_add (x := v14) (y := 0) (a := v14.toInt) (b := 0) rfl rfl (by omega) (by omega)
                      rw [q_v143]
                      refine qm_Ru.rt (v := (some (.int v143))) (h' := h) rfl ?_
                      refine qm_Ru.go 0 (c' := (146, [.ref 28, .int y, .int r, .int s, .int 1, .int v16, .int 0, .int 2, .float 0, .float 0], [.int v143, .ref 36, .ref 7, .int v139], h)) rfl ?_
                      obtain ⟨v144, q_v144⟩ : ∃ v, h.2.1 36 (v143.toInt.toNat) = v := ⟨_, rfl⟩
                      have b_v144 : (-1 : Int) ≤ v144.toInt ∧ v144.toInt ≤ 29 := by rw [← q_v144]; exact hB 36 (v143.toInt.toNat)
                      refine hk_ial (v := v144) rfl (hH.1 36 (0, 80) rfl) (by omega) (by omega) q_v144 ?_
                      refine qm_Ru.go 0 (c' := (147, [.ref 28, .int y, .int r, .int s, .int 1, .int v16, .int 0, .int 2, .float 0, .float 0], [.int v144, .ref 7, .int v139], h)) rfl ?_
                      have p_v144 : 0 ≤ v144.toInt := by have := b_low (I := h.2.1) (y := y.toInt) (r := r.toInt) (t := 0) hV.1.2 (by omega) (by omega) (by decide) (p_at q_v16 (by omega) (by omega)); rw [show (16 * y.toInt + 4 * r.toInt + 0).toNat = v143.toInt.toNat from by omega] at this; have e : pI h.2.1 36 (v143.toInt.toNat) = v144.toInt := congrArg Int32.toInt q_v144; omega
                      obtain ⟨v145, q_v145⟩ : ∃ v, h.2.1 7 (v144.toInt.toNat) = v := ⟨_, rfl⟩
                      have b_v145 : (0 : Int) ≤ v145.toInt ∧ v145.toInt ≤ 40 := by rw [← q_v145]; exact hB 7 (v144.toInt.toNat)
                      refine hk_ial (v := v145) rfl (hH.1 7 (0, 30) rfl) (by omega) (by omega) q_v145 ?_
                      refine qm_Ru.go 2 (c' := (153, [.ref 28, .int y, .int r, .int s, .int 1, .int v16, .int 0, .int 2, .float 0, .float 0], [.int (v139 + v145)], h)) rfl ?_
                      obtain ⟨v146, q_v146, e_v146⟩ := hk_add (x := v139) (y := v145) (a := v139.toInt) (b := v145.toInt) rfl rfl (by omega) (by omega)
                      rw [q_v146]
                      refine qm_Ru.go 3 (c' := (158, [.ref 28, .int y, .int r, .int s, .int 1, .int v16, .int 0, .int 2, .int v146, .float 0], [.ref 28, .int v146], h)) rfl ?_
                      refine hk_getr rfl (hH.1 28 (9, 8) rfl) rfl hT.2 ?_
                      refine qm_Ru.go 0 (c' := (161, [.ref 28, .int y, .int r, .int s, .int 1, .int v16, .int 0, .int 2, .int v146, .float 0], [.ref 29, .int v146], h)) rfl ?_
                      obtain ⟨v147, q_v147⟩ : ∃ v, h.2.1 29 4 = v := ⟨_, rfl⟩
                      refine hk_geti (v := v147) rfl (hH.1 29 (11, 16) rfl) rfl q_v147 ?_
                      refine qm_Ru.go 0 (c' := (164, [.ref 28, .int y, .int r, .int s, .int 1, .int v16, .int 0, .int 2, .int v146, .float 0], [.int v147, .int v146], h)) rfl ?_
                      refine hk_cle (ix := v146.toInt) (iy := v147.toInt) rfl rfl rfl (fun z148 => ?_) (fun z148 => ?_)
                      · refine qm_Ru.go 5 (c' := (176, [.ref 28, .int y, .int r, .int s, .int 1, .int v16, .int 0, .int 2, .int v146, .float 0], [.int (-v146), .int r, .int y, .ref 28], h)) rfl ?_
                        obtain ⟨v149, q_v149, e_v149⟩ := hk_neg (x := v146) (a := v146.toInt) rfl (by omega)
                        rw [q_v149]
                        refine hk_inv (o := 28) (r := []) (as := [.ref 28, .int y, .int r, .int v149]) rfl rfl (hH.1 28 (9, 8) rfl) rfl rfl rfl rfl (hs_borne29 h6 hH hT hB (v_C_ru hV) ⟨by show (0 : Int) ≤ y.toInt; omega, by show y.toInt ≤ (4 : Int); omega⟩ ⟨by show (0 : Int) ≤ r.toInt; omega, by show r.toInt ≤ (3 : Int); omega⟩ (qa_in_full _) (by omega) (fun v150 I151 J152 c_v150 _ e_I151 => ?_))
                        have e_I151 : I151 = h.2.1 := funext fun o => funext fun i => e_I151 o rfl i
                        subst e_I151
                        have b_v150 : (0 : Int) ≤ v150.toInt ∧ v150.toInt ≤ 1 := c_v150
                        refine qm_Ru.go 0 (c' := (179, [.ref 28, .int y, .int r, .int s, .int 1, .int v16, .int 0, .int 2, .int v146, .float 0], [.int v150], (h.1, h.2.1, J152, h.2.2.2))) rfl ?_
                        refine hk_zne (ix := v150.toInt) rfl rfl (fun z153 => ?_) (fun z153 => ?_)
                        · refine qm_Ru.go 0 (c' := (197, [.ref 28, .int y, .int r, .int s, .int 1, .int v16, .int 0, .int 2, .int v146, .float 0], [], (h.1, h.2.1, J152, h.2.2.2))) rfl ?_
                          exact hq_land01 (h := (h.1, h.2.1, J152, h.2.2.2)) hH hB hV (by omega) (by omega) (by omega) (fun c => absurd z138 c) (p_at q_v144 (by omega) (by omega)) (p_at q_v16 (by omega) (by omega)) (fun v I hB2 hV2 hm2 ev => k (some (.int v)) I _ ⟨_, rfl, ⟨by show (-3 : Int) ≤ v.toInt; omega, by show v.toInt ≤ (2 : Int); omega⟩⟩ hB2 hV2 hm2)
                        · refine qm_Ru.go 5 (c' := (188, [.ref 28, .int y, .int r, .int s, .int 1, .int v16, .int 0, .int 2, .int v146, .float 0], [.int (-v146), .int r, .int y, .ref 28], (h.1, h.2.1, J152, h.2.2.2))) rfl ?_
                          rw [q_v149]
                          refine hk_inv (o := 28) (r := []) (as := [.ref 28, .int y, .int r, .int v149]) rfl rfl (hH.1 28 (9, 8) rfl) rfl rfl rfl rfl (hs_nowor29 h6 hH hT hB (v_C_ru hV) ⟨by show (0 : Int) ≤ y.toInt; omega, by show y.toInt ≤ (4 : Int); omega⟩ ⟨by show (0 : Int) ≤ r.toInt; omega, by show r.toInt ≤ (3 : Int); omega⟩ (qa_in_full _) (by omega) (fun v155 I156 J157 c_v155 _ e_I156 => ?_))
                          have e_I156 : I156 = h.2.1 := funext fun o => funext fun i => e_I156 o rfl i
                          subst e_I156
                          have b_v155 : (0 : Int) ≤ v155.toInt ∧ v155.toInt ≤ 1 := c_v155
                          refine qm_Ru.go 0 (c' := (191, [.ref 28, .int y, .int r, .int s, .int 1, .int v16, .int 0, .int 2, .int v146, .float 0], [.int v155], (h.1, h.2.1, J157, h.2.2.2))) rfl ?_
                          refine hk_zne (ix := v155.toInt) rfl rfl (fun z158 => ?_) (fun z158 => ?_)
                          · refine qm_Ru.go 0 (c' := (197, [.ref 28, .int y, .int r, .int s, .int 1, .int v16, .int 0, .int 2, .int v146, .float 0], [], (h.1, h.2.1, J157, h.2.2.2))) rfl ?_
                            exact hq_land01 (h := (h.1, h.2.1, J157, h.2.2.2)) hH hB hV (by omega) (by omega) (by omega) (fun c => absurd z138 c) (p_at q_v144 (by omega) (by omega)) (p_at q_v16 (by omega) (by omega)) (fun v I hB2 hV2 hm2 ev => k (some (.int v)) I _ ⟨_, rfl, ⟨by show (-3 : Int) ≤ v.toInt; omega, by show v.toInt ≤ (2 : Int); omega⟩⟩ hB2 hV2 hm2)
                          · refine qm_Ru.go 1 (c' := (196, [.ref 28, .int y, .int r, .int s, .int 1, .int v16, .int 0, .int 2, .int v146, .float 0], [.int (-3)], (h.1, h.2.1, J157, h.2.2.2))) rfl ?_
                            refine qm_Ru.rt (v := (some (.int (-3)))) (h' := (h.1, h.2.1, J157, h.2.2.2)) rfl ?_
                            exact k (some (.int (-3))) (h.2.1) (J157) ⟨_, rfl, ⟨by decide, by decide⟩⟩ hB hV (fun _ _ _ => rfl)
                      · refine qm_Ru.go 1 (c' := (169, [.ref 28, .int y, .int r, .int s, .int 1, .int v16, .int 0, .int 2, .int v146, .float 0], [.int (-2)], h)) rfl ?_
                        refine qm_Ru.rt (v := (some (.int (-2)))) (h' := h) rfl ?_
                        exact k (some (.int (-2))) (h.2.1) (h.2.2.1) ⟨_, rfl, ⟨by decide, by decide⟩⟩ hB hV (fun _ _ _ => rfl)
                    · refine qm_Ru.go 1 (c' := (97, [.ref 28, .int y, .int r, .int s, .int 1, .int v16, .int 0, .int 2, .float 0, .float 0], [.ref 28], h)) rfl ?_
                      refine hk_getr rfl (hH.1 28 (9, 8) rfl) rfl (hH.2 28 1 (some 15) rfl) ?_
                      refine qm_Ru.go 1 (c' := (101, [.ref 28, .int y, .int r, .int s, .int 1, .int v16, .int 0, .int 2, .float 0, .float 0], [.int s, .ref 15], h)) rfl ?_
                      refine hk_inv (o := 15) (r := []) (as := [.ref 15, .int s]) rfl rfl (hH.1 15 (15, 8) rfl) rfl rfl rfl rfl ?_
                      refine qm_Ru.go 2 (c' := (2, [.ref 15, .int s], [.ref 15, .int 4], h)) rfl ?_
                      refine hk_getr rfl (hH.1 15 (15, 8) rfl) rfl (hH.2 15 2 (some 17) rfl) ?_
                      refine qm_Ru.go 1 (c' := (6, [.ref 15, .int s], [.int s, .ref 17, .int 4], h)) rfl ?_
                      obtain ⟨v159, q_v159⟩ : ∃ v, h.2.1 17 (s.toInt.toNat) = v := ⟨_, rfl⟩
                      have b_v159 : (0 : Int) ≤ v159.toInt ∧ v159.toInt ≤ 4 := by rw [← q_v159]; exact hB 17 (s.toInt.toNat)
                      refine hk_ial (v := v159) rfl (hH.1 17 (0, 4) rfl) (by omega) (by omega) q_v159 ?_
                      refine qm_Ru.go 1 (c' := (8, [.ref 15, .int s], [.int (4 - v159)], h)) rfl ?_
                      obtain ⟨v160, q_v160, e_v160⟩ := hk_sub (x := 4) (y := v159) (a := 4) (b := v159.toInt) rfl rfl (by omega) (by omega)
                      rw [q_v160]
                      refine qm_Ru.rt (v := (some (.int v160))) (h' := h) rfl ?_
                      refine qm_Ru.go 1 (c' := (106, [.ref 28, .int y, .int r, .int s, .int 1, .int v16, .int 0, .int 2, .float 0, .float 0], [.int 2, .int v160], h)) rfl ?_
                      refine hk_cge (ix := v160.toInt) (iy := 2) rfl rfl rfl (fun z161 => ?_) (fun z161 => ?_)
                      · refine qm_Ru.go 0 (c' := (111, [.ref 28, .int y, .int r, .int s, .int 1, .int v16, .int 0, .int 2, .float 0, .float 0], [], h)) rfl ?_
                        refine qm_Ru.go 1 (c' := (112, [.ref 28, .int y, .int r, .int s, .int 1, .int v16, .int 0, .int 2, .float 0, .float 0], [.ref 28], h)) rfl ?_
                        refine hk_getr rfl (hH.1 28 (9, 8) rfl) rfl (hH.2 28 0 (some 6) rfl) ?_
                        refine qm_Ru.go 0 (c' := (115, [.ref 28, .int y, .int r, .int s, .int 1, .int v16, .int 0, .int 2, .float 0, .float 0], [.ref 6], h)) rfl ?_
                        refine hk_getr rfl (hH.1 6 (6, 9) rfl) rfl (hH.2 6 1 (some 7) rfl) ?_
                        refine qm_Ru.go 1 (c' := (120, [.ref 28, .int y, .int r, .int s, .int 1, .int v16, .int 0, .int 2, .float 0, .float 0], [.int v16, .ref 7], h)) rfl ?_
                        obtain ⟨v162, q_v162⟩ : ∃ v, h.2.1 7 (v16.toInt.toNat) = v := ⟨_, rfl⟩
                        have b_v162 : (0 : Int) ≤ v162.toInt ∧ v162.toInt ≤ 40 := by rw [← q_v162]; exact hB 7 (v16.toInt.toNat)
                        refine hk_ial (v := v162) rfl (hH.1 7 (0, 30) rfl) (by omega) (by omega) q_v162 ?_
                        refine qm_Ru.go 4 (c' := (129, [.ref 28, .int y, .int r, .int s, .int 1, .int v16, .int 0, .int 2, .float 0, .float 0], [.ref 28, .int v162], h)) rfl ?_
                        refine hk_getr rfl (hH.1 28 (9, 8) rfl) rfl (hH.2 28 0 (some 6) rfl) ?_
                        refine qm_Ru.go 0 (c' := (132, [.ref 28, .int y, .int r, .int s, .int 1, .int v16, .int 0, .int 2, .float 0, .float 0], [.ref 6, .int v162], h)) rfl ?_
                        refine hk_getr rfl (hH.1 6 (6, 9) rfl) rfl (hH.2 6 1 (some 7) rfl) ?_
                        refine qm_Ru.go 1 (c' := (136, [.ref 28, .int y, .int r, .int s, .int 1, .int v16, .int 0, .int 2, .float 0, .float 0], [.ref 28, .ref 7, .int v162], h)) rfl ?_
                        refine hk_getr rfl (hH.1 28 (9, 8) rfl) rfl (hH.2 28 3 (some 36) rfl) ?_
                        refine qm_Ru.go 3 (c' := (143, [.ref 28, .int y, .int r, .int s, .int 1, .int v16, .int 0, .int 2, .float 0, .float 0], [.int 0, .int r, .int y, .ref 36, .ref 7, .int v162], h)) rfl ?_
                        refine qm_Ru.call (j := 75) (as := [.int y, .int r, .int 0]) (c' := (146, [.ref 28, .int y, .int r, .int s, .int 1, .int v16, .int 0, .int 2, .float 0, .float 0], [.ref 36, .ref 7, .int v162], h)) rfl rfl rfl ?_
                        refine qm_Ru.go 3 (c' := (3, [.int y, .int r, .int 0], [.int (y * 4)], h)) rfl ?_
                        rw [q_v12]
                        refine qm_Ru.go 2 (c' := (5, [.int y, .int r, .int 0], [.int (v12 + r)], h)) rfl ?_
                        rw [q_v13]
                        refine qm_Ru.go 2 (c' := (7, [.int y, .int r, .int 0], [.int (v13 * 4)], h)) rfl ?_
                        rw [q_v14]
                        refine qm_Ru.go 2 (c' := (9, [.int y, .int r, .int 0], [.int (v14 + 0)], h)) rfl ?_
                        obtain ⟨v166, q_v166, e_v166⟩ := hk_add (x := v14) (y := 0) (a := v14.toInt) (b := 0) rfl rfl (by omega) (by omega)
                        rw [q_v166]
                        refine qm_Ru.rt (v := (some (.int v166))) (h' := h) rfl ?_
                        refine qm_Ru.go 0 (c' := (146, [.ref 28, .int y, .int r, .int s, .int 1, .int v16, .int 0, .int 2, .float 0, .float 0], [.int v166, .ref 36, .ref 7, .int v162], h)) rfl ?_
                        obtain ⟨v167, q_v167⟩ : ∃ v, h.2.1 36 (v166.toInt.toNat) = v := ⟨_, rfl⟩
                        have b_v167 : (-1 : Int) ≤ v167.toInt ∧ v167.toInt ≤ 29 := by rw [← q_v167]; exact hB 36 (v166.toInt.toNat)
                        refine hk_ial (v := v167) rfl (hH.1 36 (0, 80) rfl) (by omega) (by omega) q_v167 ?_
                        refine qm_Ru.go 0 (c' := (147, [.ref 28, .int y, .int r, .int s, .int 1, .int v16, .int 0, .int 2, .float 0, .float 0], [.int v167, .ref 7, .int v162], h)) rfl ?_
                        have p_v167 : 0 ≤ v167.toInt := by have := b_low (I := h.2.1) (y := y.toInt) (r := r.toInt) (t := 0) hV.1.2 (by omega) (by omega) (by decide) (p_at q_v16 (by omega) (by omega)); rw [show (16 * y.toInt + 4 * r.toInt + 0).toNat = v166.toInt.toNat from by omega] at this; have e : pI h.2.1 36 (v166.toInt.toNat) = v167.toInt := congrArg Int32.toInt q_v167; omega
                        obtain ⟨v168, q_v168⟩ : ∃ v, h.2.1 7 (v167.toInt.toNat) = v := ⟨_, rfl⟩
                        have b_v168 : (0 : Int) ≤ v168.toInt ∧ v168.toInt ≤ 40 := by rw [← q_v168]; exact hB 7 (v167.toInt.toNat)
                        refine hk_ial (v := v168) rfl (hH.1 7 (0, 30) rfl) (by omega) (by omega) q_v168 ?_
                        refine qm_Ru.go 2 (c' := (153, [.ref 28, .int y, .int r, .int s, .int 1, .int v16, .int 0, .int 2, .float 0, .float 0], [.int (v162 + v168)], h)) rfl ?_
                        obtain ⟨v169, q_v169, e_v169⟩ := hk_add (x := v162) (y := v168) (a := v162.toInt) (b := v168.toInt) rfl rfl (by omega) (by omega)
                        rw [q_v169]
                        refine qm_Ru.go 3 (c' := (158, [.ref 28, .int y, .int r, .int s, .int 1, .int v16, .int 0, .int 2, .int v169, .float 0], [.ref 28, .int v169], h)) rfl ?_
                        refine hk_getr rfl (hH.1 28 (9, 8) rfl) rfl hT.2 ?_
                        refine qm_Ru.go 0 (c' := (161, [.ref 28, .int y, .int r, .int s, .int 1, .int v16, .int 0, .int 2, .int v169, .float 0], [.ref 29, .int v169], h)) rfl ?_
                        obtain ⟨v170, q_v170⟩ : ∃ v, h.2.1 29 4 = v := ⟨_, rfl⟩
                        refine hk_geti (v := v170) rfl (hH.1 29 (11, 16) rfl) rfl q_v170 ?_
                        refine qm_Ru.go 0 (c' := (164, [.ref 28, .int y, .int r, .int s, .int 1, .int v16, .int 0, .int 2, .int v169, .float 0], [.int v170, .int v169], h)) rfl ?_
                        refine hk_cle (ix := v169.toInt) (iy := v170.toInt) rfl rfl rfl (fun z171 => ?_) (fun z171 => ?_)
                        · refine qm_Ru.go 5 (c' := (176, [.ref 28, .int y, .int r, .int s, .int 1, .int v16, .int 0, .int 2, .int v169, .float 0], [.int (-v169), .int r, .int y, .ref 28], h)) rfl ?_
                          obtain ⟨v172, q_v172, e_v172⟩ := hk_neg (x := v169) (a := v169.toInt) rfl (by omega)
                          rw [q_v172]
                          refine hk_inv (o := 28) (r := []) (as := [.ref 28, .int y, .int r, .int v172]) rfl rfl (hH.1 28 (9, 8) rfl) rfl rfl rfl rfl (hs_borne29 h6 hH hT hB (v_C_ru hV) ⟨by show (0 : Int) ≤ y.toInt; omega, by show y.toInt ≤ (4 : Int); omega⟩ ⟨by show (0 : Int) ≤ r.toInt; omega, by show r.toInt ≤ (3 : Int); omega⟩ (qa_in_full _) (by omega) (fun v173 I174 J175 c_v173 _ e_I174 => ?_))
                          have e_I174 : I174 = h.2.1 := funext fun o => funext fun i => e_I174 o rfl i
                          subst e_I174
                          have b_v173 : (0 : Int) ≤ v173.toInt ∧ v173.toInt ≤ 1 := c_v173
                          refine qm_Ru.go 0 (c' := (179, [.ref 28, .int y, .int r, .int s, .int 1, .int v16, .int 0, .int 2, .int v169, .float 0], [.int v173], (h.1, h.2.1, J175, h.2.2.2))) rfl ?_
                          refine hk_zne (ix := v173.toInt) rfl rfl (fun z176 => ?_) (fun z176 => ?_)
                          · refine qm_Ru.go 0 (c' := (197, [.ref 28, .int y, .int r, .int s, .int 1, .int v16, .int 0, .int 2, .int v169, .float 0], [], (h.1, h.2.1, J175, h.2.2.2))) rfl ?_
                            exact hq_land01 (h := (h.1, h.2.1, J175, h.2.2.2)) hH hB hV (by omega) (by omega) (by omega) (fun _ => by rw [q_v159]; omega) (p_at q_v167 (by omega) (by omega)) (p_at q_v16 (by omega) (by omega)) (fun v I hB2 hV2 hm2 ev => k (some (.int v)) I _ ⟨_, rfl, ⟨by show (-3 : Int) ≤ v.toInt; omega, by show v.toInt ≤ (2 : Int); omega⟩⟩ hB2 hV2 hm2)
                          · refine qm_Ru.go 5 (c' := (188, [.ref 28, .int y, .int r, .int s, .int 1, .int v16, .int 0, .int 2, .int v169, .float 0], [.int (-v169), .int r, .int y, .ref 28], (h.1, h.2.1, J175, h.2.2.2))) rfl ?_
                            rw [q_v172]
                            refine hk_inv (o := 28) (r := []) (as := [.ref 28, .int y, .int r, .int v172]) rfl rfl (hH.1 28 (9, 8) rfl) rfl rfl rfl rfl (hs_nowor29 h6 hH hT hB (v_C_ru hV) ⟨by show (0 : Int) ≤ y.toInt; omega, by show y.toInt ≤ (4 : Int); omega⟩ ⟨by show (0 : Int) ≤ r.toInt; omega, by show r.toInt ≤ (3 : Int); omega⟩ (qa_in_full _) (by omega) (fun v178 I179 J180 c_v178 _ e_I179 => ?_))
                            have e_I179 : I179 = h.2.1 := funext fun o => funext fun i => e_I179 o rfl i
                            subst e_I179
                            have b_v178 : (0 : Int) ≤ v178.toInt ∧ v178.toInt ≤ 1 := c_v178
                            refine qm_Ru.go 0 (c' := (191, [.ref 28, .int y, .int r, .int s, .int 1, .int v16, .int 0, .int 2, .int v169, .float 0], [.int v178], (h.1, h.2.1, J180, h.2.2.2))) rfl ?_
                            refine hk_zne (ix := v178.toInt) rfl rfl (fun z181 => ?_) (fun z181 => ?_)
                            · refine qm_Ru.go 0 (c' := (197, [.ref 28, .int y, .int r, .int s, .int 1, .int v16, .int 0, .int 2, .int v169, .float 0], [], (h.1, h.2.1, J180, h.2.2.2))) rfl ?_
                              exact hq_land01 (h := (h.1, h.2.1, J180, h.2.2.2)) hH hB hV (by omega) (by omega) (by omega) (fun _ => by rw [q_v159]; omega) (p_at q_v167 (by omega) (by omega)) (p_at q_v16 (by omega) (by omega)) (fun v I hB2 hV2 hm2 ev => k (some (.int v)) I _ ⟨_, rfl, ⟨by show (-3 : Int) ≤ v.toInt; omega, by show v.toInt ≤ (2 : Int); omega⟩⟩ hB2 hV2 hm2)
                            · refine qm_Ru.go 1 (c' := (196, [.ref 28, .int y, .int r, .int s, .int 1, .int v16, .int 0, .int 2, .int v169, .float 0], [.int (-3)], (h.1, h.2.1, J180, h.2.2.2))) rfl ?_
                              refine qm_Ru.rt (v := (some (.int (-3)))) (h' := (h.1, h.2.1, J180, h.2.2.2)) rfl ?_
                              exact k (some (.int (-3))) (h.2.1) (J180) ⟨_, rfl, ⟨by decide, by decide⟩⟩ hB hV (fun _ _ _ => rfl)
                        · refine qm_Ru.go 1 (c' := (169, [.ref 28, .int y, .int r, .int s, .int 1, .int v16, .int 0, .int 2, .int v169, .float 0], [.int (-2)], h)) rfl ?_
                          refine qm_Ru.rt (v := (some (.int (-2)))) (h' := h) rfl ?_
                          exact k (some (.int (-2))) (h.2.1) (h.2.2.1) ⟨_, rfl, ⟨by decide, by decide⟩⟩ hB hV (fun _ _ _ => rfl)
                      · refine qm_Ru.go 1 (c' := (110, [.ref 28, .int y, .int r, .int s, .int 1, .int v16, .int 0, .int 2, .float 0, .float 0], [.int (-1)], h)) rfl ?_
                        refine qm_Ru.rt (v := (some (.int (-1)))) (h' := h) rfl ?_
                        exact k (some (.int (-1))) (h.2.1) (h.2.2.1) ⟨_, rfl, ⟨by decide, by decide⟩⟩ hB hV (fun _ _ _ => rfl)
              · refine qm_Ru.go 2 (c' := (17, [.ref 28, .int y], [.int 1], h)) rfl ?_
                refine qm_Ru.rt (v := (some (.int 1))) (h' := h) rfl ?_
                refine qm_Ru.go 3 (c' := (13, [.ref 28, .int y], [.int 2], h)) rfl ?_
                refine qm_Ru.rt (v := (some (.int 2))) (h' := h) rfl ?_
                refine qm_Ru.go 2 (c' := (7, [.ref 28, .int y, .int r, .int 2], [.ref 28], h)) rfl ?_
                refine hk_getr rfl (hH.1 28 (9, 8) rfl) rfl (hH.2 28 3 (some 36) rfl) ?_
                refine qm_Ru.go 5 (c' := (15, [.ref 28, .int y, .int r, .int 2], [.int 3, .int r, .int y, .ref 36], h)) rfl ?_
                refine qm_Ru.call (j := 75) (as := [.int y, .int r, .int 3]) (c' := (18, [.ref 28, .int y, .int r, .int 2], [.ref 36], h)) rfl rfl rfl ?_
                refine qm_Ru.go 3 (c' := (3, [.int y, .int r, .int 3], [.int (y * 4)], h)) rfl ?_
                obtain ⟨v182, q_v182, e_v182⟩ := hk_mul (x := y) (y := 4) (a := y.toInt) (b := 4) rfl rfl (by omega) (by omega)
                rw [q_v182]
                refine qm_Ru.go 2 (c' := (5, [.int y, .int r, .int 3], [.int (v182 + r)], h)) rfl ?_
                obtain ⟨v183, q_v183, e_v183⟩ := hk_add (x := v182) (y := r) (a := v182.toInt) (b := r.toInt) rfl rfl (by omega) (by omega)
                rw [q_v183]
                refine qm_Ru.go 2 (c' := (7, [.int y, .int r, .int 3], [.int (v183 * 4)], h)) rfl ?_
                obtain ⟨v184, q_v184, e_v184⟩ := hk_mul (x := v183) (y := 4) (a := v183.toInt) (b := 4) rfl rfl (by omega) (by omega)
                rw [q_v184]
                refine qm_Ru.go 2 (c' := (9, [.int y, .int r, .int 3], [.int (v184 + 3)], h)) rfl ?_
                obtain ⟨v185, q_v185, e_v185⟩ := hk_add (x := v184) (y := 3) (a := v184.toInt) (b := 3) rfl rfl (by omega) (by omega)
                rw [q_v185]
                refine qm_Ru.rt (v := (some (.int v185))) (h' := h) rfl ?_
                refine qm_Ru.go 0 (c' := (18, [.ref 28, .int y, .int r, .int 2], [.int v185, .ref 36], h)) rfl ?_
                obtain ⟨v186, q_v186⟩ : ∃ v, h.2.1 36 (v185.toInt.toNat) = v := ⟨_, rfl⟩
                have b_v186 : (-1 : Int) ≤ v186.toInt ∧ v186.toInt ≤ 29 := by rw [← q_v186]; exact hB 36 (v185.toInt.toNat)
                refine hk_ial (v := v186) rfl (hH.1 36 (0, 80) rfl) (by omega) (by omega) q_v186 ?_
                refine qm_Ru.go 0 (c' := (19, [.ref 28, .int y, .int r, .int 2], [.int v186], h)) rfl ?_
                refine qm_Ru.go 1 (c' := (20, [.ref 28, .int y, .int r, .int 2], [.int (-1), .int v186], h)) rfl ?_
                refine hk_ceq (ix := v186.toInt) (iy := (-1)) rfl rfl rfl (fun z187 => ?_) (fun z187 => ?_)
                · refine qm_Ru.go 1 (c' := (28, [.ref 28, .int y, .int r, .int 2], [.ref 28], h)) rfl ?_
                  refine hk_getr rfl (hH.1 28 (9, 8) rfl) rfl (hH.2 28 3 (some 36) rfl) ?_
                  refine qm_Ru.go 3 (c' := (34, [.ref 28, .int y, .int r, .int 2], [.int 2, .int r, .int y, .ref 36], h)) rfl ?_
                  refine qm_Ru.call (j := 75) (as := [.int y, .int r, .int 2]) (c' := (37, [.ref 28, .int y, .int r, .int 2], [.ref 36], h)) rfl rfl rfl ?_
                  refine qm_Ru.go 3 (c' := (3, [.int y, .int r, .int 2], [.int (y * 4)], h)) rfl ?_
                  rw [q_v182]
                  refine qm_Ru.go 2 (c' := (5, [.int y, .int r, .int 2], [.int (v182 + r)], h)) rfl ?_
                  rw [q_v183]
                  refine qm_Ru.go 2 (c' := (7, [.int y, .int r, .int 2], [.int (v183 * 4)], h)) rfl ?_
                  rw [q_v184]
                  refine qm_Ru.go 2 (c' := (9, [.int y, .int r, .int 2], [.int (v184 + 2)], h)) rfl ?_
                  obtain ⟨v191, q_v191, e_v191⟩ := hk_add (x := v184) (y := 2) (a := v184.toInt) (b := 2) rfl rfl (by omega) (by omega)
                  rw [q_v191]
                  refine qm_Ru.rt (v := (some (.int v191))) (h' := h) rfl ?_
                  refine qm_Ru.go 0 (c' := (37, [.ref 28, .int y, .int r, .int 2], [.int v191, .ref 36], h)) rfl ?_
                  obtain ⟨v192, q_v192⟩ : ∃ v, h.2.1 36 (v191.toInt.toNat) = v := ⟨_, rfl⟩
                  have b_v192 : (-1 : Int) ≤ v192.toInt ∧ v192.toInt ≤ 29 := by rw [← q_v192]; exact hB 36 (v191.toInt.toNat)
                  refine hk_ial (v := v192) rfl (hH.1 36 (0, 80) rfl) (by omega) (by omega) q_v192 ?_
                  refine qm_Ru.go 0 (c' := (38, [.ref 28, .int y, .int r, .int 2], [.int v192], h)) rfl ?_
                  refine qm_Ru.go 1 (c' := (39, [.ref 28, .int y, .int r, .int 2], [.int (-1), .int v192], h)) rfl ?_
                  refine hk_ceq (ix := v192.toInt) (iy := (-1)) rfl rfl rfl (fun z193 => ?_) (fun z193 => ?_)
                  · refine qm_Ru.go 1 (c' := (47, [.ref 28, .int y, .int r, .int 2], [.int (-1)], h)) rfl ?_
                    refine qm_Ru.rt (v := (some (.int (-1)))) (h' := h) rfl ?_
                    refine qm_Ru.go 5 (c' := (33, [.ref 28, .int y, .int r, .int s, .int (-1), .float 0, .float 0, .float 0, .float 0, .float 0], [.int (-1)], h)) rfl ?_
                    refine qm_Ru.rt (v := (some (.int (-1)))) (h' := h) rfl ?_
                    exact k (some (.int (-1))) (h.2.1) (h.2.2.1) ⟨_, rfl, ⟨by decide, by decide⟩⟩ hB hV (fun _ _ _ => rfl)
                  · refine qm_Ru.go 2 (c' := (47, [.ref 28, .int y, .int r, .int 2], [.int 2], h)) rfl ?_
                    refine qm_Ru.rt (v := (some (.int 2))) (h' := h) rfl ?_
                    refine qm_Ru.go 5 (c' := (35, [.ref 28, .int y, .int r, .int s, .int 2, .float 0, .float 0, .float 0, .float 0, .float 0], [.ref 28], h)) rfl ?_
                    refine hk_getr rfl (hH.1 28 (9, 8) rfl) rfl (hH.2 28 3 (some 36) rfl) ?_
                    refine qm_Ru.go 3 (c' := (42, [.ref 28, .int y, .int r, .int s, .int 2, .float 0, .float 0, .float 0, .float 0, .float 0], [.int 2, .int r, .int y, .ref 36], h)) rfl ?_
                    refine qm_Ru.call (j := 75) (as := [.int y, .int r, .int 2]) (c' := (45, [.ref 28, .int y, .int r, .int s, .int 2, .float 0, .float 0, .float 0, .float 0, .float 0], [.ref 36], h)) rfl rfl rfl ?_
                    refine qm_Ru.go 3 (c' := (3, [.int y, .int r, .int 2], [.int (y * 4)], h)) rfl ?_
                    rw [q_v182]
                    refine qm_Ru.go 2 (c' := (5, [.int y, .int r, .int 2], [.int (v182 + r)], h)) rfl ?_
                    rw [q_v183]
                    refine qm_Ru.go 2 (c' := (7, [.int y, .int r, .int 2], [.int (v183 * 4)], h)) rfl ?_
                    rw [q_v184]
                    refine qm_Ru.go 2 (c' := (9, [.int y, .int r, .int 2], [.int (v184 + 2)], h)) rfl ?_
                    rw [q_v191]
                    refine qm_Ru.rt (v := (some (.int v191))) (h' := h) rfl ?_
                    refine qm_Ru.go 0 (c' := (45, [.ref 28, .int y, .int r, .int s, .int 2, .float 0, .float 0, .float 0, .float 0, .float 0], [.int v191, .ref 36], h)) rfl ?_
                    refine hk_ial (v := v192) rfl (hH.1 36 (0, 80) rfl) (by omega) (by omega) q_v192 ?_
                    refine qm_Ru.go 2 (c' := (49, [.ref 28, .int y, .int r, .int s, .int 2, .int v192, .float 0, .float 0, .float 0, .float 0], [.ref 28], h)) rfl ?_
                    refine hk_getr rfl (hH.1 28 (9, 8) rfl) rfl (hH.2 28 0 (some 6) rfl) ?_
                    refine qm_Ru.go 0 (c' := (52, [.ref 28, .int y, .int r, .int s, .int 2, .int v192, .float 0, .float 0, .float 0, .float 0], [.ref 6], h)) rfl ?_
                    refine hk_getr rfl (hH.1 6 (6, 9) rfl) rfl (hH.2 6 4 (some 10) rfl) ?_
                    refine qm_Ru.go 1 (c' := (57, [.ref 28, .int y, .int r, .int s, .int 2, .int v192, .float 0, .float 0, .float 0, .float 0], [.int v192, .ref 10], h)) rfl ?_
                    obtain ⟨v198, q_v198⟩ : ∃ v, h.2.1 10 (v192.toInt.toNat) = v := ⟨_, rfl⟩
                    have b_v198 : (0 : Int) ≤ v198.toInt ∧ v198.toInt ≤ 1 := by rw [← q_v198]; exact hB 10 (v192.toInt.toNat)
                    refine hk_bal (v := v198) rfl (hH.1 10 (2, 30) rfl) (by decide) (by omega) (by omega) q_v198 ?_
                    refine qm_Ru.go 0 (c' := (58, [.ref 28, .int y, .int r, .int s, .int 2, .int v192, .float 0, .float 0, .float 0, .float 0], [.int v198], h)) rfl ?_
                    refine hk_zeq (ix := v198.toInt) rfl rfl (fun z199 => ?_) (fun z199 => ?_)
                    · refine qm_Ru.go 10 (c' := (93, [.ref 28, .int y, .int r, .int s, .int 2, .int v192, .int 2, .int 1, .float 0, .float 0], [.int (-1), .int s], h)) rfl ?_
                      refine hk_ceq (ix := s.toInt) (iy := (-1)) rfl rfl rfl (fun z200 => ?_) (fun z200 => ?_)
                      · refine qm_Ru.go 0 (c' := (111, [.ref 28, .int y, .int r, .int s, .int 2, .int v192, .int 2, .int 1, .float 0, .float 0], [], h)) rfl ?_
                        refine qm_Ru.go 1 (c' := (112, [.ref 28, .int y, .int r, .int s, .int 2, .int v192, .int 2, .int 1, .float 0, .float 0], [.ref 28], h)) rfl ?_
                        refine hk_getr rfl (hH.1 28 (9, 8) rfl) rfl (hH.2 28 0 (some 6) rfl) ?_
                        refine qm_Ru.go 0 (c' := (115, [.ref 28, .int y, .int r, .int s, .int 2, .int v192, .int 2, .int 1, .float 0, .float 0], [.ref 6], h)) rfl ?_
                        refine hk_getr rfl (hH.1 6 (6, 9) rfl) rfl (hH.2 6 1 (some 7) rfl) ?_
                        refine qm_Ru.go 1 (c' := (120, [.ref 28, .int y, .int r, .int s, .int 2, .int v192, .int 2, .int 1, .float 0, .float 0], [.int v192, .ref 7], h)) rfl ?_
                        obtain ⟨v201, q_v201⟩ : ∃ v, h.2.1 7 (v192.toInt.toNat) = v := ⟨_, rfl⟩
                        have b_v201 : (0 : Int) ≤ v201.toInt ∧ v201.toInt ≤ 40 := by rw [← q_v201]; exact hB 7 (v192.toInt.toNat)
                        refine hk_ial (v := v201) rfl (hH.1 7 (0, 30) rfl) (by omega) (by omega) q_v201 ?_
                        refine qm_Ru.go 5 (c' := (153, [.ref 28, .int y, .int r, .int s, .int 2, .int v192, .int 2, .int 1, .float 0, .float 0], [.int (v201 + 0)], h)) rfl ?_
                        obtain ⟨v202, q_v202, e_v202⟩ := hk_add (x := v201) (y := 0) (a := v201.toInt) (b := 0) rfl rfl (by omega) (by omega)
                        rw [q_v202]
                        refine qm_Ru.go 3 (c' := (158, [.ref 28, .int y, .int r, .int s, .int 2, .int v192, .int 2, .int 1, .int v202, .float 0], [.ref 28, .int v202], h)) rfl ?_
                        refine hk_getr rfl (hH.1 28 (9, 8) rfl) rfl hT.2 ?_
                        refine qm_Ru.go 0 (c' := (161, [.ref 28, .int y, .int r, .int s, .int 2, .int v192, .int 2, .int 1, .int v202, .float 0], [.ref 29, .int v202], h)) rfl ?_
                        obtain ⟨v203, q_v203⟩ : ∃ v, h.2.1 29 4 = v := ⟨_, rfl⟩
                        refine hk_geti (v := v203) rfl (hH.1 29 (11, 16) rfl) rfl q_v203 ?_
                        refine qm_Ru.go 0 (c' := (164, [.ref 28, .int y, .int r, .int s, .int 2, .int v192, .int 2, .int 1, .int v202, .float 0], [.int v203, .int v202], h)) rfl ?_
                        refine hk_cle (ix := v202.toInt) (iy := v203.toInt) rfl rfl rfl (fun z204 => ?_) (fun z204 => ?_)
                        · refine qm_Ru.go 5 (c' := (176, [.ref 28, .int y, .int r, .int s, .int 2, .int v192, .int 2, .int 1, .int v202, .float 0], [.int (-v202), .int r, .int y, .ref 28], h)) rfl ?_
                          obtain ⟨v205, q_v205, e_v205⟩ := hk_neg (x := v202) (a := v202.toInt) rfl (by omega)
                          rw [q_v205]
                          refine hk_inv (o := 28) (r := []) (as := [.ref 28, .int y, .int r, .int v205]) rfl rfl (hH.1 28 (9, 8) rfl) rfl rfl rfl rfl (hs_borne29 h6 hH hT hB (v_C_ru hV) ⟨by show (0 : Int) ≤ y.toInt; omega, by show y.toInt ≤ (4 : Int); omega⟩ ⟨by show (0 : Int) ≤ r.toInt; omega, by show r.toInt ≤ (3 : Int); omega⟩ (qa_in_full _) (by omega) (fun v206 I207 J208 c_v206 _ e_I207 => ?_))
                          have e_I207 : I207 = h.2.1 := funext fun o => funext fun i => e_I207 o rfl i
                          subst e_I207
                          have b_v206 : (0 : Int) ≤ v206.toInt ∧ v206.toInt ≤ 1 := c_v206
                          refine qm_Ru.go 0 (c' := (179, [.ref 28, .int y, .int r, .int s, .int 2, .int v192, .int 2, .int 1, .int v202, .float 0], [.int v206], (h.1, h.2.1, J208, h.2.2.2))) rfl ?_
                          refine hk_zne (ix := v206.toInt) rfl rfl (fun z209 => ?_) (fun z209 => ?_)
                          · refine qm_Ru.go 0 (c' := (197, [.ref 28, .int y, .int r, .int s, .int 2, .int v192, .int 2, .int 1, .int v202, .float 0], [], (h.1, h.2.1, J208, h.2.2.2))) rfl ?_
                            exact hq_land22 (h := (h.1, h.2.1, J208, h.2.2.2)) hH hB hV (by omega) (by omega) (by omega) (fun c => absurd z200 c) (p_at q_v192 (by omega) (by omega)) (p_no q_v186 (by omega) (by omega)) (fun v I hB2 hV2 hm2 ev => k (some (.int v)) I _ ⟨_, rfl, ⟨by show (-3 : Int) ≤ v.toInt; omega, by show v.toInt ≤ (2 : Int); omega⟩⟩ hB2 hV2 hm2)
                          · refine qm_Ru.go 5 (c' := (188, [.ref 28, .int y, .int r, .int s, .int 2, .int v192, .int 2, .int 1, .int v202, .float 0], [.int (-v202), .int r, .int y, .ref 28], (h.1, h.2.1, J208, h.2.2.2))) rfl ?_
                            rw [q_v205]
                            refine hk_inv (o := 28) (r := []) (as := [.ref 28, .int y, .int r, .int v205]) rfl rfl (hH.1 28 (9, 8) rfl) rfl rfl rfl rfl (hs_nowor29 h6 hH hT hB (v_C_ru hV) ⟨by show (0 : Int) ≤ y.toInt; omega, by show y.toInt ≤ (4 : Int); omega⟩ ⟨by show (0 : Int) ≤ r.toInt; omega, by show r.toInt ≤ (3 : Int); omega⟩ (qa_in_full _) (by omega) (fun v211 I212 J213 c_v211 _ e_I212 => ?_))
                            have e_I212 : I212 = h.2.1 := funext fun o => funext fun i => e_I212 o rfl i
                            subst e_I212
                            have b_v211 : (0 : Int) ≤ v211.toInt ∧ v211.toInt ≤ 1 := c_v211
                            refine qm_Ru.go 0 (c' := (191, [.ref 28, .int y, .int r, .int s, .int 2, .int v192, .int 2, .int 1, .int v202, .float 0], [.int v211], (h.1, h.2.1, J213, h.2.2.2))) rfl ?_
                            refine hk_zne (ix := v211.toInt) rfl rfl (fun z214 => ?_) (fun z214 => ?_)
                            · refine qm_Ru.go 0 (c' := (197, [.ref 28, .int y, .int r, .int s, .int 2, .int v192, .int 2, .int 1, .int v202, .float 0], [], (h.1, h.2.1, J213, h.2.2.2))) rfl ?_
                              exact hq_land22 (h := (h.1, h.2.1, J213, h.2.2.2)) hH hB hV (by omega) (by omega) (by omega) (fun c => absurd z200 c) (p_at q_v192 (by omega) (by omega)) (p_no q_v186 (by omega) (by omega)) (fun v I hB2 hV2 hm2 ev => k (some (.int v)) I _ ⟨_, rfl, ⟨by show (-3 : Int) ≤ v.toInt; omega, by show v.toInt ≤ (2 : Int); omega⟩⟩ hB2 hV2 hm2)
                            · refine qm_Ru.go 1 (c' := (196, [.ref 28, .int y, .int r, .int s, .int 2, .int v192, .int 2, .int 1, .int v202, .float 0], [.int (-3)], (h.1, h.2.1, J213, h.2.2.2))) rfl ?_
                              refine qm_Ru.rt (v := (some (.int (-3)))) (h' := (h.1, h.2.1, J213, h.2.2.2)) rfl ?_
                              exact k (some (.int (-3))) (h.2.1) (J213) ⟨_, rfl, ⟨by decide, by decide⟩⟩ hB hV (fun _ _ _ => rfl)
                        · refine qm_Ru.go 1 (c' := (169, [.ref 28, .int y, .int r, .int s, .int 2, .int v192, .int 2, .int 1, .int v202, .float 0], [.int (-2)], h)) rfl ?_
                          refine qm_Ru.rt (v := (some (.int (-2)))) (h' := h) rfl ?_
                          exact k (some (.int (-2))) (h.2.1) (h.2.2.1) ⟨_, rfl, ⟨by decide, by decide⟩⟩ hB hV (fun _ _ _ => rfl)
                      · refine qm_Ru.go 1 (c' := (97, [.ref 28, .int y, .int r, .int s, .int 2, .int v192, .int 2, .int 1, .float 0, .float 0], [.ref 28], h)) rfl ?_
                        refine hk_getr rfl (hH.1 28 (9, 8) rfl) rfl (hH.2 28 1 (some 15) rfl) ?_
                        refine qm_Ru.go 1 (c' := (101, [.ref 28, .int y, .int r, .int s, .int 2, .int v192, .int 2, .int 1, .float 0, .float 0], [.int s, .ref 15], h)) rfl ?_
                        refine hk_inv (o := 15) (r := []) (as := [.ref 15, .int s]) rfl rfl (hH.1 15 (15, 8) rfl) rfl rfl rfl rfl ?_
                        refine qm_Ru.go 2 (c' := (2, [.ref 15, .int s], [.ref 15, .int 4], h)) rfl ?_
                        refine hk_getr rfl (hH.1 15 (15, 8) rfl) rfl (hH.2 15 2 (some 17) rfl) ?_
                        refine qm_Ru.go 1 (c' := (6, [.ref 15, .int s], [.int s, .ref 17, .int 4], h)) rfl ?_
                        obtain ⟨v215, q_v215⟩ : ∃ v, h.2.1 17 (s.toInt.toNat) = v := ⟨_, rfl⟩
                        have b_v215 : (0 : Int) ≤ v215.toInt ∧ v215.toInt ≤ 4 := by rw [← q_v215]; exact hB 17 (s.toInt.toNat)
                        refine hk_ial (v := v215) rfl (hH.1 17 (0, 4) rfl) (by omega) (by omega) q_v215 ?_
                        refine qm_Ru.go 1 (c' := (8, [.ref 15, .int s], [.int (4 - v215)], h)) rfl ?_
                        obtain ⟨v216, q_v216, e_v216⟩ := hk_sub (x := 4) (y := v215) (a := 4) (b := v215.toInt) rfl rfl (by omega) (by omega)
                        rw [q_v216]
                        refine qm_Ru.rt (v := (some (.int v216))) (h' := h) rfl ?_
                        refine qm_Ru.go 1 (c' := (106, [.ref 28, .int y, .int r, .int s, .int 2, .int v192, .int 2, .int 1, .float 0, .float 0], [.int 1, .int v216], h)) rfl ?_
                        refine hk_cge (ix := v216.toInt) (iy := 1) rfl rfl rfl (fun z217 => ?_) (fun z217 => ?_)
                        · refine qm_Ru.go 0 (c' := (111, [.ref 28, .int y, .int r, .int s, .int 2, .int v192, .int 2, .int 1, .float 0, .float 0], [], h)) rfl ?_
                          refine qm_Ru.go 1 (c' := (112, [.ref 28, .int y, .int r, .int s, .int 2, .int v192, .int 2, .int 1, .float 0, .float 0], [.ref 28], h)) rfl ?_
                          refine hk_getr rfl (hH.1 28 (9, 8) rfl) rfl (hH.2 28 0 (some 6) rfl) ?_
                          refine qm_Ru.go 0 (c' := (115, [.ref 28, .int y, .int r, .int s, .int 2, .int v192, .int 2, .int 1, .float 0, .float 0], [.ref 6], h)) rfl ?_
                          refine hk_getr rfl (hH.1 6 (6, 9) rfl) rfl (hH.2 6 1 (some 7) rfl) ?_
                          refine qm_Ru.go 1 (c' := (120, [.ref 28, .int y, .int r, .int s, .int 2, .int v192, .int 2, .int 1, .float 0, .float 0], [.int v192, .ref 7], h)) rfl ?_
                          obtain ⟨v218, q_v218⟩ : ∃ v, h.2.1 7 (v192.toInt.toNat) = v := ⟨_, rfl⟩
                          have b_v218 : (0 : Int) ≤ v218.toInt ∧ v218.toInt ≤ 40 := by rw [← q_v218]; exact hB 7 (v192.toInt.toNat)
                          refine hk_ial (v := v218) rfl (hH.1 7 (0, 30) rfl) (by omega) (by omega) q_v218 ?_
                          refine qm_Ru.go 5 (c' := (153, [.ref 28, .int y, .int r, .int s, .int 2, .int v192, .int 2, .int 1, .float 0, .float 0], [.int (v218 + 0)], h)) rfl ?_
                          obtain ⟨v219, q_v219, e_v219⟩ := hk_add (x := v218) (y := 0) (a := v218.toInt) (b := 0) rfl rfl (by omega) (by omega)
                          rw [q_v219]
                          refine qm_Ru.go 3 (c' := (158, [.ref 28, .int y, .int r, .int s, .int 2, .int v192, .int 2, .int 1, .int v219, .float 0], [.ref 28, .int v219], h)) rfl ?_
                          refine hk_getr rfl (hH.1 28 (9, 8) rfl) rfl hT.2 ?_
                          refine qm_Ru.go 0 (c' := (161, [.ref 28, .int y, .int r, .int s, .int 2, .int v192, .int 2, .int 1, .int v219, .float 0], [.ref 29, .int v219], h)) rfl ?_
                          obtain ⟨v220, q_v220⟩ : ∃ v, h.2.1 29 4 = v := ⟨_, rfl⟩
                          refine hk_geti (v := v220) rfl (hH.1 29 (11, 16) rfl) rfl q_v220 ?_
                          refine qm_Ru.go 0 (c' := (164, [.ref 28, .int y, .int r, .int s, .int 2, .int v192, .int 2, .int 1, .int v219, .float 0], [.int v220, .int v219], h)) rfl ?_
                          refine hk_cle (ix := v219.toInt) (iy := v220.toInt) rfl rfl rfl (fun z221 => ?_) (fun z221 => ?_)
                          · refine qm_Ru.go 5 (c' := (176, [.ref 28, .int y, .int r, .int s, .int 2, .int v192, .int 2, .int 1, .int v219, .float 0], [.int (-v219), .int r, .int y, .ref 28], h)) rfl ?_
                            obtain ⟨v222, q_v222, e_v222⟩ := hk_neg (x := v219) (a := v219.toInt) rfl (by omega)
                            rw [q_v222]
                            refine hk_inv (o := 28) (r := []) (as := [.ref 28, .int y, .int r, .int v222]) rfl rfl (hH.1 28 (9, 8) rfl) rfl rfl rfl rfl (hs_borne29 h6 hH hT hB (v_C_ru hV) ⟨by show (0 : Int) ≤ y.toInt; omega, by show y.toInt ≤ (4 : Int); omega⟩ ⟨by show (0 : Int) ≤ r.toInt; omega, by show r.toInt ≤ (3 : Int); omega⟩ (qa_in_full _) (by omega) (fun v223 I224 J225 c_v223 _ e_I224 => ?_))
                            have e_I224 : I224 = h.2.1 := funext fun o => funext fun i => e_I224 o rfl i
                            subst e_I224
                            have b_v223 : (0 : Int) ≤ v223.toInt ∧ v223.toInt ≤ 1 := c_v223
                            refine qm_Ru.go 0 (c' := (179, [.ref 28, .int y, .int r, .int s, .int 2, .int v192, .int 2, .int 1, .int v219, .float 0], [.int v223], (h.1, h.2.1, J225, h.2.2.2))) rfl ?_
                            refine hk_zne (ix := v223.toInt) rfl rfl (fun z226 => ?_) (fun z226 => ?_)
                            · refine qm_Ru.go 0 (c' := (197, [.ref 28, .int y, .int r, .int s, .int 2, .int v192, .int 2, .int 1, .int v219, .float 0], [], (h.1, h.2.1, J225, h.2.2.2))) rfl ?_
                              exact hq_land22 (h := (h.1, h.2.1, J225, h.2.2.2)) hH hB hV (by omega) (by omega) (by omega) (fun _ => by rw [q_v215]; omega) (p_at q_v192 (by omega) (by omega)) (p_no q_v186 (by omega) (by omega)) (fun v I hB2 hV2 hm2 ev => k (some (.int v)) I _ ⟨_, rfl, ⟨by show (-3 : Int) ≤ v.toInt; omega, by show v.toInt ≤ (2 : Int); omega⟩⟩ hB2 hV2 hm2)
                            · refine qm_Ru.go 5 (c' := (188, [.ref 28, .int y, .int r, .int s, .int 2, .int v192, .int 2, .int 1, .int v219, .float 0], [.int (-v219), .int r, .int y, .ref 28], (h.1, h.2.1, J225, h.2.2.2))) rfl ?_
                              rw [q_v222]
                              refine hk_inv (o := 28) (r := []) (as := [.ref 28, .int y, .int r, .int v222]) rfl rfl (hH.1 28 (9, 8) rfl) rfl rfl rfl rfl (hs_nowor29 h6 hH hT hB (v_C_ru hV) ⟨by show (0 : Int) ≤ y.toInt; omega, by show y.toInt ≤ (4 : Int); omega⟩ ⟨by show (0 : Int) ≤ r.toInt; omega, by show r.toInt ≤ (3 : Int); omega⟩ (qa_in_full _) (by omega) (fun v228 I229 J230 c_v228 _ e_I229 => ?_))
                              have e_I229 : I229 = h.2.1 := funext fun o => funext fun i => e_I229 o rfl i
                              subst e_I229
                              have b_v228 : (0 : Int) ≤ v228.toInt ∧ v228.toInt ≤ 1 := c_v228
                              refine qm_Ru.go 0 (c' := (191, [.ref 28, .int y, .int r, .int s, .int 2, .int v192, .int 2, .int 1, .int v219, .float 0], [.int v228], (h.1, h.2.1, J230, h.2.2.2))) rfl ?_
                              refine hk_zne (ix := v228.toInt) rfl rfl (fun z231 => ?_) (fun z231 => ?_)
                              · refine qm_Ru.go 0 (c' := (197, [.ref 28, .int y, .int r, .int s, .int 2, .int v192, .int 2, .int 1, .int v219, .float 0], [], (h.1, h.2.1, J230, h.2.2.2))) rfl ?_
                                exact hq_land22 (h := (h.1, h.2.1, J230, h.2.2.2)) hH hB hV (by omega) (by omega) (by omega) (fun _ => by rw [q_v215]; omega) (p_at q_v192 (by omega) (by omega)) (p_no q_v186 (by omega) (by omega)) (fun v I hB2 hV2 hm2 ev => k (some (.int v)) I _ ⟨_, rfl, ⟨by show (-3 : Int) ≤ v.toInt; omega, by show v.toInt ≤ (2 : Int); omega⟩⟩ hB2 hV2 hm2)
                              · refine qm_Ru.go 1 (c' := (196, [.ref 28, .int y, .int r, .int s, .int 2, .int v192, .int 2, .int 1, .int v219, .float 0], [.int (-3)], (h.1, h.2.1, J230, h.2.2.2))) rfl ?_
                                refine qm_Ru.rt (v := (some (.int (-3)))) (h' := (h.1, h.2.1, J230, h.2.2.2)) rfl ?_
                                exact k (some (.int (-3))) (h.2.1) (J230) ⟨_, rfl, ⟨by decide, by decide⟩⟩ hB hV (fun _ _ _ => rfl)
                          · refine qm_Ru.go 1 (c' := (169, [.ref 28, .int y, .int r, .int s, .int 2, .int v192, .int 2, .int 1, .int v219, .float 0], [.int (-2)], h)) rfl ?_
                            refine qm_Ru.rt (v := (some (.int (-2)))) (h' := h) rfl ?_
                            exact k (some (.int (-2))) (h.2.1) (h.2.2.1) ⟨_, rfl, ⟨by decide, by decide⟩⟩ hB hV (fun _ _ _ => rfl)
                        · refine qm_Ru.go 1 (c' := (110, [.ref 28, .int y, .int r, .int s, .int 2, .int v192, .int 2, .int 1, .float 0, .float 0], [.int (-1)], h)) rfl ?_
                          refine qm_Ru.rt (v := (some (.int (-1)))) (h' := h) rfl ?_
                          exact k (some (.int (-1))) (h.2.1) (h.2.2.1) ⟨_, rfl, ⟨by decide, by decide⟩⟩ hB hV (fun _ _ _ => rfl)
                    · refine qm_Ru.go 3 (c' := (65, [.ref 28, .int y, .int r, .int s, .int 2, .int v192, .float 0, .float 0, .float 0, .float 0], [.int y, .ref 28, .int 2], h)) rfl ?_
                      refine hk_inv (o := 28) (r := [.int 2]) (as := [.ref 28, .int y]) rfl rfl (hH.1 28 (9, 8) rfl) rfl rfl rfl rfl ?_
                      refine qm_Ru.go 2 (c' := (2, [.ref 28, .int y], [.int y, .ref 28], h)) rfl ?_
                      refine hk_inv (o := 28) (r := []) (as := [.ref 28, .int y]) rfl rfl (hH.1 28 (9, 8) rfl) rfl rfl rfl rfl ?_
                      refine qm_Ru.go 1 (c' := (1, [.ref 28, .int y], [.ref 28], h)) rfl ?_
                      refine hk_geti (v := v8) rfl (hH.1 28 (9, 8) rfl) rfl q_v8 ?_
                      refine qm_Ru.go 2 (c' := (6, [.ref 28, .int y], [.int (v8 >>> (y &&& 31))], h)) rfl ?_
                      rw [q_v9]
                      refine qm_Ru.go 2 (c' := (8, [.ref 28, .int y], [.int (v9 &&& 1)], h)) rfl ?_
                      rw [q_v10]
                      refine qm_Ru.go 1 (c' := (9, [.ref 28, .int y], [.int 1, .int v10], h)) rfl ?_
                      refine hk_cne (ix := v10.toInt) (iy := 1) rfl rfl rfl (fun z234 => by exfalso; omega) (fun z234 => ?_)
                      refine qm_Ru.go 2 (c' := (17, [.ref 28, .int y], [.int 1], h)) rfl ?_
                      refine qm_Ru.rt (v := (some (.int 1))) (h' := h) rfl ?_
                      refine qm_Ru.go 3 (c' := (13, [.ref 28, .int y], [.int 2], h)) rfl ?_
                      refine qm_Ru.rt (v := (some (.int 2))) (h' := h) rfl ?_
                      refine qm_Ru.go 11 (c' := (93, [.ref 28, .int y, .int r, .int s, .int 2, .int v192, .int 2, .int 1, .float 0, .float 0], [.int (-1), .int s], h)) rfl ?_
                      refine hk_ceq (ix := s.toInt) (iy := (-1)) rfl rfl rfl (fun z235 => ?_) (fun z235 => ?_)
                      · refine qm_Ru.go 0 (c' := (111, [.ref 28, .int y, .int r, .int s, .int 2, .int v192, .int 2, .int 1, .float 0, .float 0], [], h)) rfl ?_
                        refine qm_Ru.go 1 (c' := (112, [.ref 28, .int y, .int r, .int s, .int 2, .int v192, .int 2, .int 1, .float 0, .float 0], [.ref 28], h)) rfl ?_
                        refine hk_getr rfl (hH.1 28 (9, 8) rfl) rfl (hH.2 28 0 (some 6) rfl) ?_
                        refine qm_Ru.go 0 (c' := (115, [.ref 28, .int y, .int r, .int s, .int 2, .int v192, .int 2, .int 1, .float 0, .float 0], [.ref 6], h)) rfl ?_
                        refine hk_getr rfl (hH.1 6 (6, 9) rfl) rfl (hH.2 6 1 (some 7) rfl) ?_
                        refine qm_Ru.go 1 (c' := (120, [.ref 28, .int y, .int r, .int s, .int 2, .int v192, .int 2, .int 1, .float 0, .float 0], [.int v192, .ref 7], h)) rfl ?_
                        obtain ⟨v236, q_v236⟩ : ∃ v, h.2.1 7 (v192.toInt.toNat) = v := ⟨_, rfl⟩
                        have b_v236 : (0 : Int) ≤ v236.toInt ∧ v236.toInt ≤ 40 := by rw [← q_v236]; exact hB 7 (v192.toInt.toNat)
                        refine hk_ial (v := v236) rfl (hH.1 7 (0, 30) rfl) (by omega) (by omega) q_v236 ?_
                        refine qm_Ru.go 5 (c' := (153, [.ref 28, .int y, .int r, .int s, .int 2, .int v192, .int 2, .int 1, .float 0, .float 0], [.int (v236 + 0)], h)) rfl ?_
                        obtain ⟨v237, q_v237, e_v237⟩ := hk_add (x := v236) (y := 0) (a := v236.toInt) (b := 0) rfl rfl (by omega) (by omega)
                        rw [q_v237]
                        refine qm_Ru.go 3 (c' := (158, [.ref 28, .int y, .int r, .int s, .int 2, .int v192, .int 2, .int 1, .int v237, .float 0], [.ref 28, .int v237], h)) rfl ?_
                        refine hk_getr rfl (hH.1 28 (9, 8) rfl) rfl hT.2 ?_
                        refine qm_Ru.go 0 (c' := (161, [.ref 28, .int y, .int r, .int s, .int 2, .int v192, .int 2, .int 1, .int v237, .float 0], [.ref 29, .int v237], h)) rfl ?_
                        obtain ⟨v238, q_v238⟩ : ∃ v, h.2.1 29 4 = v := ⟨_, rfl⟩
                        refine hk_geti (v := v238) rfl (hH.1 29 (11, 16) rfl) rfl q_v238 ?_
                        refine qm_Ru.go 0 (c' := (164, [.ref 28, .int y, .int r, .int s, .int 2, .int v192, .int 2, .int 1, .int v237, .float 0], [.int v238, .int v237], h)) rfl ?_
                        refine hk_cle (ix := v237.toInt) (iy := v238.toInt) rfl rfl rfl (fun z239 => ?_) (fun z239 => ?_)
                        · refine qm_Ru.go 5 (c' := (176, [.ref 28, .int y, .int r, .int s, .int 2, .int v192, .int 2, .int 1, .int v237, .float 0], [.int (-v237), .int r, .int y, .ref 28], h)) rfl ?_
                          obtain ⟨v240, q_v240, e_v240⟩ := hk_neg (x := v237) (a := v237.toInt) rfl (by omega)
                          rw [q_v240]
                          refine hk_inv (o := 28) (r := []) (as := [.ref 28, .int y, .int r, .int v240]) rfl rfl (hH.1 28 (9, 8) rfl) rfl rfl rfl rfl (hs_borne29 h6 hH hT hB (v_C_ru hV) ⟨by show (0 : Int) ≤ y.toInt; omega, by show y.toInt ≤ (4 : Int); omega⟩ ⟨by show (0 : Int) ≤ r.toInt; omega, by show r.toInt ≤ (3 : Int); omega⟩ (qa_in_full _) (by omega) (fun v241 I242 J243 c_v241 _ e_I242 => ?_))
                          have e_I242 : I242 = h.2.1 := funext fun o => funext fun i => e_I242 o rfl i
                          subst e_I242
                          have b_v241 : (0 : Int) ≤ v241.toInt ∧ v241.toInt ≤ 1 := c_v241
                          refine qm_Ru.go 0 (c' := (179, [.ref 28, .int y, .int r, .int s, .int 2, .int v192, .int 2, .int 1, .int v237, .float 0], [.int v241], (h.1, h.2.1, J243, h.2.2.2))) rfl ?_
                          refine hk_zne (ix := v241.toInt) rfl rfl (fun z244 => ?_) (fun z244 => ?_)
                          · refine qm_Ru.go 0 (c' := (197, [.ref 28, .int y, .int r, .int s, .int 2, .int v192, .int 2, .int 1, .int v237, .float 0], [], (h.1, h.2.1, J243, h.2.2.2))) rfl ?_
                            exact hq_land22 (h := (h.1, h.2.1, J243, h.2.2.2)) hH hB hV (by omega) (by omega) (by omega) (fun c => absurd z235 c) (p_at q_v192 (by omega) (by omega)) (p_no q_v186 (by omega) (by omega)) (fun v I hB2 hV2 hm2 ev => k (some (.int v)) I _ ⟨_, rfl, ⟨by show (-3 : Int) ≤ v.toInt; omega, by show v.toInt ≤ (2 : Int); omega⟩⟩ hB2 hV2 hm2)
                          · refine qm_Ru.go 5 (c' := (188, [.ref 28, .int y, .int r, .int s, .int 2, .int v192, .int 2, .int 1, .int v237, .float 0], [.int (-v237), .int r, .int y, .ref 28], (h.1, h.2.1, J243, h.2.2.2))) rfl ?_
                            rw [q_v240]
                            refine hk_inv (o := 28) (r := []) (as := [.ref 28, .int y, .int r, .int v240]) rfl rfl (hH.1 28 (9, 8) rfl) rfl rfl rfl rfl (hs_nowor29 h6 hH hT hB (v_C_ru hV) ⟨by show (0 : Int) ≤ y.toInt; omega, by show y.toInt ≤ (4 : Int); omega⟩ ⟨by show (0 : Int) ≤ r.toInt; omega, by show r.toInt ≤ (3 : Int); omega⟩ (qa_in_full _) (by omega) (fun v246 I247 J248 c_v246 _ e_I247 => ?_))
                            have e_I247 : I247 = h.2.1 := funext fun o => funext fun i => e_I247 o rfl i
                            subst e_I247
                            have b_v246 : (0 : Int) ≤ v246.toInt ∧ v246.toInt ≤ 1 := c_v246
                            refine qm_Ru.go 0 (c' := (191, [.ref 28, .int y, .int r, .int s, .int 2, .int v192, .int 2, .int 1, .int v237, .float 0], [.int v246], (h.1, h.2.1, J248, h.2.2.2))) rfl ?_
                            refine hk_zne (ix := v246.toInt) rfl rfl (fun z249 => ?_) (fun z249 => ?_)
                            · refine qm_Ru.go 0 (c' := (197, [.ref 28, .int y, .int r, .int s, .int 2, .int v192, .int 2, .int 1, .int v237, .float 0], [], (h.1, h.2.1, J248, h.2.2.2))) rfl ?_
                              exact hq_land22 (h := (h.1, h.2.1, J248, h.2.2.2)) hH hB hV (by omega) (by omega) (by omega) (fun c => absurd z235 c) (p_at q_v192 (by omega) (by omega)) (p_no q_v186 (by omega) (by omega)) (fun v I hB2 hV2 hm2 ev => k (some (.int v)) I _ ⟨_, rfl, ⟨by show (-3 : Int) ≤ v.toInt; omega, by show v.toInt ≤ (2 : Int); omega⟩⟩ hB2 hV2 hm2)
                            · refine qm_Ru.go 1 (c' := (196, [.ref 28, .int y, .int r, .int s, .int 2, .int v192, .int 2, .int 1, .int v237, .float 0], [.int (-3)], (h.1, h.2.1, J248, h.2.2.2))) rfl ?_
                              refine qm_Ru.rt (v := (some (.int (-3)))) (h' := (h.1, h.2.1, J248, h.2.2.2)) rfl ?_
                              exact k (some (.int (-3))) (h.2.1) (J248) ⟨_, rfl, ⟨by decide, by decide⟩⟩ hB hV (fun _ _ _ => rfl)
                        · refine qm_Ru.go 1 (c' := (169, [.ref 28, .int y, .int r, .int s, .int 2, .int v192, .int 2, .int 1, .int v237, .float 0], [.int (-2)], h)) rfl ?_
                          refine qm_Ru.rt (v := (some (.int (-2)))) (h' := h) rfl ?_
                          exact k (some (.int (-2))) (h.2.1) (h.2.2.1) ⟨_, rfl, ⟨by decide, by decide⟩⟩ hB hV (fun _ _ _ => rfl)
                      · refine qm_Ru.go 1 (c' := (97, [.ref 28, .int y, .int r, .int s, .int 2, .int v192, .int 2, .int 1, .float 0, .float 0], [.ref 28], h)) rfl ?_
                        refine hk_getr rfl (hH.1 28 (9, 8) rfl) rfl (hH.2 28 1 (some 15) rfl) ?_
                        refine qm_Ru.go 1 (c' := (101, [.ref 28, .int y, .int r, .int s, .int 2, .int v192, .int 2, .int 1, .float 0, .float 0], [.int s, .ref 15], h)) rfl ?_
                        refine hk_inv (o := 15) (r := []) (as := [.ref 15, .int s]) rfl rfl (hH.1 15 (15, 8) rfl) rfl rfl rfl rfl ?_
                        refine qm_Ru.go 2 (c' := (2, [.ref 15, .int s], [.ref 15, .int 4], h)) rfl ?_
                        refine hk_getr rfl (hH.1 15 (15, 8) rfl) rfl (hH.2 15 2 (some 17) rfl) ?_
                        refine qm_Ru.go 1 (c' := (6, [.ref 15, .int s], [.int s, .ref 17, .int 4], h)) rfl ?_
                        obtain ⟨v250, q_v250⟩ : ∃ v, h.2.1 17 (s.toInt.toNat) = v := ⟨_, rfl⟩
                        have b_v250 : (0 : Int) ≤ v250.toInt ∧ v250.toInt ≤ 4 := by rw [← q_v250]; exact hB 17 (s.toInt.toNat)
                        refine hk_ial (v := v250) rfl (hH.1 17 (0, 4) rfl) (by omega) (by omega) q_v250 ?_
                        refine qm_Ru.go 1 (c' := (8, [.ref 15, .int s], [.int (4 - v250)], h)) rfl ?_
                        obtain ⟨v251, q_v251, e_v251⟩ := hk_sub (x := 4) (y := v250) (a := 4) (b := v250.toInt) rfl rfl (by omega) (by omega)
                        rw [q_v251]
                        refine qm_Ru.rt (v := (some (.int v251))) (h' := h) rfl ?_
                        refine qm_Ru.go 1 (c' := (106, [.ref 28, .int y, .int r, .int s, .int 2, .int v192, .int 2, .int 1, .float 0, .float 0], [.int 1, .int v251], h)) rfl ?_
                        refine hk_cge (ix := v251.toInt) (iy := 1) rfl rfl rfl (fun z252 => ?_) (fun z252 => ?_)
                        · refine qm_Ru.go 0 (c' := (111, [.ref 28, .int y, .int r, .int s, .int 2, .int v192, .int 2, .int 1, .float 0, .float 0], [], h)) rfl ?_
                          refine qm_Ru.go 1 (c' := (112, [.ref 28, .int y, .int r, .int s, .int 2, .int v192, .int 2, .int 1, .float 0, .float 0], [.ref 28], h)) rfl ?_
                          refine hk_getr rfl (hH.1 28 (9, 8) rfl) rfl (hH.2 28 0 (some 6) rfl) ?_
                          refine qm_Ru.go 0 (c' := (115, [.ref 28, .int y, .int r, .int s, .int 2, .int v192, .int 2, .int 1, .float 0, .float 0], [.ref 6], h)) rfl ?_
                          refine hk_getr rfl (hH.1 6 (6, 9) rfl) rfl (hH.2 6 1 (some 7) rfl) ?_
                          refine qm_Ru.go 1 (c' := (120, [.ref 28, .int y, .int r, .int s, .int 2, .int v192, .int 2, .int 1, .float 0, .float 0], [.int v192, .ref 7], h)) rfl ?_
                          obtain ⟨v253, q_v253⟩ : ∃ v, h.2.1 7 (v192.toInt.toNat) = v := ⟨_, rfl⟩
                          have b_v253 : (0 : Int) ≤ v253.toInt ∧ v253.toInt ≤ 40 := by rw [← q_v253]; exact hB 7 (v192.toInt.toNat)
                          refine hk_ial (v := v253) rfl (hH.1 7 (0, 30) rfl) (by omega) (by omega) q_v253 ?_
                          refine qm_Ru.go 5 (c' := (153, [.ref 28, .int y, .int r, .int s, .int 2, .int v192, .int 2, .int 1, .float 0, .float 0], [.int (v253 + 0)], h)) rfl ?_
                          obtain ⟨v254, q_v254, e_v254⟩ := hk_add (x := v253) (y := 0) (a := v253.toInt) (b := 0) rfl rfl (by omega) (by omega)
                          rw [q_v254]
                          refine qm_Ru.go 3 (c' := (158, [.ref 28, .int y, .int r, .int s, .int 2, .int v192, .int 2, .int 1, .int v254, .float 0], [.ref 28, .int v254], h)) rfl ?_
                          refine hk_getr rfl (hH.1 28 (9, 8) rfl) rfl hT.2 ?_
                          refine qm_Ru.go 0 (c' := (161, [.ref 28, .int y, .int r, .int s, .int 2, .int v192, .int 2, .int 1, .int v254, .float 0], [.ref 29, .int v254], h)) rfl ?_
                          obtain ⟨v255, q_v255⟩ : ∃ v, h.2.1 29 4 = v := ⟨_, rfl⟩
                          refine hk_geti (v := v255) rfl (hH.1 29 (11, 16) rfl) rfl q_v255 ?_
                          refine qm_Ru.go 0 (c' := (164, [.ref 28, .int y, .int r, .int s, .int 2, .int v192, .int 2, .int 1, .int v254, .float 0], [.int v255, .int v254], h)) rfl ?_
                          refine hk_cle (ix := v254.toInt) (iy := v255.toInt) rfl rfl rfl (fun z256 => ?_) (fun z256 => ?_)
                          · refine qm_Ru.go 5 (c' := (176, [.ref 28, .int y, .int r, .int s, .int 2, .int v192, .int 2, .int 1, .int v254, .float 0], [.int (-v254), .int r, .int y, .ref 28], h)) rfl ?_
                            obtain ⟨v257, q_v257, e_v257⟩ := hk_neg (x := v254) (a := v254.toInt) rfl (by omega)
                            rw [q_v257]
                            refine hk_inv (o := 28) (r := []) (as := [.ref 28, .int y, .int r, .int v257]) rfl rfl (hH.1 28 (9, 8) rfl) rfl rfl rfl rfl (hs_borne29 h6 hH hT hB (v_C_ru hV) ⟨by show (0 : Int) ≤ y.toInt; omega, by show y.toInt ≤ (4 : Int); omega⟩ ⟨by show (0 : Int) ≤ r.toInt; omega, by show r.toInt ≤ (3 : Int); omega⟩ (qa_in_full _) (by omega) (fun v258 I259 J260 c_v258 _ e_I259 => ?_))
                            have e_I259 : I259 = h.2.1 := funext fun o => funext fun i => e_I259 o rfl i
                            subst e_I259
                            have b_v258 : (0 : Int) ≤ v258.toInt ∧ v258.toInt ≤ 1 := c_v258
                            refine qm_Ru.go 0 (c' := (179, [.ref 28, .int y, .int r, .int s, .int 2, .int v192, .int 2, .int 1, .int v254, .float 0], [.int v258], (h.1, h.2.1, J260, h.2.2.2))) rfl ?_
                            refine hk_zne (ix := v258.toInt) rfl rfl (fun z261 => ?_) (fun z261 => ?_)
                            · refine qm_Ru.go 0 (c' := (197, [.ref 28, .int y, .int r, .int s, .int 2, .int v192, .int 2, .int 1, .int v254, .float 0], [], (h.1, h.2.1, J260, h.2.2.2))) rfl ?_
                              exact hq_land22 (h := (h.1, h.2.1, J260, h.2.2.2)) hH hB hV (by omega) (by omega) (by omega) (fun _ => by rw [q_v250]; omega) (p_at q_v192 (by omega) (by omega)) (p_no q_v186 (by omega) (by omega)) (fun v I hB2 hV2 hm2 ev => k (some (.int v)) I _ ⟨_, rfl, ⟨by show (-3 : Int) ≤ v.toInt; omega, by show v.toInt ≤ (2 : Int); omega⟩⟩ hB2 hV2 hm2)
                            · refine qm_Ru.go 5 (c' := (188, [.ref 28, .int y, .int r, .int s, .int 2, .int v192, .int 2, .int 1, .int v254, .float 0], [.int (-v254), .int r, .int y, .ref 28], (h.1, h.2.1, J260, h.2.2.2))) rfl ?_
                              rw [q_v257]
                              refine hk_inv (o := 28) (r := []) (as := [.ref 28, .int y, .int r, .int v257]) rfl rfl (hH.1 28 (9, 8) rfl) rfl rfl rfl rfl (hs_nowor29 h6 hH hT hB (v_C_ru hV) ⟨by show (0 : Int) ≤ y.toInt; omega, by show y.toInt ≤ (4 : Int); omega⟩ ⟨by show (0 : Int) ≤ r.toInt; omega, by show r.toInt ≤ (3 : Int); omega⟩ (qa_in_full _) (by omega) (fun v263 I264 J265 c_v263 _ e_I264 => ?_))
                              have e_I264 : I264 = h.2.1 := funext fun o => funext fun i => e_I264 o rfl i
                              subst e_I264
                              have b_v263 : (0 : Int) ≤ v263.toInt ∧ v263.toInt ≤ 1 := c_v263
                              refine qm_Ru.go 0 (c' := (191, [.ref 28, .int y, .int r, .int s, .int 2, .int v192, .int 2, .int 1, .int v254, .float 0], [.int v263], (h.1, h.2.1, J265, h.2.2.2))) rfl ?_
                              refine hk_zne (ix := v263.toInt) rfl rfl (fun z266 => ?_) (fun z266 => ?_)
                              · refine qm_Ru.go 0 (c' := (197, [.ref 28, .int y, .int r, .int s, .int 2, .int v192, .int 2, .int 1, .int v254, .float 0], [], (h.1, h.2.1, J265, h.2.2.2))) rfl ?_
                                exact hq_land22 (h := (h.1, h.2.1, J265, h.2.2.2)) hH hB hV (by omega) (by omega) (by omega) (fun _ => by rw [q_v250]; omega) (p_at q_v192 (by omega) (by omega)) (p_no q_v186 (by omega) (by omega)) (fun v I hB2 hV2 hm2 ev => k (some (.int v)) I _ ⟨_, rfl, ⟨by show (-3 : Int) ≤ v.toInt; omega, by show v.toInt ≤ (2 : Int); omega⟩⟩ hB2 hV2 hm2)
                              · refine qm_Ru.go 1 (c' := (196, [.ref 28, .int y, .int r, .int s, .int 2, .int v192, .int 2, .int 1, .int v254, .float 0], [.int (-3)], (h.1, h.2.1, J265, h.2.2.2))) rfl ?_
                                refine qm_Ru.rt (v := (some (.int (-3)))) (h' := (h.1, h.2.1, J265, h.2.2.2)) rfl ?_
                                exact k (some (.int (-3))) (h.2.1) (J265) ⟨_, rfl, ⟨by decide, by decide⟩⟩ hB hV (fun _ _ _ => rfl)
                          · refine qm_Ru.go 1 (c' := (169, [.ref 28, .int y, .int r, .int s, .int 2, .int v192, .int 2, .int 1, .int v254, .float 0], [.int (-2)], h)) rfl ?_
                            refine qm_Ru.rt (v := (some (.int (-2)))) (h' := h) rfl ?_
                            exact k (some (.int (-2))) (h.2.1) (h.2.2.1) ⟨_, rfl, ⟨by decide, by decide⟩⟩ hB hV (fun _ _ _ => rfl)
                        · refine qm_Ru.go 1 (c' := (110, [.ref 28, .int y, .int r, .int s, .int 2, .int v192, .int 2, .int 1, .float 0, .float 0], [.int (-1)], h)) rfl ?_
                          refine qm_Ru.rt (v := (some (.int (-1)))) (h' := h) rfl ?_
                          exact k (some (.int (-1))) (h.2.1) (h.2.2.1) ⟨_, rfl, ⟨by decide, by decide⟩⟩ hB hV (fun _ _ _ => rfl)
                · refine qm_Ru.go 3 (c' := (26, [.ref 28, .int y, .int r, .int 2], [.int 3], h)) rfl ?_
                  refine qm_Ru.rt (v := (some (.int 3))) (h' := h) rfl ?_
                  refine qm_Ru.go 5 (c' := (35, [.ref 28, .int y, .int r, .int s, .int 3, .float 0, .float 0, .float 0, .float 0, .float 0], [.ref 28], h)) rfl ?_
                  refine hk_getr rfl (hH.1 28 (9, 8) rfl) rfl (hH.2 28 3 (some 36) rfl) ?_
                  refine qm_Ru.go 3 (c' := (42, [.ref 28, .int y, .int r, .int s, .int 3, .float 0, .float 0, .float 0, .float 0, .float 0], [.int 3, .int r, .int y, .ref 36], h)) rfl ?_
                  refine qm_Ru.call (j := 75) (as := [.int y, .int r, .int 3]) (c' := (45, [.ref 28, .int y, .int r, .int s, .int 3, .float 0, .float 0, .float 0, .float 0, .float 0], [.ref 36], h)) rfl rfl rfl ?_
                  refine qm_Ru.go 3 (c' := (3, [.int y, .int r, .int 3], [.int (y * 4)], h)) rfl ?_
                  rw [q_v182]
                  refine qm_Ru.go 2 (c' := (5, [.int y, .int r, .int 3], [.int (v182 + r)], h)) rfl ?_
                  rw [q_v183]
                  refine qm_Ru.go 2 (c' := (7, [.int y, .int r, .int 3], [.int (v183 * 4)], h)) rfl ?_
                  rw [q_v184]
                  refine qm_Ru.go 2 (c' := (9, [.int y, .int r, .int 3], [.int (v184 + 3)], h)) rfl ?_
                  rw [q_v185]
                  refine qm_Ru.rt (v := (some (.int v185))) (h' := h) rfl ?_
                  refine qm_Ru.go 0 (c' := (45, [.ref 28, .int y, .int r, .int s, .int 3, .float 0, .float 0, .float 0, .float 0, .float 0], [.int v185, .ref 36], h)) rfl ?_
                  refine hk_ial (v := v186) rfl (hH.1 36 (0, 80) rfl) (by omega) (by omega) q_v186 ?_
                  refine qm_Ru.go 2 (c' := (49, [.ref 28, .int y, .int r, .int s, .int 3, .int v186, .float 0, .float 0, .float 0, .float 0], [.ref 28], h)) rfl ?_
                  refine hk_getr rfl (hH.1 28 (9, 8) rfl) rfl (hH.2 28 0 (some 6) rfl) ?_
                  refine qm_Ru.go 0 (c' := (52, [.ref 28, .int y, .int r, .int s, .int 3, .int v186, .float 0, .float 0, .float 0, .float 0], [.ref 6], h)) rfl ?_
                  refine hk_getr rfl (hH.1 6 (6, 9) rfl) rfl (hH.2 6 4 (some 10) rfl) ?_
                  refine qm_Ru.go 1 (c' := (57, [.ref 28, .int y, .int r, .int s, .int 3, .int v186, .float 0, .float 0, .float 0, .float 0], [.int v186, .ref 10], h)) rfl ?_
                  obtain ⟨v271, q_v271⟩ : ∃ v, h.2.1 10 (v186.toInt.toNat) = v := ⟨_, rfl⟩
                  have b_v271 : (0 : Int) ≤ v271.toInt ∧ v271.toInt ≤ 1 := by rw [← q_v271]; exact hB 10 (v186.toInt.toNat)
                  refine hk_bal (v := v271) rfl (hH.1 10 (2, 30) rfl) (by decide) (by omega) (by omega) q_v271 ?_
                  refine qm_Ru.go 0 (c' := (58, [.ref 28, .int y, .int r, .int s, .int 3, .int v186, .float 0, .float 0, .float 0, .float 0], [.int v271], h)) rfl ?_
                  refine hk_zeq (ix := v271.toInt) rfl rfl (fun z272 => ?_) (fun z272 => ?_)
                  · refine qm_Ru.go 10 (c' := (93, [.ref 28, .int y, .int r, .int s, .int 3, .int v186, .int 3, .int 1, .float 0, .float 0], [.int (-1), .int s], h)) rfl ?_
                    refine hk_ceq (ix := s.toInt) (iy := (-1)) rfl rfl rfl (fun z273 => ?_) (fun z273 => ?_)
                    · refine qm_Ru.go 0 (c' := (111, [.ref 28, .int y, .int r, .int s, .int 3, .int v186, .int 3, .int 1, .float 0, .float 0], [], h)) rfl ?_
                      refine qm_Ru.go 1 (c' := (112, [.ref 28, .int y, .int r, .int s, .int 3, .int v186, .int 3, .int 1, .float 0, .float 0], [.ref 28], h)) rfl ?_
                      refine hk_getr rfl (hH.1 28 (9, 8) rfl) rfl (hH.2 28 0 (some 6) rfl) ?_
                      refine qm_Ru.go 0 (c' := (115, [.ref 28, .int y, .int r, .int s, .int 3, .int v186, .int 3, .int 1, .float 0, .float 0], [.ref 6], h)) rfl ?_
                      refine hk_getr rfl (hH.1 6 (6, 9) rfl) rfl (hH.2 6 1 (some 7) rfl) ?_
                      refine qm_Ru.go 1 (c' := (120, [.ref 28, .int y, .int r, .int s, .int 3, .int v186, .int 3, .int 1, .float 0, .float 0], [.int v186, .ref 7], h)) rfl ?_
                      obtain ⟨v274, q_v274⟩ : ∃ v, h.2.1 7 (v186.toInt.toNat) = v := ⟨_, rfl⟩
                      have b_v274 : (0 : Int) ≤ v274.toInt ∧ v274.toInt ≤ 40 := by rw [← q_v274]; exact hB 7 (v186.toInt.toNat)
                      refine hk_ial (v := v274) rfl (hH.1 7 (0, 30) rfl) (by omega) (by omega) q_v274 ?_
                      refine qm_Ru.go 5 (c' := (153, [.ref 28, .int y, .int r, .int s, .int 3, .int v186, .int 3, .int 1, .float 0, .float 0], [.int (v274 + 0)], h)) rfl ?_
                      obtain ⟨v275, q_v275, e_v275⟩ := hk_add (x := v274) (y := 0) (a := v274.toInt) (b := 0) rfl rfl (by omega) (by omega)
                      rw [q_v275]
                      refine qm_Ru.go 3 (c' := (158, [.ref 28, .int y, .int r, .int s, .int 3, .int v186, .int 3, .int 1, .int v275, .float 0], [.ref 28, .int v275], h)) rfl ?_
                      refine hk_getr rfl (hH.1 28 (9, 8) rfl) rfl hT.2 ?_
                      refine qm_Ru.go 0 (c' := (161, [.ref 28, .int y, .int r, .int s, .int 3, .int v186, .int 3, .int 1, .int v275, .float 0], [.ref 29, .int v275], h)) rfl ?_
                      obtain ⟨v276, q_v276⟩ : ∃ v, h.2.1 29 4 = v := ⟨_, rfl⟩
                      refine hk_geti (v := v276) rfl (hH.1 29 (11, 16) rfl) rfl q_v276 ?_
                      refine qm_Ru.go 0 (c' := (164, [.ref 28, .int y, .int r, .int s, .int 3, .int v186, .int 3, .int 1, .int v275, .float 0], [.int v276, .int v275], h)) rfl ?_
                      refine hk_cle (ix := v275.toInt) (iy := v276.toInt) rfl rfl rfl (fun z277 => ?_) (fun z277 => ?_)
                      · refine qm_Ru.go 5 (c' := (176, [.ref 28, .int y, .int r, .int s, .int 3, .int v186, .int 3, .int 1, .int v275, .float 0], [.int (-v275), .int r, .int y, .ref 28], h)) rfl ?_
                        obtain ⟨v278, q_v278, e_v278⟩ := hk_neg (x := v275) (a := v275.toInt) rfl (by omega)
                        rw [q_v278]
                        refine hk_inv (o := 28) (r := []) (as := [.ref 28, .int y, .int r, .int v278]) rfl rfl (hH.1 28 (9, 8) rfl) rfl rfl rfl rfl (hs_borne29 h6 hH hT hB (v_C_ru hV) ⟨by show (0 : Int) ≤ y.toInt; omega, by show y.toInt ≤ (4 : Int); omega⟩ ⟨by show (0 : Int) ≤ r.toInt; omega, by show r.toInt ≤ (3 : Int); omega⟩ (qa_in_full _) (by omega) (fun v279 I280 J281 c_v279 _ e_I280 => ?_))
                        have e_I280 : I280 = h.2.1 := funext fun o => funext fun i => e_I280 o rfl i
                        subst e_I280
                        have b_v279 : (0 : Int) ≤ v279.toInt ∧ v279.toInt ≤ 1 := c_v279
                        refine qm_Ru.go 0 (c' := (179, [.ref 28, .int y, .int r, .int s, .int 3, .int v186, .int 3, .int 1, .int v275, .float 0], [.int v279], (h.1, h.2.1, J281, h.2.2.2))) rfl ?_
                        refine hk_zne (ix := v279.toInt) rfl rfl (fun z282 => ?_) (fun z282 => ?_)
                        · refine qm_Ru.go 0 (c' := (197, [.ref 28, .int y, .int r, .int s, .int 3, .int v186, .int 3, .int 1, .int v275, .float 0], [], (h.1, h.2.1, J281, h.2.2.2))) rfl ?_
                          exact hq_land33 (h := (h.1, h.2.1, J281, h.2.2.2)) hH hB hV (by omega) (by omega) (by omega) (fun c => absurd z273 c) (p_at q_v186 (by omega) (by omega)) (fun v I hB2 hV2 hm2 ev => k (some (.int v)) I _ ⟨_, rfl, ⟨by show (-3 : Int) ≤ v.toInt; omega, by show v.toInt ≤ (2 : Int); omega⟩⟩ hB2 hV2 hm2)
                        · refine qm_Ru.go 5 (c' := (188, [.ref 28, .int y, .int r, .int s, .int 3, .int v186, .int 3, .int 1, .int v275, .float 0], [.int (-v275), .int r, .int y, .ref 28], (h.1, h.2.1, J281, h.2.2.2))) rfl ?_
                          rw [q_v278]
                          refine hk_inv (o := 28) (r := []) (as := [.ref 28, .int y, .int r, .int v278]) rfl rfl (hH.1 28 (9, 8) rfl) rfl rfl rfl rfl (hs_nowor29 h6 hH hT hB (v_C_ru hV) ⟨by show (0 : Int) ≤ y.toInt; omega, by show y.toInt ≤ (4 : Int); omega⟩ ⟨by show (0 : Int) ≤ r.toInt; omega, by show r.toInt ≤ (3 : Int); omega⟩ (qa_in_full _) (by omega) (fun v284 I285 J286 c_v284 _ e_I285 => ?_))
                          have e_I285 : I285 = h.2.1 := funext fun o => funext fun i => e_I285 o rfl i
                          subst e_I285
                          have b_v284 : (0 : Int) ≤ v284.toInt ∧ v284.toInt ≤ 1 := c_v284
                          refine qm_Ru.go 0 (c' := (191, [.ref 28, .int y, .int r, .int s, .int 3, .int v186, .int 3, .int 1, .int v275, .float 0], [.int v284], (h.1, h.2.1, J286, h.2.2.2))) rfl ?_
                          refine hk_zne (ix := v284.toInt) rfl rfl (fun z287 => ?_) (fun z287 => ?_)
                          · refine qm_Ru.go 0 (c' := (197, [.ref 28, .int y, .int r, .int s, .int 3, .int v186, .int 3, .int 1, .int v275, .float 0], [], (h.1, h.2.1, J286, h.2.2.2))) rfl ?_
                            exact hq_land33 (h := (h.1, h.2.1, J286, h.2.2.2)) hH hB hV (by omega) (by omega) (by omega) (fun c => absurd z273 c) (p_at q_v186 (by omega) (by omega)) (fun v I hB2 hV2 hm2 ev => k (some (.int v)) I _ ⟨_, rfl, ⟨by show (-3 : Int) ≤ v.toInt; omega, by show v.toInt ≤ (2 : Int); omega⟩⟩ hB2 hV2 hm2)
                          · refine qm_Ru.go 1 (c' := (196, [.ref 28, .int y, .int r, .int s, .int 3, .int v186, .int 3, .int 1, .int v275, .float 0], [.int (-3)], (h.1, h.2.1, J286, h.2.2.2))) rfl ?_
                            refine qm_Ru.rt (v := (some (.int (-3)))) (h' := (h.1, h.2.1, J286, h.2.2.2)) rfl ?_
                            exact k (some (.int (-3))) (h.2.1) (J286) ⟨_, rfl, ⟨by decide, by decide⟩⟩ hB hV (fun _ _ _ => rfl)
                      · refine qm_Ru.go 1 (c' := (169, [.ref 28, .int y, .int r, .int s, .int 3, .int v186, .int 3, .int 1, .int v275, .float 0], [.int (-2)], h)) rfl ?_
                        refine qm_Ru.rt (v := (some (.int (-2)))) (h' := h) rfl ?_
                        exact k (some (.int (-2))) (h.2.1) (h.2.2.1) ⟨_, rfl, ⟨by decide, by decide⟩⟩ hB hV (fun _ _ _ => rfl)
                    · refine qm_Ru.go 1 (c' := (97, [.ref 28, .int y, .int r, .int s, .int 3, .int v186, .int 3, .int 1, .float 0, .float 0], [.ref 28], h)) rfl ?_
                      refine hk_getr rfl (hH.1 28 (9, 8) rfl) rfl (hH.2 28 1 (some 15) rfl) ?_
                      refine qm_Ru.go 1 (c' := (101, [.ref 28, .int y, .int r, .int s, .int 3, .int v186, .int 3, .int 1, .float 0, .float 0], [.int s, .ref 15], h)) rfl ?_
                      refine hk_inv (o := 15) (r := []) (as := [.ref 15, .int s]) rfl rfl (hH.1 15 (15, 8) rfl) rfl rfl rfl rfl ?_
                      refine qm_Ru.go 2 (c' := (2, [.ref 15, .int s], [.ref 15, .int 4], h)) rfl ?_
                      refine hk_getr rfl (hH.1 15 (15, 8) rfl) rfl (hH.2 15 2 (some 17) rfl) ?_
                      refine qm_Ru.go 1 (c' := (6, [.ref 15, .int s], [.int s, .ref 17, .int 4], h)) rfl ?_
                      obtain ⟨v288, q_v288⟩ : ∃ v, h.2.1 17 (s.toInt.toNat) = v := ⟨_, rfl⟩
                      have b_v288 : (0 : Int) ≤ v288.toInt ∧ v288.toInt ≤ 4 := by rw [← q_v288]; exact hB 17 (s.toInt.toNat)
                      refine hk_ial (v := v288) rfl (hH.1 17 (0, 4) rfl) (by omega) (by omega) q_v288 ?_
                      refine qm_Ru.go 1 (c' := (8, [.ref 15, .int s], [.int (4 - v288)], h)) rfl ?_
                      obtain ⟨v289, q_v289, e_v289⟩ := hk_sub (x := 4) (y := v288) (a := 4) (b := v288.toInt) rfl rfl (by omega) (by omega)
                      rw [q_v289]
                      refine qm_Ru.rt (v := (some (.int v289))) (h' := h) rfl ?_
                      refine qm_Ru.go 1 (c' := (106, [.ref 28, .int y, .int r, .int s, .int 3, .int v186, .int 3, .int 1, .float 0, .float 0], [.int 1, .int v289], h)) rfl ?_
                      refine hk_cge (ix := v289.toInt) (iy := 1) rfl rfl rfl (fun z290 => ?_) (fun z290 => ?_)
                      · refine qm_Ru.go 0 (c' := (111, [.ref 28, .int y, .int r, .int s, .int 3, .int v186, .int 3, .int 1, .float 0, .float 0], [], h)) rfl ?_
                        refine qm_Ru.go 1 (c' := (112, [.ref 28, .int y, .int r, .int s, .int 3, .int v186, .int 3, .int 1, .float 0, .float 0], [.ref 28], h)) rfl ?_
                        refine hk_getr rfl (hH.1 28 (9, 8) rfl) rfl (hH.2 28 0 (some 6) rfl) ?_
                        refine qm_Ru.go 0 (c' := (115, [.ref 28, .int y, .int r, .int s, .int 3, .int v186, .int 3, .int 1, .float 0, .float 0], [.ref 6], h)) rfl ?_
                        refine hk_getr rfl (hH.1 6 (6, 9) rfl) rfl (hH.2 6 1 (some 7) rfl) ?_
                        refine qm_Ru.go 1 (c' := (120, [.ref 28, .int y, .int r, .int s, .int 3, .int v186, .int 3, .int 1, .float 0, .float 0], [.int v186, .ref 7], h)) rfl ?_
                        obtain ⟨v291, q_v291⟩ : ∃ v, h.2.1 7 (v186.toInt.toNat) = v := ⟨_, rfl⟩
                        have b_v291 : (0 : Int) ≤ v291.toInt ∧ v291.toInt ≤ 40 := by rw [← q_v291]; exact hB 7 (v186.toInt.toNat)
                        refine hk_ial (v := v291) rfl (hH.1 7 (0, 30) rfl) (by omega) (by omega) q_v291 ?_
                        refine qm_Ru.go 5 (c' := (153, [.ref 28, .int y, .int r, .int s, .int 3, .int v186, .int 3, .int 1, .float 0, .float 0], [.int (v291 + 0)], h)) rfl ?_
                        obtain ⟨v292, q_v292, e_v292⟩ := hk_add (x := v291) (y := 0) (a := v291.toInt) (b := 0) rfl rfl (by omega) (by omega)
                        rw [q_v292]
                        refine qm_Ru.go 3 (c' := (158, [.ref 28, .int y, .int r, .int s, .int 3, .int v186, .int 3, .int 1, .int v292, .float 0], [.ref 28, .int v292], h)) rfl ?_
                        refine hk_getr rfl (hH.1 28 (9, 8) rfl) rfl hT.2 ?_
                        refine qm_Ru.go 0 (c' := (161, [.ref 28, .int y, .int r, .int s, .int 3, .int v186, .int 3, .int 1, .int v292, .float 0], [.ref 29, .int v292], h)) rfl ?_
                        obtain ⟨v293, q_v293⟩ : ∃ v, h.2.1 29 4 = v := ⟨_, rfl⟩
                        refine hk_geti (v := v293) rfl (hH.1 29 (11, 16) rfl) rfl q_v293 ?_
                        refine qm_Ru.go 0 (c' := (164, [.ref 28, .int y, .int r, .int s, .int 3, .int v186, .int 3, .int 1, .int v292, .float 0], [.int v293, .int v292], h)) rfl ?_
                        refine hk_cle (ix := v292.toInt) (iy := v293.toInt) rfl rfl rfl (fun z294 => ?_) (fun z294 => ?_)
                        · refine qm_Ru.go 5 (c' := (176, [.ref 28, .int y, .int r, .int s, .int 3, .int v186, .int 3, .int 1, .int v292, .float 0], [.int (-v292), .int r, .int y, .ref 28], h)) rfl ?_
                          obtain ⟨v295, q_v295, e_v295⟩ := hk_neg (x := v292) (a := v292.toInt) rfl (by omega)
                          rw [q_v295]
                          refine hk_inv (o := 28) (r := []) (as := [.ref 28, .int y, .int r, .int v295]) rfl rfl (hH.1 28 (9, 8) rfl) rfl rfl rfl rfl (hs_borne29 h6 hH hT hB (v_C_ru hV) ⟨by show (0 : Int) ≤ y.toInt; omega, by show y.toInt ≤ (4 : Int); omega⟩ ⟨by show (0 : Int) ≤ r.toInt; omega, by show r.toInt ≤ (3 : Int); omega⟩ (qa_in_full _) (by omega) (fun v296 I297 J298 c_v296 _ e_I297 => ?_))
                          have e_I297 : I297 = h.2.1 := funext fun o => funext fun i => e_I297 o rfl i
                          subst e_I297
                          have b_v296 : (0 : Int) ≤ v296.toInt ∧ v296.toInt ≤ 1 := c_v296
                          refine qm_Ru.go 0 (c' := (179, [.ref 28, .int y, .int r, .int s, .int 3, .int v186, .int 3, .int 1, .int v292, .float 0], [.int v296], (h.1, h.2.1, J298, h.2.2.2))) rfl ?_
                          refine hk_zne (ix := v296.toInt) rfl rfl (fun z299 => ?_) (fun z299 => ?_)
                          · refine qm_Ru.go 0 (c' := (197, [.ref 28, .int y, .int r, .int s, .int 3, .int v186, .int 3, .int 1, .int v292, .float 0], [], (h.1, h.2.1, J298, h.2.2.2))) rfl ?_
                            exact hq_land33 (h := (h.1, h.2.1, J298, h.2.2.2)) hH hB hV (by omega) (by omega) (by omega) (fun _ => by rw [q_v288]; omega) (p_at q_v186 (by omega) (by omega)) (fun v I hB2 hV2 hm2 ev => k (some (.int v)) I _ ⟨_, rfl, ⟨by show (-3 : Int) ≤ v.toInt; omega, by show v.toInt ≤ (2 : Int); omega⟩⟩ hB2 hV2 hm2)
                          · refine qm_Ru.go 5 (c' := (188, [.ref 28, .int y, .int r, .int s, .int 3, .int v186, .int 3, .int 1, .int v292, .float 0], [.int (-v292), .int r, .int y, .ref 28], (h.1, h.2.1, J298, h.2.2.2))) rfl ?_
                            rw [q_v295]
                            refine hk_inv (o := 28) (r := []) (as := [.ref 28, .int y, .int r, .int v295]) rfl rfl (hH.1 28 (9, 8) rfl) rfl rfl rfl rfl (hs_nowor29 h6 hH hT hB (v_C_ru hV) ⟨by show (0 : Int) ≤ y.toInt; omega, by show y.toInt ≤ (4 : Int); omega⟩ ⟨by show (0 : Int) ≤ r.toInt; omega, by show r.toInt ≤ (3 : Int); omega⟩ (qa_in_full _) (by omega) (fun v301 I302 J303 c_v301 _ e_I302 => ?_))
                            have e_I302 : I302 = h.2.1 := funext fun o => funext fun i => e_I302 o rfl i
                            subst e_I302
                            have b_v301 : (0 : Int) ≤ v301.toInt ∧ v301.toInt ≤ 1 := c_v301
                            refine qm_Ru.go 0 (c' := (191, [.ref 28, .int y, .int r, .int s, .int 3, .int v186, .int 3, .int 1, .int v292, .float 0], [.int v301], (h.1, h.2.1, J303, h.2.2.2))) rfl ?_
                            refine hk_zne (ix := v301.toInt) rfl rfl (fun z304 => ?_) (fun z304 => ?_)
                            · refine qm_Ru.go 0 (c' := (197, [.ref 28, .int y, .int r, .int s, .int 3, .int v186, .int 3, .int 1, .int v292, .float 0], [], (h.1, h.2.1, J303, h.2.2.2))) rfl ?_
                              exact hq_land33 (h := (h.1, h.2.1, J303, h.2.2.2)) hH hB hV (by omega) (by omega) (by omega) (fun _ => by rw [q_v288]; omega) (p_at q_v186 (by omega) (by omega)) (fun v I hB2 hV2 hm2 ev => k (some (.int v)) I _ ⟨_, rfl, ⟨by show (-3 : Int) ≤ v.toInt; omega, by show v.toInt ≤ (2 : Int); omega⟩⟩ hB2 hV2 hm2)
                            · refine qm_Ru.go 1 (c' := (196, [.ref 28, .int y, .int r, .int s, .int 3, .int v186, .int 3, .int 1, .int v292, .float 0], [.int (-3)], (h.1, h.2.1, J303, h.2.2.2))) rfl ?_
                              refine qm_Ru.rt (v := (some (.int (-3)))) (h' := (h.1, h.2.1, J303, h.2.2.2)) rfl ?_
                              exact k (some (.int (-3))) (h.2.1) (J303) ⟨_, rfl, ⟨by decide, by decide⟩⟩ hB hV (fun _ _ _ => rfl)
                        · refine qm_Ru.go 1 (c' := (169, [.ref 28, .int y, .int r, .int s, .int 3, .int v186, .int 3, .int 1, .int v292, .float 0], [.int (-2)], h)) rfl ?_
                          refine qm_Ru.rt (v := (some (.int (-2)))) (h' := h) rfl ?_
                          exact k (some (.int (-2))) (h.2.1) (h.2.2.1) ⟨_, rfl, ⟨by decide, by decide⟩⟩ hB hV (fun _ _ _ => rfl)
                      · refine qm_Ru.go 1 (c' := (110, [.ref 28, .int y, .int r, .int s, .int 3, .int v186, .int 3, .int 1, .float 0, .float 0], [.int (-1)], h)) rfl ?_
                        refine qm_Ru.rt (v := (some (.int (-1)))) (h' := h) rfl ?_
                        exact k (some (.int (-1))) (h.2.1) (h.2.2.1) ⟨_, rfl, ⟨by decide, by decide⟩⟩ hB hV (fun _ _ _ => rfl)
                  · refine qm_Ru.go 3 (c' := (65, [.ref 28, .int y, .int r, .int s, .int 3, .int v186, .float 0, .float 0, .float 0, .float 0], [.int y, .ref 28, .int 3], h)) rfl ?_
                    refine hk_inv (o := 28) (r := [.int 3]) (as := [.ref 28, .int y]) rfl rfl (hH.1 28 (9, 8) rfl) rfl rfl rfl rfl ?_
                    refine qm_Ru.go 2 (c' := (2, [.ref 28, .int y], [.int y, .ref 28], h)) rfl ?_
                    refine hk_inv (o := 28) (r := []) (as := [.ref 28, .int y]) rfl rfl (hH.1 28 (9, 8) rfl) rfl rfl rfl rfl ?_
                    refine qm_Ru.go 1 (c' := (1, [.ref 28, .int y], [.ref 28], h)) rfl ?_
                    refine hk_geti (v := v8) rfl (hH.1 28 (9, 8) rfl) rfl q_v8 ?_
                    refine qm_Ru.go 2 (c' := (6, [.ref 28, .int y], [.int (v8 >>> (y &&& 31))], h)) rfl ?_
                    rw [q_v9]
                    refine qm_Ru.go 2 (c' := (8, [.ref 28, .int y], [.int (v9 &&& 1)], h)) rfl ?_
                    rw [q_v10]
                    refine qm_Ru.go 1 (c' := (9, [.ref 28, .int y], [.int 1, .int v10], h)) rfl ?_
                    refine hk_cne (ix := v10.toInt) (iy := 1) rfl rfl rfl (fun z307 => by exfalso; omega) (fun z307 => ?_)
                    refine qm_Ru.go 2 (c' := (17, [.ref 28, .int y], [.int 1], h)) rfl ?_
                    refine qm_Ru.rt (v := (some (.int 1))) (h' := h) rfl ?_
                    refine qm_Ru.go 3 (c' := (13, [.ref 28, .int y], [.int 2], h)) rfl ?_
                    refine qm_Ru.rt (v := (some (.int 2))) (h' := h) rfl ?_
                    refine qm_Ru.go 14 (c' := (93, [.ref 28, .int y, .int r, .int s, .int 3, .int v186, .int 2, .int 2, .float 0, .float 0], [.int (-1), .int s], h)) rfl ?_
                    refine hk_ceq (ix := s.toInt) (iy := (-1)) rfl rfl rfl (fun z308 => ?_) (fun z308 => ?_)
                    · refine qm_Ru.go 0 (c' := (111, [.ref 28, .int y, .int r, .int s, .int 3, .int v186, .int 2, .int 2, .float 0, .float 0], [], h)) rfl ?_
                      refine qm_Ru.go 1 (c' := (112, [.ref 28, .int y, .int r, .int s, .int 3, .int v186, .int 2, .int 2, .float 0, .float 0], [.ref 28], h)) rfl ?_
                      refine hk_getr rfl (hH.1 28 (9, 8) rfl) rfl (hH.2 28 0 (some 6) rfl) ?_
                      refine qm_Ru.go 0 (c' := (115, [.ref 28, .int y, .int r, .int s, .int 3, .int v186, .int 2, .int 2, .float 0, .float 0], [.ref 6], h)) rfl ?_
                      refine hk_getr rfl (hH.1 6 (6, 9) rfl) rfl (hH.2 6 1 (some 7) rfl) ?_
                      refine qm_Ru.go 1 (c' := (120, [.ref 28, .int y, .int r, .int s, .int 3, .int v186, .int 2, .int 2, .float 0, .float 0], [.int v186, .ref 7], h)) rfl ?_
                      obtain ⟨v309, q_v309⟩ : ∃ v, h.2.1 7 (v186.toInt.toNat) = v := ⟨_, rfl⟩
                      have b_v309 : (0 : Int) ≤ v309.toInt ∧ v309.toInt ≤ 40 := by rw [← q_v309]; exact hB 7 (v186.toInt.toNat)
                      refine hk_ial (v := v309) rfl (hH.1 7 (0, 30) rfl) (by omega) (by omega) q_v309 ?_
                      refine qm_Ru.go 4 (c' := (129, [.ref 28, .int y, .int r, .int s, .int 3, .int v186, .int 2, .int 2, .float 0, .float 0], [.ref 28, .int v309], h)) rfl ?_
                      refine hk_getr rfl (hH.1 28 (9, 8) rfl) rfl (hH.2 28 0 (some 6) rfl) ?_
                      refine qm_Ru.go 0 (c' := (132, [.ref 28, .int y, .int r, .int s, .int 3, .int v186, .int 2, .int 2, .float 0, .float 0], [.ref 6, .int v309], h)) rfl ?_
                      refine hk_getr rfl (hH.1 6 (6, 9) rfl) rfl (hH.2 6 1 (some 7) rfl) ?_
                      refine qm_Ru.go 1 (c' := (136, [.ref 28, .int y, .int r, .int s, .int 3, .int v186, .int 2, .int 2, .float 0, .float 0], [.ref 28, .ref 7, .int v309], h)) rfl ?_
                      refine hk_getr rfl (hH.1 28 (9, 8) rfl) rfl (hH.2 28 3 (some 36) rfl) ?_
                      refine qm_Ru.go 3 (c' := (143, [.ref 28, .int y, .int r, .int s, .int 3, .int v186, .int 2, .int 2, .float 0, .float 0], [.int 2, .int r, .int y, .ref 36, .ref 7, .int v309], h)) rfl ?_
                      refine qm_Ru.call (j := 75) (as := [.int y, .int r, .int 2]) (c' := (146, [.ref 28, .int y, .int r, .int s, .int 3, .int v186, .int 2, .int 2, .float 0, .float 0], [.ref 36, .ref 7, .int v309], h)) rfl rfl rfl ?_
                      refine qm_Ru.go 3 (c' := (3, [.int y, .int r, .int 2], [.int (y * 4)], h)) rfl ?_
                      rw [q_v182]
                      refine qm_Ru.go 2 (c' := (5, [.int y, .int r, .int 2], [.int (v182 + r)], h)) rfl ?_
                      rw [q_v183]
                      refine qm_Ru.go 2 (c' := (7, [.int y, .int r, .int 2], [.int (v183 * 4)], h)) rfl ?_
                      rw [q_v184]
                      refine qm_Ru.go 2 (c' := (9, [.int y, .int r, .int 2], [.int (v184 + 2)], h)) rfl ?_
                      obtain ⟨v313, q_v313, e_v313⟩ := hk_add (x := v184) (y := 2) (a := v184.toInt) (b := 2) rfl rfl (by omega) (by omega)
                      rw [q_v313]
                      refine qm_Ru.rt (v := (some (.int v313))) (h' := h) rfl ?_
                      refine qm_Ru.go 0 (c' := (146, [.ref 28, .int y, .int r, .int s, .int 3, .int v186, .int 2, .int 2, .float 0, .float 0], [.int v313, .ref 36, .ref 7, .int v309], h)) rfl ?_
                      obtain ⟨v314, q_v314⟩ : ∃ v, h.2.1 36 (v313.toInt.toNat) = v := ⟨_, rfl⟩
                      have b_v314 : (-1 : Int) ≤ v314.toInt ∧ v314.toInt ≤ 29 := by rw [← q_v314]; exact hB 36 (v313.toInt.toNat)
                      refine hk_ial (v := v314) rfl (hH.1 36 (0, 80) rfl) (by omega) (by omega) q_v314 ?_
                      refine qm_Ru.go 0 (c' := (147, [.ref 28, .int y, .int r, .int s, .int 3, .int v186, .int 2, .int 2, .float 0, .float 0], [.int v314, .ref 7, .int v309], h)) rfl ?_
                      have p_v314 : 0 ≤ v314.toInt := by have := b_low (I := h.2.1) (y := y.toInt) (r := r.toInt) (t := 2) hV.1.2 (by omega) (by omega) (by decide) (p_at q_v186 (by omega) (by omega)); rw [show (16 * y.toInt + 4 * r.toInt + 2).toNat = v313.toInt.toNat from by omega] at this; have e : pI h.2.1 36 (v313.toInt.toNat) = v314.toInt := congrArg Int32.toInt q_v314; omega
                      obtain ⟨v315, q_v315⟩ : ∃ v, h.2.1 7 (v314.toInt.toNat) = v := ⟨_, rfl⟩
                      have b_v315 : (0 : Int) ≤ v315.toInt ∧ v315.toInt ≤ 40 := by rw [← q_v315]; exact hB 7 (v314.toInt.toNat)
                      refine hk_ial (v := v315) rfl (hH.1 7 (0, 30) rfl) (by omega) (by omega) q_v315 ?_
                      refine qm_Ru.go 2 (c' := (153, [.ref 28, .int y, .int r, .int s, .int 3, .int v186, .int 2, .int 2, .float 0, .float 0], [.int (v309 + v315)], h)) rfl ?_
                      obtain ⟨v316, q_v316, e_v316⟩ := hk_add (x := v309) (y := v315) (a := v309.toInt) (b := v315.toInt) rfl rfl (by omega) (by omega)
                      rw [q_v316]
                      refine qm_Ru.go 3 (c' := (158, [.ref 28, .int y, .int r, .int s, .int 3, .int v186, .int 2, .int 2, .int v316, .float 0], [.ref 28, .int v316], h)) rfl ?_
                      refine hk_getr rfl (hH.1 28 (9, 8) rfl) rfl hT.2 ?_
                      refine qm_Ru.go 0 (c' := (161, [.ref 28, .int y, .int r, .int s, .int 3, .int v186, .int 2, .int 2, .int v316, .float 0], [.ref 29, .int v316], h)) rfl ?_
                      obtain ⟨v317, q_v317⟩ : ∃ v, h.2.1 29 4 = v := ⟨_, rfl⟩
                      refine hk_geti (v := v317) rfl (hH.1 29 (11, 16) rfl) rfl q_v317 ?_
                      refine qm_Ru.go 0 (c' := (164, [.ref 28, .int y, .int r, .int s, .int 3, .int v186, .int 2, .int 2, .int v316, .float 0], [.int v317, .int v316], h)) rfl ?_
                      refine hk_cle (ix := v316.toInt) (iy := v317.toInt) rfl rfl rfl (fun z318 => ?_) (fun z318 => ?_)
                      · refine qm_Ru.go 5 (c' := (176, [.ref 28, .int y, .int r, .int s, .int 3, .int v186, .int 2, .int 2, .int v316, .float 0], [.int (-v316), .int r, .int y, .ref 28], h)) rfl ?_
                        obtain ⟨v319, q_v319, e_v319⟩ := hk_neg (x := v316) (a := v316.toInt) rfl (by omega)
                        rw [q_v319]
                        refine hk_inv (o := 28) (r := []) (as := [.ref 28, .int y, .int r, .int v319]) rfl rfl (hH.1 28 (9, 8) rfl) rfl rfl rfl rfl (hs_borne29 h6 hH hT hB (v_C_ru hV) ⟨by show (0 : Int) ≤ y.toInt; omega, by show y.toInt ≤ (4 : Int); omega⟩ ⟨by show (0 : Int) ≤ r.toInt; omega, by show r.toInt ≤ (3 : Int); omega⟩ (qa_in_full _) (by omega) (fun v320 I321 J322 c_v320 _ e_I321 => ?_))
                        have e_I321 : I321 = h.2.1 := funext fun o => funext fun i => e_I321 o rfl i
                        subst e_I321
                        have b_v320 : (0 : Int) ≤ v320.toInt ∧ v320.toInt ≤ 1 := c_v320
                        refine qm_Ru.go 0 (c' := (179, [.ref 28, .int y, .int r, .int s, .int 3, .int v186, .int 2, .int 2, .int v316, .float 0], [.int v320], (h.1, h.2.1, J322, h.2.2.2))) rfl ?_
                        refine hk_zne (ix := v320.toInt) rfl rfl (fun z323 => ?_) (fun z323 => ?_)
                        · refine qm_Ru.go 0 (c' := (197, [.ref 28, .int y, .int r, .int s, .int 3, .int v186, .int 2, .int 2, .int v316, .float 0], [], (h.1, h.2.1, J322, h.2.2.2))) rfl ?_
                          exact hq_land23 (h := (h.1, h.2.1, J322, h.2.2.2)) hH hB hV (by omega) (by omega) (by omega) (fun c => absurd z308 c) (p_at q_v314 (by omega) (by omega)) (p_at q_v186 (by omega) (by omega)) (fun v I hB2 hV2 hm2 ev => k (some (.int v)) I _ ⟨_, rfl, ⟨by show (-3 : Int) ≤ v.toInt; omega, by show v.toInt ≤ (2 : Int); omega⟩⟩ hB2 hV2 hm2)
                        · refine qm_Ru.go 5 (c' := (188, [.ref 28, .int y, .int r, .int s, .int 3, .int v186, .int 2, .int 2, .int v316, .float 0], [.int (-v316), .int r, .int y, .ref 28], (h.1, h.2.1, J322, h.2.2.2))) rfl ?_
                          rw [q_v319]
                          refine hk_inv (o := 28) (r := []) (as := [.ref 28, .int y, .int r, .int v319]) rfl rfl (hH.1 28 (9, 8) rfl) rfl rfl rfl rfl (hs_nowor29 h6 hH hT hB (v_C_ru hV) ⟨by show (0 : Int) ≤ y.toInt; omega, by show y.toInt ≤ (4 : Int); omega⟩ ⟨by show (0 : Int) ≤ r.toInt; omega, by show r.toInt ≤ (3 : Int); omega⟩ (qa_in_full _) (by omega) (fun v325 I326 J327 c_v325 _ e_I326 => ?_))
                          have e_I326 : I326 = h.2.1 := funext fun o => funext fun i => e_I326 o rfl i
                          subst e_I326
                          have b_v325 : (0 : Int) ≤ v325.toInt ∧ v325.toInt ≤ 1 := c_v325
                          refine qm_Ru.go 0 (c' := (191, [.ref 28, .int y, .int r, .int s, .int 3, .int v186, .int 2, .int 2, .int v316, .float 0], [.int v325], (h.1, h.2.1, J327, h.2.2.2))) rfl ?_
                          refine hk_zne (ix := v325.toInt) rfl rfl (fun z328 => ?_) (fun z328 => ?_)
                          · refine qm_Ru.go 0 (c' := (197, [.ref 28, .int y, .int r, .int s, .int 3, .int v186, .int 2, .int 2, .int v316, .float 0], [], (h.1, h.2.1, J327, h.2.2.2))) rfl ?_
                            exact hq_land23 (h := (h.1, h.2.1, J327, h.2.2.2)) hH hB hV (by omega) (by omega) (by omega) (fun c => absurd z308 c) (p_at q_v314 (by omega) (by omega)) (p_at q_v186 (by omega) (by omega)) (fun v I hB2 hV2 hm2 ev => k (some (.int v)) I _ ⟨_, rfl, ⟨by show (-3 : Int) ≤ v.toInt; omega, by show v.toInt ≤ (2 : Int); omega⟩⟩ hB2 hV2 hm2)
                          · refine qm_Ru.go 1 (c' := (196, [.ref 28, .int y, .int r, .int s, .int 3, .int v186, .int 2, .int 2, .int v316, .float 0], [.int (-3)], (h.1, h.2.1, J327, h.2.2.2))) rfl ?_
                            refine qm_Ru.rt (v := (some (.int (-3)))) (h' := (h.1, h.2.1, J327, h.2.2.2)) rfl ?_
                            exact k (some (.int (-3))) (h.2.1) (J327) ⟨_, rfl, ⟨by decide, by decide⟩⟩ hB hV (fun _ _ _ => rfl)
                      · refine qm_Ru.go 1 (c' := (169, [.ref 28, .int y, .int r, .int s, .int 3, .int v186, .int 2, .int 2, .int v316, .float 0], [.int (-2)], h)) rfl ?_
                        refine qm_Ru.rt (v := (some (.int (-2)))) (h' := h) rfl ?_
                        exact k (some (.int (-2))) (h.2.1) (h.2.2.1) ⟨_, rfl, ⟨by decide, by decide⟩⟩ hB hV (fun _ _ _ => rfl)
                    · refine qm_Ru.go 1 (c' := (97, [.ref 28, .int y, .int r, .int s, .int 3, .int v186, .int 2, .int 2, .float 0, .float 0], [.ref 28], h)) rfl ?_
                      refine hk_getr rfl (hH.1 28 (9, 8) rfl) rfl (hH.2 28 1 (some 15) rfl) ?_
                      refine qm_Ru.go 1 (c' := (101, [.ref 28, .int y, .int r, .int s, .int 3, .int v186, .int 2, .int 2, .float 0, .float 0], [.int s, .ref 15], h)) rfl ?_
                      refine hk_inv (o := 15) (r := []) (as := [.ref 15, .int s]) rfl rfl (hH.1 15 (15, 8) rfl) rfl rfl rfl rfl ?_
                      refine qm_Ru.go 2 (c' := (2, [.ref 15, .int s], [.ref 15, .int 4], h)) rfl ?_
                      refine hk_getr rfl (hH.1 15 (15, 8) rfl) rfl (hH.2 15 2 (some 17) rfl) ?_
                      refine qm_Ru.go 1 (c' := (6, [.ref 15, .int s], [.int s, .ref 17, .int 4], h)) rfl ?_
                      obtain ⟨v329, q_v329⟩ : ∃ v, h.2.1 17 (s.toInt.toNat) = v := ⟨_, rfl⟩
                      have b_v329 : (0 : Int) ≤ v329.toInt ∧ v329.toInt ≤ 4 := by rw [← q_v329]; exact hB 17 (s.toInt.toNat)
                      refine hk_ial (v := v329) rfl (hH.1 17 (0, 4) rfl) (by omega) (by omega) q_v329 ?_
                      refine qm_Ru.go 1 (c' := (8, [.ref 15, .int s], [.int (4 - v329)], h)) rfl ?_
                      obtain ⟨v330, q_v330, e_v330⟩ := hk_sub (x := 4) (y := v329) (a := 4) (b := v329.toInt) rfl rfl (by omega) (by omega)
                      rw [q_v330]
                      refine qm_Ru.rt (v := (some (.int v330))) (h' := h) rfl ?_
                      refine qm_Ru.go 1 (c' := (106, [.ref 28, .int y, .int r, .int s, .int 3, .int v186, .int 2, .int 2, .float 0, .float 0], [.int 2, .int v330], h)) rfl ?_
                      refine hk_cge (ix := v330.toInt) (iy := 2) rfl rfl rfl (fun z331 => ?_) (fun z331 => ?_)
                      · refine qm_Ru.go 0 (c' := (111, [.ref 28, .int y, .int r, .int s, .int 3, .int v186, .int 2, .int 2, .float 0, .float 0], [], h)) rfl ?_
                        refine qm_Ru.go 1 (c' := (112, [.ref 28, .int y, .int r, .int s, .int 3, .int v186, .int 2, .int 2, .float 0, .float 0], [.ref 28], h)) rfl ?_
                        refine hk_getr rfl (hH.1 28 (9, 8) rfl) rfl (hH.2 28 0 (some 6) rfl) ?_
                        refine qm_Ru.go 0 (c' := (115, [.ref 28, .int y, .int r, .int s, .int 3, .int v186, .int 2, .int 2, .float 0, .float 0], [.ref 6], h)) rfl ?_
                        refine hk_getr rfl (hH.1 6 (6, 9) rfl) rfl (hH.2 6 1 (some 7) rfl) ?_
                        refine qm_Ru.go 1 (c' := (120, [.ref 28, .int y, .int r, .int s, .int 3, .int v186, .int 2, .int 2, .float 0, .float 0], [.int v186, .ref 7], h)) rfl ?_
                        obtain ⟨v332, q_v332⟩ : ∃ v, h.2.1 7 (v186.toInt.toNat) = v := ⟨_, rfl⟩
                        have b_v332 : (0 : Int) ≤ v332.toInt ∧ v332.toInt ≤ 40 := by rw [← q_v332]; exact hB 7 (v186.toInt.toNat)
                        refine hk_ial (v := v332) rfl (hH.1 7 (0, 30) rfl) (by omega) (by omega) q_v332 ?_
                        refine qm_Ru.go 4 (c' := (129, [.ref 28, .int y, .int r, .int s, .int 3, .int v186, .int 2, .int 2, .float 0, .float 0], [.ref 28, .int v332], h)) rfl ?_
                        refine hk_getr rfl (hH.1 28 (9, 8) rfl) rfl (hH.2 28 0 (some 6) rfl) ?_
                        refine qm_Ru.go 0 (c' := (132, [.ref 28, .int y, .int r, .int s, .int 3, .int v186, .int 2, .int 2, .float 0, .float 0], [.ref 6, .int v332], h)) rfl ?_
                        refine hk_getr rfl (hH.1 6 (6, 9) rfl) rfl (hH.2 6 1 (some 7) rfl) ?_
                        refine qm_Ru.go 1 (c' := (136, [.ref 28, .int y, .int r, .int s, .int 3, .int v186, .int 2, .int 2, .float 0, .float 0], [.ref 28, .ref 7, .int v332], h)) rfl ?_
                        refine hk_getr rfl (hH.1 28 (9, 8) rfl) rfl (hH.2 28 3 (some 36) rfl) ?_
                        refine qm_Ru.go 3 (c' := (143, [.ref 28, .int y, .int r, .int s, .int 3, .int v186, .int 2, .int 2, .float 0, .float 0], [.int 2, .int r, .int y, .ref 36, .ref 7, .int v332], h)) rfl ?_
                        refine qm_Ru.call (j := 75) (as := [.int y, .int r, .int 2]) (c' := (146, [.ref 28, .int y, .int r, .int s, .int 3, .int v186, .int 2, .int 2, .float 0, .float 0], [.ref 36, .ref 7, .int v332], h)) rfl rfl rfl ?_
                        refine qm_Ru.go 3 (c' := (3, [.int y, .int r, .int 2], [.int (y * 4)], h)) rfl ?_
                        rw [q_v182]
                        refine qm_Ru.go 2 (c' := (5, [.int y, .int r, .int 2], [.int (v182 + r)], h)) rfl ?_
                        rw [q_v183]
                        refine qm_Ru.go 2 (c' := (7, [.int y, .int r, .int 2], [.int (v183 * 4)], h)) rfl ?_
                        rw [q_v184]
                        refine qm_Ru.go 2 (c' := (9, [.int y, .int r, .int 2], [.int (v184 + 2)], h)) rfl ?_
                        obtain ⟨v336, q_v336, e_v336⟩ := hk_add (x := v184) (y := 2) (a := v184.toInt) (b := 2) rfl rfl (by omega) (by omega)
                        rw [q_v336]
                        refine qm_Ru.rt (v := (some (.int v336))) (h' := h) rfl ?_
                        refine qm_Ru.go 0 (c' := (146, [.ref 28, .int y, .int r, .int s, .int 3, .int v186, .int 2, .int 2, .float 0, .float 0], [.int v336, .ref 36, .ref 7, .int v332], h)) rfl ?_
                        obtain ⟨v337, q_v337⟩ : ∃ v, h.2.1 36 (v336.toInt.toNat) = v := ⟨_, rfl⟩
                        have b_v337 : (-1 : Int) ≤ v337.toInt ∧ v337.toInt ≤ 29 := by rw [← q_v337]; exact hB 36 (v336.toInt.toNat)
                        refine hk_ial (v := v337) rfl (hH.1 36 (0, 80) rfl) (by omega) (by omega) q_v337 ?_
                        refine qm_Ru.go 0 (c' := (147, [.ref 28, .int y, .int r, .int s, .int 3, .int v186, .int 2, .int 2, .float 0, .float 0], [.int v337, .ref 7, .int v332], h)) rfl ?_
                        have p_v337 : 0 ≤ v337.toInt := by have := b_low (I := h.2.1) (y := y.toInt) (r := r.toInt) (t := 2) hV.1.2 (by omega) (by omega) (by decide) (p_at q_v186 (by omega) (by omega)); rw [show (16 * y.toInt + 4 * r.toInt + 2).toNat = v336.toInt.toNat from by omega] at this; have e : pI h.2.1 36 (v336.toInt.toNat) = v337.toInt := congrArg Int32.toInt q_v337; omega
                        obtain ⟨v338, q_v338⟩ : ∃ v, h.2.1 7 (v337.toInt.toNat) = v := ⟨_, rfl⟩
                        have b_v338 : (0 : Int) ≤ v338.toInt ∧ v338.toInt ≤ 40 := by rw [← q_v338]; exact hB 7 (v337.toInt.toNat)
                        refine hk_ial (v := v338) rfl (hH.1 7 (0, 30) rfl) (by omega) (by omega) q_v338 ?_
                        refine qm_Ru.go 2 (c' := (153, [.ref 28, .int y, .int r, .int s, .int 3, .int v186, .int 2, .int 2, .float 0, .float 0], [.int (v332 + v338)], h)) rfl ?_
                        obtain ⟨v339, q_v339, e_v339⟩ := hk_add (x := v332) (y := v338) (a := v332.toInt) (b := v338.toInt) rfl rfl (by omega) (by omega)
                        rw [q_v339]
                        refine qm_Ru.go 3 (c' := (158, [.ref 28, .int y, .int r, .int s, .int 3, .int v186, .int 2, .int 2, .int v339, .float 0], [.ref 28, .int v339], h)) rfl ?_
                        refine hk_getr rfl (hH.1 28 (9, 8) rfl) rfl hT.2 ?_
                        refine qm_Ru.go 0 (c' := (161, [.ref 28, .int y, .int r, .int s, .int 3, .int v186, .int 2, .int 2, .int v339, .float 0], [.ref 29, .int v339], h)) rfl ?_
                        obtain ⟨v340, q_v340⟩ : ∃ v, h.2.1 29 4 = v := ⟨_, rfl⟩
                        refine hk_geti (v := v340) rfl (hH.1 29 (11, 16) rfl) rfl q_v340 ?_
                        refine qm_Ru.go 0 (c' := (164, [.ref 28, .int y, .int r, .int s, .int 3, .int v186, .int 2, .int 2, .int v339, .float 0], [.int v340, .int v339], h)) rfl ?_
                        refine hk_cle (ix := v339.toInt) (iy := v340.toInt) rfl rfl rfl (fun z341 => ?_) (fun z341 => ?_)
                        · refine qm_Ru.go 5 (c' := (176, [.ref 28, .int y, .int r, .int s, .int 3, .int v186, .int 2, .int 2, .int v339, .float 0], [.int (-v339), .int r, .int y, .ref 28], h)) rfl ?_
                          obtain ⟨v342, q_v342, e_v342⟩ := hk_neg (x := v339) (a := v339.toInt) rfl (by omega)
                          rw [q_v342]
                          refine hk_inv (o := 28) (r := []) (as := [.ref 28, .int y, .int r, .int v342]) rfl rfl (hH.1 28 (9, 8) rfl) rfl rfl rfl rfl (hs_borne29 h6 hH hT hB (v_C_ru hV) ⟨by show (0 : Int) ≤ y.toInt; omega, by show y.toInt ≤ (4 : Int); omega⟩ ⟨by show (0 : Int) ≤ r.toInt; omega, by show r.toInt ≤ (3 : Int); omega⟩ (qa_in_full _) (by omega) (fun v343 I344 J345 c_v343 _ e_I344 => ?_))
                          have e_I344 : I344 = h.2.1 := funext fun o => funext fun i => e_I344 o rfl i
                          subst e_I344
                          have b_v343 : (0 : Int) ≤ v343.toInt ∧ v343.toInt ≤ 1 := c_v343
                          refine qm_Ru.go 0 (c' := (179, [.ref 28, .int y, .int r, .int s, .int 3, .int v186, .int 2, .int 2, .int v339, .float 0], [.int v343], (h.1, h.2.1, J345, h.2.2.2))) rfl ?_
                          refine hk_zne (ix := v343.toInt) rfl rfl (fun z346 => ?_) (fun z346 => ?_)
                          · refine qm_Ru.go 0 (c' := (197, [.ref 28, .int y, .int r, .int s, .int 3, .int v186, .int 2, .int 2, .int v339, .float 0], [], (h.1, h.2.1, J345, h.2.2.2))) rfl ?_
                            exact hq_land23 (h := (h.1, h.2.1, J345, h.2.2.2)) hH hB hV (by omega) (by omega) (by omega) (fun _ => by rw [q_v329]; omega) (p_at q_v337 (by omega) (by omega)) (p_at q_v186 (by omega) (by omega)) (fun v I hB2 hV2 hm2 ev => k (some (.int v)) I _ ⟨_, rfl, ⟨by show (-3 : Int) ≤ v.toInt; omega, by show v.toInt ≤ (2 : Int); omega⟩⟩ hB2 hV2 hm2)
                          · refine qm_Ru.go 5 (c' := (188, [.ref 28, .int y, .int r, .int s, .int 3, .int v186, .int 2, .int 2, .int v339, .float 0], [.int (-v339), .int r, .int y, .ref 28], (h.1, h.2.1, J345, h.2.2.2))) rfl ?_
                            rw [q_v342]
                            refine hk_inv (o := 28) (r := []) (as := [.ref 28, .int y, .int r, .int v342]) rfl rfl (hH.1 28 (9, 8) rfl) rfl rfl rfl rfl (hs_nowor29 h6 hH hT hB (v_C_ru hV) ⟨by show (0 : Int) ≤ y.toInt; omega, by show y.toInt ≤ (4 : Int); omega⟩ ⟨by show (0 : Int) ≤ r.toInt; omega, by show r.toInt ≤ (3 : Int); omega⟩ (qa_in_full _) (by omega) (fun v348 I349 J350 c_v348 _ e_I349 => ?_))
                            have e_I349 : I349 = h.2.1 := funext fun o => funext fun i => e_I349 o rfl i
                            subst e_I349
                            have b_v348 : (0 : Int) ≤ v348.toInt ∧ v348.toInt ≤ 1 := c_v348
                            refine qm_Ru.go 0 (c' := (191, [.ref 28, .int y, .int r, .int s, .int 3, .int v186, .int 2, .int 2, .int v339, .float 0], [.int v348], (h.1, h.2.1, J350, h.2.2.2))) rfl ?_
                            refine hk_zne (ix := v348.toInt) rfl rfl (fun z351 => ?_) (fun z351 => ?_)
                            · refine qm_Ru.go 0 (c' := (197, [.ref 28, .int y, .int r, .int s, .int 3, .int v186, .int 2, .int 2, .int v339, .float 0], [], (h.1, h.2.1, J350, h.2.2.2))) rfl ?_
                              exact hq_land23 (h := (h.1, h.2.1, J350, h.2.2.2)) hH hB hV (by omega) (by omega) (by omega) (fun _ => by rw [q_v329]; omega) (p_at q_v337 (by omega) (by omega)) (p_at q_v186 (by omega) (by omega)) (fun v I hB2 hV2 hm2 ev => k (some (.int v)) I _ ⟨_, rfl, ⟨by show (-3 : Int) ≤ v.toInt; omega, by show v.toInt ≤ (2 : Int); omega⟩⟩ hB2 hV2 hm2)
                            · refine qm_Ru.go 1 (c' := (196, [.ref 28, .int y, .int r, .int s, .int 3, .int v186, .int 2, .int 2, .int v339, .float 0], [.int (-3)], (h.1, h.2.1, J350, h.2.2.2))) rfl ?_
                              refine qm_Ru.rt (v := (some (.int (-3)))) (h' := (h.1, h.2.1, J350, h.2.2.2)) rfl ?_
                              exact k (some (.int (-3))) (h.2.1) (J350) ⟨_, rfl, ⟨by decide, by decide⟩⟩ hB hV (fun _ _ _ => rfl)
                        · refine qm_Ru.go 1 (c' := (169, [.ref 28, .int y, .int r, .int s, .int 3, .int v186, .int 2, .int 2, .int v339, .float 0], [.int (-2)], h)) rfl ?_
                          refine qm_Ru.rt (v := (some (.int (-2)))) (h' := h) rfl ?_
                          exact k (some (.int (-2))) (h.2.1) (h.2.2.1) ⟨_, rfl, ⟨by decide, by decide⟩⟩ hB hV (fun _ _ _ => rfl)
                      · refine qm_Ru.go 1 (c' := (110, [.ref 28, .int y, .int r, .int s, .int 3, .int v186, .int 2, .int 2, .float 0, .float 0], [.int (-1)], h)) rfl ?_
                        refine qm_Ru.rt (v := (some (.int (-1)))) (h' := h) rfl ?_
                        exact k (some (.int (-1))) (h.2.1) (h.2.2.1) ⟨_, rfl, ⟨by decide, by decide⟩⟩ hB hV (fun _ _ _ => rfl)
theorem hc_unloading111 : hk_ct v_C (fun h => h.2.2.2 0 9 = some 29 ∧ h.2.2.2 28 2 = some 111) (fun as I => ∃ y r s : Int32, as = [.ref 28, .int y, .int r, .int s]) 102 (some (-3, 2)) [6, 7, 8, 9, 10, 11, 12, 13, 14, 16, 17, 28, 36, 37] 40 := by
  intro L xs d Z h as h6 hH hT hB hV hp hd k
  obtain ⟨y, r, s, rfl⟩ := hp
  obtain ⟨d, rfl⟩ : ∃ e, d = e + 40 := ⟨d - 40, by omega⟩
  show qm_Ru (some (L, xs)) (d + 40) cd_102 (qm_ent 10 [.ref 28, .int y, .int r, .int s] h) Z
  refine qm_Ru.go 3 (c' := (3, [.ref 28, .int y, .int r, .int s, .float 0, .float 0, .float 0, .float 0, .float 0, .float 0], [.int r, .int y, .ref 28], h)) rfl ?_
  refine hk_inv (o := 28) (r := []) (as := [.ref 28, .int y, .int r]) rfl rfl (hH.1 28 (9, 8) rfl) rfl rfl rfl rfl ?_
  refine qm_Ru.go 2 (c' := (2, [.ref 28, .int y, .int r], [.int y, .ref 28], h)) rfl ?_
  refine hk_inv (o := 28) (r := []) (as := [.ref 28, .int y]) rfl rfl (hH.1 28 (9, 8) rfl) rfl rfl rfl rfl ?_
  refine qm_Ru.go 1 (c' := (1, [.ref 28, .int y], [.int y], h)) rfl ?_
  refine hk_zlt (ix := y.toInt) rfl rfl (fun z1 => ?_) (fun z1 => ?_)
  · refine qm_Ru.go 1 (c' := (20, [.ref 28, .int y], [.int 0], h)) rfl ?_
    refine qm_Ru.rt (v := (some (.int 0))) (h' := h) rfl ?_
    refine qm_Ru.go 2 (c' := (22, [.ref 28, .int y, .int r], [.int 0], h)) rfl ?_
    refine qm_Ru.rt (v := (some (.int 0))) (h' := h) rfl ?_
    refine qm_Ru.go 2 (c' := (17, [.ref 28, .int y, .int r, .int s, .float 0, .float 0, .float 0, .float 0, .float 0, .float 0], [.int (-1)], h)) rfl ?_
    refine qm_Ru.rt (v := (some (.int (-1)))) (h' := h) rfl ?_
    exact k (some (.int (-1))) (h.2.1) (h.2.2.1) ⟨_, rfl, ⟨by decide, by decide⟩⟩ hB hV (fun _ _ _ => rfl)
  · refine qm_Ru.go 2 (c' := (6, [.ref 28, .int y], [.ref 28, .int y], h)) rfl ?_
    refine hk_getr rfl (hH.1 28 (9, 8) rfl) rfl hT.2 ?_
    refine qm_Ru.go 0 (c' := (9, [.ref 28, .int y], [.ref 111, .int y], h)) rfl ?_
    obtain ⟨v2, q_v2⟩ : ∃ v, h.2.1 111 0 = v := ⟨_, rfl⟩
    have b_v2 : (2 : Int) ≤ v2.toInt ∧ v2.toInt ≤ 5 := by rw [← q_v2]; exact hB 111 0
    refine hk_geti (v := v2) rfl (hH.1 111 (11, 16) rfl) rfl q_v2 ?_
    refine qm_Ru.go 0 (c' := (12, [.ref 28, .int y], [.int v2, .int y], h)) rfl ?_
    refine hk_cge (ix := y.toInt) (iy := v2.toInt) rfl rfl rfl (fun z3 => ?_) (fun z3 => ?_)
    · refine qm_Ru.go 1 (c' := (20, [.ref 28, .int y], [.int 0], h)) rfl ?_
      refine qm_Ru.rt (v := (some (.int 0))) (h' := h) rfl ?_
      refine qm_Ru.go 2 (c' := (22, [.ref 28, .int y, .int r], [.int 0], h)) rfl ?_
      refine qm_Ru.rt (v := (some (.int 0))) (h' := h) rfl ?_
      refine qm_Ru.go 2 (c' := (17, [.ref 28, .int y, .int r, .int s, .float 0, .float 0, .float 0, .float 0, .float 0, .float 0], [.int (-1)], h)) rfl ?_
      refine qm_Ru.rt (v := (some (.int (-1)))) (h' := h) rfl ?_
      exact k (some (.int (-1))) (h.2.1) (h.2.2.1) ⟨_, rfl, ⟨by decide, by decide⟩⟩ hB hV (fun _ _ _ => rfl)
    · refine qm_Ru.go 2 (c' := (20, [.ref 28, .int y], [.int 1], h)) rfl ?_
      refine qm_Ru.rt (v := (some (.int 1))) (h' := h) rfl ?_
      refine qm_Ru.go 2 (c' := (9, [.ref 28, .int y, .int r], [.int r], h)) rfl ?_
      refine hk_zlt (ix := r.toInt) rfl rfl (fun z4 => ?_) (fun z4 => ?_)
      · refine qm_Ru.go 1 (c' := (22, [.ref 28, .int y, .int r], [.int 0], h)) rfl ?_
        refine qm_Ru.rt (v := (some (.int 0))) (h' := h) rfl ?_
        refine qm_Ru.go 2 (c' := (17, [.ref 28, .int y, .int r, .int s, .float 0, .float 0, .float 0, .float 0, .float 0, .float 0], [.int (-1)], h)) rfl ?_
        refine qm_Ru.rt (v := (some (.int (-1)))) (h' := h) rfl ?_
        exact k (some (.int (-1))) (h.2.1) (h.2.2.1) ⟨_, rfl, ⟨by decide, by decide⟩⟩ hB hV (fun _ _ _ => rfl)
      · refine qm_Ru.go 2 (c' := (14, [.ref 28, .int y, .int r], [.int 4, .int r], h)) rfl ?_
        refine hk_cge (ix := r.toInt) (iy := 4) rfl rfl rfl (fun z5 => ?_) (fun z5 => ?_)
        · refine qm_Ru.go 1 (c' := (22, [.ref 28, .int y, .int r], [.int 0], h)) rfl ?_
          refine qm_Ru.rt (v := (some (.int 0))) (h' := h) rfl ?_
          refine qm_Ru.go 2 (c' := (17, [.ref 28, .int y, .int r, .int s, .float 0, .float 0, .float 0, .float 0, .float 0, .float 0], [.int (-1)], h)) rfl ?_
          refine qm_Ru.rt (v := (some (.int (-1)))) (h' := h) rfl ?_
          exact k (some (.int (-1))) (h.2.1) (h.2.2.1) ⟨_, rfl, ⟨by decide, by decide⟩⟩ hB hV (fun _ _ _ => rfl)
        · refine qm_Ru.go 2 (c' := (22, [.ref 28, .int y, .int r], [.int 1], h)) rfl ?_
          refine qm_Ru.rt (v := (some (.int 1))) (h' := h) rfl ?_
          refine qm_Ru.go 2 (c' := (10, [.ref 28, .int y, .int r, .int s, .float 0, .float 0, .float 0, .float 0, .float 0, .float 0], [.int s], h)) rfl ?_
          refine qm_Ru.call (j := 103) (as := [.int s]) (c' := (13, [.ref 28, .int y, .int r, .int s, .float 0, .float 0, .float 0, .float 0, .float 0, .float 0], [], h)) rfl rfl rfl ?_
          refine qm_Ru.go 2 (c' := (2, [.int s], [.int (-1), .int s], h)) rfl ?_
          refine hk_clt (ix := s.toInt) (iy := (-1)) rfl rfl rfl (fun z6 => ?_) (fun z6 => ?_)
          · refine qm_Ru.go 1 (c' := (15, [.int s], [.int 0], h)) rfl ?_
            refine qm_Ru.rt (v := (some (.int 0))) (h' := h) rfl ?_
            refine qm_Ru.go 2 (c' := (17, [.ref 28, .int y, .int r, .int s, .float 0, .float 0, .float 0, .float 0, .float 0, .float 0], [.int (-1)], h)) rfl ?_
            refine qm_Ru.rt (v := (some (.int (-1)))) (h' := h) rfl ?_
            exact k (some (.int (-1))) (h.2.1) (h.2.2.1) ⟨_, rfl, ⟨by decide, by decide⟩⟩ hB hV (fun _ _ _ => rfl)
          · refine qm_Ru.go 2 (c' := (7, [.int s], [.int 4, .int s], h)) rfl ?_
            refine hk_cge (ix := s.toInt) (iy := 4) rfl rfl rfl (fun z7 => ?_) (fun z7 => ?_)
            · refine qm_Ru.go 1 (c' := (15, [.int s], [.int 0], h)) rfl ?_
              refine qm_Ru.rt (v := (some (.int 0))) (h' := h) rfl ?_
              refine qm_Ru.go 2 (c' := (17, [.ref 28, .int y, .int r, .int s, .float 0, .float 0, .float 0, .float 0, .float 0, .float 0], [.int (-1)], h)) rfl ?_
              refine qm_Ru.rt (v := (some (.int (-1)))) (h' := h) rfl ?_
              exact k (some (.int (-1))) (h.2.1) (h.2.2.1) ⟨_, rfl, ⟨by decide, by decide⟩⟩ hB hV (fun _ _ _ => rfl)
            · refine qm_Ru.go 2 (c' := (15, [.int s], [.int 1], h)) rfl ?_
              refine qm_Ru.rt (v := (some (.int 1))) (h' := h) rfl ?_
              refine qm_Ru.go 4 (c' := (21, [.ref 28, .int y, .int r, .int s, .float 0, .float 0, .float 0, .float 0, .float 0, .float 0], [.int r, .int y, .ref 28], h)) rfl ?_
              refine hk_inv (o := 28) (r := []) (as := [.ref 28, .int y, .int r]) rfl rfl (hH.1 28 (9, 8) rfl) rfl rfl rfl rfl ?_
              refine qm_Ru.go 2 (c' := (2, [.ref 28, .int y, .int r, .float 0], [.int y, .ref 28], h)) rfl ?_
              refine hk_inv (o := 28) (r := []) (as := [.ref 28, .int y]) rfl rfl (hH.1 28 (9, 8) rfl) rfl rfl rfl rfl ?_
              refine qm_Ru.go 2 (c' := (2, [.ref 28, .int y], [.int y, .ref 28], h)) rfl ?_
              refine hk_inv (o := 28) (r := []) (as := [.ref 28, .int y]) rfl rfl (hH.1 28 (9, 8) rfl) rfl rfl rfl rfl ?_
              refine qm_Ru.go 1 (c' := (1, [.ref 28, .int y], [.ref 28], h)) rfl ?_
              obtain ⟨v8, q_v8⟩ : ∃ v, h.2.1 28 4 = v := ⟨_, rfl⟩
              refine hk_geti (v := v8) rfl (hH.1 28 (9, 8) rfl) rfl q_v8 ?_
              refine qm_Ru.go 2 (c' := (6, [.ref 28, .int y], [.int (v8 >>> (y &&& 31))], h)) rfl ?_
              obtain ⟨v9, q_v9⟩ : ∃ v, (v8 >>> (y &&& 31)) = v := ⟨_, rfl⟩
              rw [q_v9]
              refine qm_Ru.go 2 (c' := (8, [.ref 28, .int y], [.int (v9 &&& 1)], h)) rfl ?_
              obtain ⟨v10, q_v10⟩ : ∃ v, (v9 &&& 1) = v := ⟨_, rfl⟩
              rw [q_v10]
              refine qm_Ru.go 1 (c' := (9, [.ref 28, .int y], [.int 1, .int v10], h)) rfl ?_
              refine hk_cne (ix := v10.toInt) (iy := 1) rfl rfl rfl (fun z11 => ?_) (fun z11 => ?_)
              · refine qm_Ru.go 1 (c' := (17, [.ref 28, .int y], [.int 0], h)) rfl ?_
                refine qm_Ru.rt (v := (some (.int 0))) (h' := h) rfl ?_
                refine qm_Ru.go 2 (c' := (13, [.ref 28, .int y], [.int 0], h)) rfl ?_
                refine qm_Ru.rt (v := (some (.int 0))) (h' := h) rfl ?_
                refine qm_Ru.go 2 (c' := (7, [.ref 28, .int y, .int r, .int 0], [.ref 28], h)) rfl ?_
                refine hk_getr rfl (hH.1 28 (9, 8) rfl) rfl (hH.2 28 3 (some 36) rfl) ?_
                refine qm_Ru.go 5 (c' := (15, [.ref 28, .int y, .int r, .int 0], [.int 1, .int r, .int y, .ref 36], h)) rfl ?_
                refine qm_Ru.call (j := 75) (as := [.int y, .int r, .int 1]) (c' := (18, [.ref 28, .int y, .int r, .int 0], [.ref 36], h)) rfl rfl rfl ?_
                refine qm_Ru.go 3 (c' := (3, [.int y, .int r, .int 1], [.int (y * 4)], h)) rfl ?_
                obtain ⟨v12, q_v12, e_v12⟩ := hk_mul (x := y) (y := 4) (a := y.toInt) (b := 4) rfl rfl (by omega) (by omega)
                rw [q_v12]
                refine qm_Ru.go 2 (c' := (5, [.int y, .int r, .int 1], [.int (v12 + r)], h)) rfl ?_
                obtain ⟨v13, q_v13, e_v13⟩ := hk_add (x := v12) (y := r) (a := v12.toInt) (b := r.toInt) rfl rfl (by omega) (by omega)
                rw [q_v13]
                refine qm_Ru.go 2 (c' := (7, [.int y, .int r, .int 1], [.int (v13 * 4)], h)) rfl ?_
                obtain ⟨v14, q_v14, e_v14⟩ := hk_mul (x := v13) (y := 4) (a := v13.toInt) (b := 4) rfl rfl (by omega) (by omega)
                rw [q_v14]
                refine qm_Ru.go 2 (c' := (9, [.int y, .int r, .int 1], [.int (v14 + 1)], h)) rfl ?_
                obtain ⟨v15, q_v15, e_v15⟩ := hk_add (x := v14) (y := 1) (a := v14.toInt) (b := 1) rfl rfl (by omega) (by omega)
                rw [q_v15]
                refine qm_Ru.rt (v := (some (.int v15))) (h' := h) rfl ?_
                refine qm_Ru.go 0 (c' := (18, [.ref 28, .int y, .int r, .int 0], [.int v15, .ref 36], h)) rfl ?_
                obtain ⟨v16, q_v16⟩ : ∃ v, h.2.1 36 (v15.toInt.toNat) = v := ⟨_, rfl⟩
                have b_v16 : (-1 : Int) ≤ v16.toInt ∧ v16.toInt ≤ 29 := by rw [← q_v16]; exact hB 36 (v15.toInt.toNat)
                refine hk_ial (v := v16) rfl (hH.1 36 (0, 80) rfl) (by omega) (by omega) q_v16 ?_
                refine qm_Ru.go 0 (c' := (19, [.ref 28, .int y, .int r, .int 0], [.int v16], h)) rfl ?_
                refine qm_Ru.go 1 (c' := (20, [.ref 28, .int y, .int r, .int 0], [.int (-1), .int v16], h)) rfl ?_
                refine hk_ceq (ix := v16.toInt) (iy := (-1)) rfl rfl rfl (fun z17 => ?_) (fun z17 => ?_)
                · refine qm_Ru.go 1 (c' := (28, [.ref 28, .int y, .int r, .int 0], [.ref 28], h)) rfl ?_
                  refine hk_getr rfl (hH.1 28 (9, 8) rfl) rfl (hH.2 28 3 (some 36) rfl) ?_
                  refine qm_Ru.go 3 (c' := (34, [.ref 28, .int y, .int r, .int 0], [.int 0, .int r, .int y, .ref 36], h)) rfl ?_
                  refine qm_Ru.call (j := 75) (as := [.int y, .int r, .int 0]) (c' := (37, [.ref 28, .int y, .int r, .int 0], [.ref 36], h)) rfl rfl rfl ?_
                  refine qm_Ru.go 3 (c' := (3, [.int y, .int r, .int 0], [.int (y * 4)], h)) rfl ?_
                  rw [q_v12]
                  refine qm_Ru.go 2 (c' := (5, [.int y, .int r, .int 0], [.int (v12 + r)], h)) rfl ?_
                  rw [q_v13]
                  refine qm_Ru.go 2 (c' := (7, [.int y, .int r, .int 0], [.int (v13 * 4)], h)) rfl ?_
                  rw [q_v14]
                  refine qm_Ru.go 2 (c' := (9, [.int y, .int r, .int 0], [.int (v14 + 0)], h)) rfl ?_
                  obtain ⟨v21, q_v21, e_v21⟩ := hk_add (x := v14) (y := 0) (a := v14.toInt) (b := 0) rfl rfl (by omega) (by omega)
                  rw [q_v21]
                  refine qm_Ru.rt (v := (some (.int v21))) (h' := h) rfl ?_
                  refine qm_Ru.go 0 (c' := (37, [.ref 28, .int y, .int r, .int 0], [.int v21, .ref 36], h)) rfl ?_
                  obtain ⟨v22, q_v22⟩ : ∃ v, h.2.1 36 (v21.toInt.toNat) = v := ⟨_, rfl⟩
                  have b_v22 : (-1 : Int) ≤ v22.toInt ∧ v22.toInt ≤ 29 := by rw [← q_v22]; exact hB 36 (v21.toInt.toNat)
                  refine hk_ial (v := v22) rfl (hH.1 36 (0, 80) rfl) (by omega) (by omega) q_v22 ?_
                  refine qm_Ru.go 0 (c' := (38, [.ref 28, .int y, .int r, .int 0], [.int v22], h)) rfl ?_
                  refine qm_Ru.go 1 (c' := (39, [.ref 28, .int y, .int r, .int 0], [.int (-1), .int v22], h)) rfl ?_
                  refine hk_ceq (ix := v22.toInt) (iy := (-1)) rfl rfl rfl (fun z23 => ?_) (fun z23 => ?_)
                  · refine qm_Ru.go 1 (c' := (47, [.ref 28, .int y, .int r, .int 0], [.int (-1)], h)) rfl ?_
                    refine qm_Ru.rt (v := (some (.int (-1)))) (h' := h) rfl ?_
                    refine qm_Ru.go 5 (c' := (33, [.ref 28, .int y, .int r, .int s, .int (-1), .float 0, .float 0, .float 0, .float 0, .float 0], [.int (-1)], h)) rfl ?_
                    refine qm_Ru.rt (v := (some (.int (-1)))) (h' := h) rfl ?_
                    exact k (some (.int (-1))) (h.2.1) (h.2.2.1) ⟨_, rfl, ⟨by decide, by decide⟩⟩ hB hV (fun _ _ _ => rfl)
                  · refine qm_Ru.go 2 (c' := (47, [.ref 28, .int y, .int r, .int 0], [.int 0], h)) rfl ?_
                    refine qm_Ru.rt (v := (some (.int 0))) (h' := h) rfl ?_
                    refine qm_Ru.go 5 (c' := (35, [.ref 28, .int y, .int r, .int s, .int 0, .float 0, .float 0, .float 0, .float 0, .float 0], [.ref 28], h)) rfl ?_
                    refine hk_getr rfl (hH.1 28 (9, 8) rfl) rfl (hH.2 28 3 (some 36) rfl) ?_
                    refine qm_Ru.go 3 (c' := (42, [.ref 28, .int y, .int r, .int s, .int 0, .float 0, .float 0, .float 0, .float 0, .float 0], [.int 0, .int r, .int y, .ref 36], h)) rfl ?_
                    refine qm_Ru.call (j := 75) (as := [.int y, .int r, .int 0]) (c' := (45, [.ref 28, .int y, .int r, .int s, .int 0, .float 0, .float 0, .float 0, .float 0, .float 0], [.ref 36], h)) rfl rfl rfl ?_
                    refine qm_Ru.go 3 (c' := (3, [.int y, .int r, .int 0], [.int (y * 4)], h)) rfl ?_
                    rw [q_v12]
                    refine qm_Ru.go 2 (c' := (5, [.int y, .int r, .int 0], [.int (v12 + r)], h)) rfl ?_
                    rw [q_v13]
                    refine qm_Ru.go 2 (c' := (7, [.int y, .int r, .int 0], [.int (v13 * 4)], h)) rfl ?_
                    rw [q_v14]
                    refine qm_Ru.go 2 (c' := (9, [.int y, .int r, .int 0], [.int (v14 + 0)], h)) rfl ?_
                    rw [q_v21]
                    refine qm_Ru.rt (v := (some (.int v21))) (h' := h) rfl ?_
                    refine qm_Ru.go 0 (c' := (45, [.ref 28, .int y, .int r, .int s, .int 0, .float 0, .float 0, .float 0, .float 0, .float 0], [.int v21, .ref 36], h)) rfl ?_
                    refine hk_ial (v := v22) rfl (hH.1 36 (0, 80) rfl) (by omega) (by omega) q_v22 ?_
                    refine qm_Ru.go 2 (c' := (49, [.ref 28, .int y, .int r, .int s, .int 0, .int v22, .float 0, .float 0, .float 0, .float 0], [.ref 28], h)) rfl ?_
                    refine hk_getr rfl (hH.1 28 (9, 8) rfl) rfl (hH.2 28 0 (some 6) rfl) ?_
                    refine qm_Ru.go 0 (c' := (52, [.ref 28, .int y, .int r, .int s, .int 0, .int v22, .float 0, .float 0, .float 0, .float 0], [.ref 6], h)) rfl ?_
                    refine hk_getr rfl (hH.1 6 (6, 9) rfl) rfl (hH.2 6 4 (some 10) rfl) ?_
                    refine qm_Ru.go 1 (c' := (57, [.ref 28, .int y, .int r, .int s, .int 0, .int v22, .float 0, .float 0, .float 0, .float 0], [.int v22, .ref 10], h)) rfl ?_
                    obtain ⟨v28, q_v28⟩ : ∃ v, h.2.1 10 (v22.toInt.toNat) = v := ⟨_, rfl⟩
                    have b_v28 : (0 : Int) ≤ v28.toInt ∧ v28.toInt ≤ 1 := by rw [← q_v28]; exact hB 10 (v22.toInt.toNat)
                    refine hk_bal (v := v28) rfl (hH.1 10 (2, 30) rfl) (by decide) (by omega) (by omega) q_v28 ?_
                    refine qm_Ru.go 0 (c' := (58, [.ref 28, .int y, .int r, .int s, .int 0, .int v22, .float 0, .float 0, .float 0, .float 0], [.int v28], h)) rfl ?_
                    refine hk_zeq (ix := v28.toInt) rfl rfl (fun z29 => ?_) (fun z29 => ?_)
                    · refine qm_Ru.go 10 (c' := (93, [.ref 28, .int y, .int r, .int s, .int 0, .int v22, .int 0, .int 1, .float 0, .float 0], [.int (-1), .int s], h)) rfl ?_
                      refine hk_ceq (ix := s.toInt) (iy := (-1)) rfl rfl rfl (fun z30 => ?_) (fun z30 => ?_)
                      · refine qm_Ru.go 0 (c' := (111, [.ref 28, .int y, .int r, .int s, .int 0, .int v22, .int 0, .int 1, .float 0, .float 0], [], h)) rfl ?_
                        refine qm_Ru.go 1 (c' := (112, [.ref 28, .int y, .int r, .int s, .int 0, .int v22, .int 0, .int 1, .float 0, .float 0], [.ref 28], h)) rfl ?_
                        refine hk_getr rfl (hH.1 28 (9, 8) rfl) rfl (hH.2 28 0 (some 6) rfl) ?_
                        refine qm_Ru.go 0 (c' := (115, [.ref 28, .int y, .int r, .int s, .int 0, .int v22, .int 0, .int 1, .float 0, .float 0], [.ref 6], h)) rfl ?_
                        refine hk_getr rfl (hH.1 6 (6, 9) rfl) rfl (hH.2 6 1 (some 7) rfl) ?_
                        refine qm_Ru.go 1 (c' := (120, [.ref 28, .int y, .int r, .int s, .int 0, .int v22, .int 0, .int 1, .float 0, .float 0], [.int v22, .ref 7], h)) rfl ?_
                        obtain ⟨v31, q_v31⟩ : ∃ v, h.2.1 7 (v22.toInt.toNat) = v := ⟨_, rfl⟩
                        have b_v31 : (0 : Int) ≤ v31.toInt ∧ v31.toInt ≤ 40 := by rw [← q_v31]; exact hB 7 (v22.toInt.toNat)
                        refine hk_ial (v := v31) rfl (hH.1 7 (0, 30) rfl) (by omega) (by omega) q_v31 ?_
                        refine qm_Ru.go 5 (c' := (153, [.ref 28, .int y, .int r, .int s, .int 0, .int v22, .int 0, .int 1, .float 0, .float 0], [.int (v31 + 0)], h)) rfl ?_
                        obtain ⟨v32, q_v32, e_v32⟩ := hk_add (x := v31) (y := 0) (a := v31.toInt) (b := 0) rfl rfl (by omega) (by omega)
                        rw [q_v32]
                        refine qm_Ru.go 3 (c' := (158, [.ref 28, .int y, .int r, .int s, .int 0, .int v22, .int 0, .int 1, .int v32, .float 0], [.ref 28, .int v32], h)) rfl ?_
                        refine hk_getr rfl (hH.1 28 (9, 8) rfl) rfl hT.2 ?_
                        refine qm_Ru.go 0 (c' := (161, [.ref 28, .int y, .int r, .int s, .int 0, .int v22, .int 0, .int 1, .int v32, .float 0], [.ref 111, .int v32], h)) rfl ?_
                        obtain ⟨v33, q_v33⟩ : ∃ v, h.2.1 111 4 = v := ⟨_, rfl⟩
                        refine hk_geti (v := v33) rfl (hH.1 111 (11, 16) rfl) rfl q_v33 ?_
                        refine qm_Ru.go 0 (c' := (164, [.ref 28, .int y, .int r, .int s, .int 0, .int v22, .int 0, .int 1, .int v32, .float 0], [.int v33, .int v32], h)) rfl ?_
                        refine hk_cle (ix := v32.toInt) (iy := v33.toInt) rfl rfl rfl (fun z34 => ?_) (fun z34 => ?_)
                        · refine qm_Ru.go 5 (c' := (176, [.ref 28, .int y, .int r, .int s, .int 0, .int v22, .int 0, .int 1, .int v32, .float 0], [.int (-v32), .int r, .int y, .ref 28], h)) rfl ?_
                          obtain ⟨v35, q_v35, e_v35⟩ := hk_neg (x := v32) (a := v32.toInt) rfl (by omega)
                          rw [q_v35]
                          refine hk_inv (o := 28) (r := []) (as := [.ref 28, .int y, .int r, .int v35]) rfl rfl (hH.1 28 (9, 8) rfl) rfl rfl rfl rfl (hs_borne111 h6 hH hT hB (v_C_ru hV) ⟨by show (0 : Int) ≤ y.toInt; omega, by show y.toInt ≤ (4 : Int); omega⟩ ⟨by show (0 : Int) ≤ r.toInt; omega, by show r.toInt ≤ (3 : Int); omega⟩ (qa_in_full _) (by omega) (fun v36 I37 J38 c_v36 _ e_I37 => ?_))
                          have e_I37 : I37 = h.2.1 := funext fun o => funext fun i => e_I37 o rfl i
                          subst e_I37
                          have b_v36 : (0 : Int) ≤ v36.toInt ∧ v36.toInt ≤ 1 := c_v36
                          refine qm_Ru.go 0 (c' := (179, [.ref 28, .int y, .int r, .int s, .int 0, .int v22, .int 0, .int 1, .int v32, .float 0], [.int v36], (h.1, h.2.1, J38, h.2.2.2))) rfl ?_
                          refine hk_zne (ix := v36.toInt) rfl rfl (fun z39 => ?_) (fun z39 => ?_)
                          · refine qm_Ru.go 0 (c' := (197, [.ref 28, .int y, .int r, .int s, .int 0, .int v22, .int 0, .int 1, .int v32, .float 0], [], (h.1, h.2.1, J38, h.2.2.2))) rfl ?_
                            exact hq_land00 (h := (h.1, h.2.1, J38, h.2.2.2)) hH hB hV (by omega) (by omega) (by omega) (fun c => absurd z30 c) (p_at q_v22 (by omega) (by omega)) (p_no q_v16 (by omega) (by omega)) (fun v I hB2 hV2 hm2 ev => k (some (.int v)) I _ ⟨_, rfl, ⟨by show (-3 : Int) ≤ v.toInt; omega, by show v.toInt ≤ (2 : Int); omega⟩⟩ hB2 hV2 hm2)
                          · refine qm_Ru.go 5 (c' := (188, [.ref 28, .int y, .int r, .int s, .int 0, .int v22, .int 0, .int 1, .int v32, .float 0], [.int (-v32), .int r, .int y, .ref 28], (h.1, h.2.1, J38, h.2.2.2))) rfl ?_
                            rw [q_v35]
                            refine hk_inv (o := 28) (r := []) (as := [.ref 28, .int y, .int r, .int v35]) rfl rfl (hH.1 28 (9, 8) rfl) rfl rfl rfl rfl (hs_nowor111 h6 hH hT hB (v_C_ru hV) ⟨by show (0 : Int) ≤ y.toInt; omega, by show y.toInt ≤ (4 : Int); omega⟩ ⟨by show (0 : Int) ≤ r.toInt; omega, by show r.toInt ≤ (3 : Int); omega⟩ (qa_in_full _) (by omega) (fun v41 I42 J43 c_v41 _ e_I42 => ?_))
                            have e_I42 : I42 = h.2.1 := funext fun o => funext fun i => e_I42 o rfl i
                            subst e_I42
                            have b_v41 : (0 : Int) ≤ v41.toInt ∧ v41.toInt ≤ 1 := c_v41
                            refine qm_Ru.go 0 (c' := (191, [.ref 28, .int y, .int r, .int s, .int 0, .int v22, .int 0, .int 1, .int v32, .float 0], [.int v41], (h.1, h.2.1, J43, h.2.2.2))) rfl ?_
                            refine hk_zne (ix := v41.toInt) rfl rfl (fun z44 => ?_) (fun z44 => ?_)
                            · refine qm_Ru.go 0 (c' := (197, [.ref 28, .int y, .int r, .int s, .int 0, .int v22, .int 0, .int 1, .int v32, .float 0], [], (h.1, h.2.1, J43, h.2.2.2))) rfl ?_
                              exact hq_land00 (h := (h.1, h.2.1, J43, h.2.2.2)) hH hB hV (by omega) (by omega) (by omega) (fun c => absurd z30 c) (p_at q_v22 (by omega) (by omega)) (p_no q_v16 (by omega) (by omega)) (fun v I hB2 hV2 hm2 ev => k (some (.int v)) I _ ⟨_, rfl, ⟨by show (-3 : Int) ≤ v.toInt; omega, by show v.toInt ≤ (2 : Int); omega⟩⟩ hB2 hV2 hm2)
                            · refine qm_Ru.go 1 (c' := (196, [.ref 28, .int y, .int r, .int s, .int 0, .int v22, .int 0, .int 1, .int v32, .float 0], [.int (-3)], (h.1, h.2.1, J43, h.2.2.2))) rfl ?_
                              refine qm_Ru.rt (v := (some (.int (-3)))) (h' := (h.1, h.2.1, J43, h.2.2.2)) rfl ?_
                              exact k (some (.int (-3))) (h.2.1) (J43) ⟨_, rfl, ⟨by decide, by decide⟩⟩ hB hV (fun _ _ _ => rfl)
                        · refine qm_Ru.go 1 (c' := (169, [.ref 28, .int y, .int r, .int s, .int 0, .int v22, .int 0, .int 1, .int v32, .float 0], [.int (-2)], h)) rfl ?_
                          refine qm_Ru.rt (v := (some (.int (-2)))) (h' := h) rfl ?_
                          exact k (some (.int (-2))) (h.2.1) (h.2.2.1) ⟨_, rfl, ⟨by decide, by decide⟩⟩ hB hV (fun _ _ _ => rfl)
                      · refine qm_Ru.go 1 (c' := (97, [.ref 28, .int y, .int r, .int s, .int 0, .int v22, .int 0, .int 1, .float 0, .float 0], [.ref 28], h)) rfl ?_
                        refine hk_getr rfl (hH.1 28 (9, 8) rfl) rfl (hH.2 28 1 (some 15) rfl) ?_
                        refine qm_Ru.go 1 (c' := (101, [.ref 28, .int y, .int r, .int s, .int 0, .int v22, .int 0, .int 1, .float 0, .float 0], [.int s, .ref 15], h)) rfl ?_
                        refine hk_inv (o := 15) (r := []) (as := [.ref 15, .int s]) rfl rfl (hH.1 15 (15, 8) rfl) rfl rfl rfl rfl ?_
                        refine qm_Ru.go 2 (c' := (2, [.ref 15, .int s], [.ref 15, .int 4], h)) rfl ?_
                        refine hk_getr rfl (hH.1 15 (15, 8) rfl) rfl (hH.2 15 2 (some 17) rfl) ?_
                        refine qm_Ru.go 1 (c' := (6, [.ref 15, .int s], [.int s, .ref 17, .int 4], h)) rfl ?_
                        obtain ⟨v45, q_v45⟩ : ∃ v, h.2.1 17 (s.toInt.toNat) = v := ⟨_, rfl⟩
                        have b_v45 : (0 : Int) ≤ v45.toInt ∧ v45.toInt ≤ 4 := by rw [← q_v45]; exact hB 17 (s.toInt.toNat)
                        refine hk_ial (v := v45) rfl (hH.1 17 (0, 4) rfl) (by omega) (by omega) q_v45 ?_
                        refine qm_Ru.go 1 (c' := (8, [.ref 15, .int s], [.int (4 - v45)], h)) rfl ?_
                        obtain ⟨v46, q_v46, e_v46⟩ := hk_sub (x := 4) (y := v45) (a := 4) (b := v45.toInt) rfl rfl (by omega) (by omega)
                        rw [q_v46]
                        refine qm_Ru.rt (v := (some (.int v46))) (h' := h) rfl ?_
                        refine qm_Ru.go 1 (c' := (106, [.ref 28, .int y, .int r, .int s, .int 0, .int v22, .int 0, .int 1, .float 0, .float 0], [.int 1, .int v46], h)) rfl ?_
                        refine hk_cge (ix := v46.toInt) (iy := 1) rfl rfl rfl (fun z47 => ?_) (fun z47 => ?_)
                        · refine qm_Ru.go 0 (c' := (111, [.ref 28, .int y, .int r, .int s, .int 0, .int v22, .int 0, .int 1, .float 0, .float 0], [], h)) rfl ?_
                          refine qm_Ru.go 1 (c' := (112, [.ref 28, .int y, .int r, .int s, .int 0, .int v22, .int 0, .int 1, .float 0, .float 0], [.ref 28], h)) rfl ?_
                          refine hk_getr rfl (hH.1 28 (9, 8) rfl) rfl (hH.2 28 0 (some 6) rfl) ?_
                          refine qm_Ru.go 0 (c' := (115, [.ref 28, .int y, .int r, .int s, .int 0, .int v22, .int 0, .int 1, .float 0, .float 0], [.ref 6], h)) rfl ?_
                          refine hk_getr rfl (hH.1 6 (6, 9) rfl) rfl (hH.2 6 1 (some 7) rfl) ?_
                          refine qm_Ru.go 1 (c' := (120, [.ref 28, .int y, .int r, .int s, .int 0, .int v22, .int 0, .int 1, .float 0, .float 0], [.int v22, .ref 7], h)) rfl ?_
                          obtain ⟨v48, q_v48⟩ : ∃ v, h.2.1 7 (v22.toInt.toNat) = v := ⟨_, rfl⟩
                          have b_v48 : (0 : Int) ≤ v48.toInt ∧ v48.toInt ≤ 40 := by rw [← q_v48]; exact hB 7 (v22.toInt.toNat)
                          refine hk_ial (v := v48) rfl (hH.1 7 (0, 30) rfl) (by omega) (by omega) q_v48 ?_
                          refine qm_Ru.go 5 (c' := (153, [.ref 28, .int y, .int r, .int s, .int 0, .int v22, .int 0, .int 1, .float 0, .float 0], [.int (v48 + 0)], h)) rfl ?_
                          obtain ⟨v49, q_v49, e_v49⟩ := hk_add (x := v48) (y := 0) (a := v48.toInt) (b := 0) rfl rfl (by omega) (by omega)
                          rw [q_v49]
                          refine qm_Ru.go 3 (c' := (158, [.ref 28, .int y, .int r, .int s, .int 0, .int v22, .int 0, .int 1, .int v49, .float 0], [.ref 28, .int v49], h)) rfl ?_
                          refine hk_getr rfl (hH.1 28 (9, 8) rfl) rfl hT.2 ?_
                          refine qm_Ru.go 0 (c' := (161, [.ref 28, .int y, .int r, .int s, .int 0, .int v22, .int 0, .int 1, .int v49, .float 0], [.ref 111, .int v49], h)) rfl ?_
                          obtain ⟨v50, q_v50⟩ : ∃ v, h.2.1 111 4 = v := ⟨_, rfl⟩
                          refine hk_geti (v := v50) rfl (hH.1 111 (11, 16) rfl) rfl q_v50 ?_
                          refine qm_Ru.go 0 (c' := (164, [.ref 28, .int y, .int r, .int s, .int 0, .int v22, .int 0, .int 1, .int v49, .float 0], [.int v50, .int v49], h)) rfl ?_
                          refine hk_cle (ix := v49.toInt) (iy := v50.toInt) rfl rfl rfl (fun z51 => ?_) (fun z51 => ?_)
                          · refine qm_Ru.go 5 (c' := (176, [.ref 28, .int y, .int r, .int s, .int 0, .int v22, .int 0, .int 1, .int v49, .float 0], [.int (-v49), .int r, .int y, .ref 28], h)) rfl ?_
                            obtain ⟨v52, q_v52, e_v52⟩ := hk_neg (x := v49) (a := v49.toInt) rfl (by omega)
                            rw [q_v52]
                            refine hk_inv (o := 28) (r := []) (as := [.ref 28, .int y, .int r, .int v52]) rfl rfl (hH.1 28 (9, 8) rfl) rfl rfl rfl rfl (hs_borne111 h6 hH hT hB (v_C_ru hV) ⟨by show (0 : Int) ≤ y.toInt; omega, by show y.toInt ≤ (4 : Int); omega⟩ ⟨by show (0 : Int) ≤ r.toInt; omega, by show r.toInt ≤ (3 : Int); omega⟩ (qa_in_full _) (by omega) (fun v53 I54 J55 c_v53 _ e_I54 => ?_))
                            have e_I54 : I54 = h.2.1 := funext fun o => funext fun i => e_I54 o rfl i
                            subst e_I54
                            have b_v53 : (0 : Int) ≤ v53.toInt ∧ v53.toInt ≤ 1 := c_v53
                            refine qm_Ru.go 0 (c' := (179, [.ref 28, .int y, .int r, .int s, .int 0, .int v22, .int 0, .int 1, .int v49, .float 0], [.int v53], (h.1, h.2.1, J55, h.2.2.2))) rfl ?_
                            refine hk_zne (ix := v53.toInt) rfl rfl (fun z56 => ?_) (fun z56 => ?_)
                            · refine qm_Ru.go 0 (c' := (197, [.ref 28, .int y, .int r, .int s, .int 0, .int v22, .int 0, .int 1, .int v49, .float 0], [], (h.1, h.2.1, J55, h.2.2.2))) rfl ?_
                              exact hq_land00 (h := (h.1, h.2.1, J55, h.2.2.2)) hH hB hV (by omega) (by omega) (by omega) (fun _ => by rw [q_v45]; omega) (p_at q_v22 (by omega) (by omega)) (p_no q_v16 (by omega) (by omega)) (fun v I hB2 hV2 hm2 ev => k (some (.int v)) I _ ⟨_, rfl, ⟨by show (-3 : Int) ≤ v.toInt; omega, by show v.toInt ≤ (2 : Int); omega⟩⟩ hB2 hV2 hm2)
                            · refine qm_Ru.go 5 (c' := (188, [.ref 28, .int y, .int r, .int s, .int 0, .int v22, .int 0, .int 1, .int v49, .float 0], [.int (-v49), .int r, .int y, .ref 28], (h.1, h.2.1, J55, h.2.2.2))) rfl ?_
                              rw [q_v52]
                              refine hk_inv (o := 28) (r := []) (as := [.ref 28, .int y, .int r, .int v52]) rfl rfl (hH.1 28 (9, 8) rfl) rfl rfl rfl rfl (hs_nowor111 h6 hH hT hB (v_C_ru hV) ⟨by show (0 : Int) ≤ y.toInt; omega, by show y.toInt ≤ (4 : Int); omega⟩ ⟨by show (0 : Int) ≤ r.toInt; omega, by show r.toInt ≤ (3 : Int); omega⟩ (qa_in_full _) (by omega) (fun v58 I59 J60 c_v58 _ e_I59 => ?_))
                              have e_I59 : I59 = h.2.1 := funext fun o => funext fun i => e_I59 o rfl i
                              subst e_I59
                              have b_v58 : (0 : Int) ≤ v58.toInt ∧ v58.toInt ≤ 1 := c_v58
                              refine qm_Ru.go 0 (c' := (191, [.ref 28, .int y, .int r, .int s, .int 0, .int v22, .int 0, .int 1, .int v49, .float 0], [.int v58], (h.1, h.2.1, J60, h.2.2.2))) rfl ?_
                              refine hk_zne (ix := v58.toInt) rfl rfl (fun z61 => ?_) (fun z61 => ?_)
                              · refine qm_Ru.go 0 (c' := (197, [.ref 28, .int y, .int r, .int s, .int 0, .int v22, .int 0, .int 1, .int v49, .float 0], [], (h.1, h.2.1, J60, h.2.2.2))) rfl ?_
                                exact hq_land00 (h := (h.1, h.2.1, J60, h.2.2.2)) hH hB hV (by omega) (by omega) (by omega) (fun _ => by rw [q_v45]; omega) (p_at q_v22 (by omega) (by omega)) (p_no q_v16 (by omega) (by omega)) (fun v I hB2 hV2 hm2 ev => k (some (.int v)) I _ ⟨_, rfl, ⟨by show (-3 : Int) ≤ v.toInt; omega, by show v.toInt ≤ (2 : Int); omega⟩⟩ hB2 hV2 hm2)
                              · refine qm_Ru.go 1 (c' := (196, [.ref 28, .int y, .int r, .int s, .int 0, .int v22, .int 0, .int 1, .int v49, .float 0], [.int (-3)], (h.1, h.2.1, J60, h.2.2.2))) rfl ?_
                                refine qm_Ru.rt (v := (some (.int (-3)))) (h' := (h.1, h.2.1, J60, h.2.2.2)) rfl ?_
                                exact k (some (.int (-3))) (h.2.1) (J60) ⟨_, rfl, ⟨by decide, by decide⟩⟩ hB hV (fun _ _ _ => rfl)
                          · refine qm_Ru.go 1 (c' := (169, [.ref 28, .int y, .int r, .int s, .int 0, .int v22, .int 0, .int 1, .int v49, .float 0], [.int (-2)], h)) rfl ?_
                            refine qm_Ru.rt (v := (some (.int (-2)))) (h' := h) rfl ?_
                            exact k (some (.int (-2))) (h.2.1) (h.2.2.1) ⟨_, rfl, ⟨by decide, by decide⟩⟩ hB hV (fun _ _ _ => rfl)
                        · refine qm_Ru.go 1 (c' := (110, [.ref 28, .int y, .int r, .int s, .int 0, .int v22, .int 0, .int 1, .float 0, .float 0], [.int (-1)], h)) rfl ?_
                          refine qm_Ru.rt (v := (some (.int (-1)))) (h' := h) rfl ?_
                          exact k (some (.int (-1))) (h.2.1) (h.2.2.1) ⟨_, rfl, ⟨by decide, by decide⟩⟩ hB hV (fun _ _ _ => rfl)
                    · refine qm_Ru.go 3 (c' := (65, [.ref 28, .int y, .int r, .int s, .int 0, .int v22, .float 0, .float 0, .float 0, .float 0], [.int y, .ref 28, .int 0], h)) rfl ?_
                      refine hk_inv (o := 28) (r := [.int 0]) (as := [.ref 28, .int y]) rfl rfl (hH.1 28 (9, 8) rfl) rfl rfl rfl rfl ?_
                      refine qm_Ru.go 2 (c' := (2, [.ref 28, .int y], [.int y, .ref 28], h)) rfl ?_
                      refine hk_inv (o := 28) (r := []) (as := [.ref 28, .int y]) rfl rfl (hH.1 28 (9, 8) rfl) rfl rfl rfl rfl ?_
                      refine qm_Ru.go 1 (c' := (1, [.ref 28, .int y], [.ref 28], h)) rfl ?_
                      refine hk_geti (v := v8) rfl (hH.1 28 (9, 8) rfl) rfl q_v8 ?_
                      refine qm_Ru.go 2 (c' := (6, [.ref 28, .int y], [.int (v8 >>> (y &&& 31))], h)) rfl ?_
                      rw [q_v9]
                      refine qm_Ru.go 2 (c' := (8, [.ref 28, .int y], [.int (v9 &&& 1)], h)) rfl ?_
                      rw [q_v10]
                      refine qm_Ru.go 1 (c' := (9, [.ref 28, .int y], [.int 1, .int v10], h)) rfl ?_
                      refine hk_cne (ix := v10.toInt) (iy := 1) rfl rfl rfl (fun z64 => ?_) (fun z64 => by exfalso; omega)
                      refine qm_Ru.go 1 (c' := (17, [.ref 28, .int y], [.int 0], h)) rfl ?_
                      refine qm_Ru.rt (v := (some (.int 0))) (h' := h) rfl ?_
                      refine qm_Ru.go 2 (c' := (13, [.ref 28, .int y], [.int 0], h)) rfl ?_
                      refine qm_Ru.rt (v := (some (.int 0))) (h' := h) rfl ?_
                      refine qm_Ru.go 11 (c' := (93, [.ref 28, .int y, .int r, .int s, .int 0, .int v22, .int 0, .int 1, .float 0, .float 0], [.int (-1), .int s], h)) rfl ?_
                      refine hk_ceq (ix := s.toInt) (iy := (-1)) rfl rfl rfl (fun z65 => ?_) (fun z65 => ?_)
                      · refine qm_Ru.go 0 (c' := (111, [.ref 28, .int y, .int r, .int s, .int 0, .int v22, .int 0, .int 1, .float 0, .float 0], [], h)) rfl ?_
                        refine qm_Ru.go 1 (c' := (112, [.ref 28, .int y, .int r, .int s, .int 0, .int v22, .int 0, .int 1, .float 0, .float 0], [.ref 28], h)) rfl ?_
                        refine hk_getr rfl (hH.1 28 (9, 8) rfl) rfl (hH.2 28 0 (some 6) rfl) ?_
                        refine qm_Ru.go 0 (c' := (115, [.ref 28, .int y, .int r, .int s, .int 0, .int v22, .int 0, .int 1, .float 0, .float 0], [.ref 6], h)) rfl ?_
                        refine hk_getr rfl (hH.1 6 (6, 9) rfl) rfl (hH.2 6 1 (some 7) rfl) ?_
                        refine qm_Ru.go 1 (c' := (120, [.ref 28, .int y, .int r, .int s, .int 0, .int v22, .int 0, .int 1, .float 0, .float 0], [.int v22, .ref 7], h)) rfl ?_
                        obtain ⟨v66, q_v66⟩ : ∃ v, h.2.1 7 (v22.toInt.toNat) = v := ⟨_, rfl⟩
                        have b_v66 : (0 : Int) ≤ v66.toInt ∧ v66.toInt ≤ 40 := by rw [← q_v66]; exact hB 7 (v22.toInt.toNat)
                        refine hk_ial (v := v66) rfl (hH.1 7 (0, 30) rfl) (by omega) (by omega) q_v66 ?_
                        refine qm_Ru.go 5 (c' := (153, [.ref 28, .int y, .int r, .int s, .int 0, .int v22, .int 0, .int 1, .float 0, .float 0], [.int (v66 + 0)], h)) rfl ?_
                        obtain ⟨v67, q_v67, e_v67⟩ := hk_add (x := v66) (y := 0) (a := v66.toInt) (b := 0) rfl rfl (by omega) (by omega)
                        rw [q_v67]
                        refine qm_Ru.go 3 (c' := (158, [.ref 28, .int y, .int r, .int s, .int 0, .int v22, .int 0, .int 1, .int v67, .float 0], [.ref 28, .int v67], h)) rfl ?_
                        refine hk_getr rfl (hH.1 28 (9, 8) rfl) rfl hT.2 ?_
                        refine qm_Ru.go 0 (c' := (161, [.ref 28, .int y, .int r, .int s, .int 0, .int v22, .int 0, .int 1, .int v67, .float 0], [.ref 111, .int v67], h)) rfl ?_
                        obtain ⟨v68, q_v68⟩ : ∃ v, h.2.1 111 4 = v := ⟨_, rfl⟩
                        refine hk_geti (v := v68) rfl (hH.1 111 (11, 16) rfl) rfl q_v68 ?_
                        refine qm_Ru.go 0 (c' := (164, [.ref 28, .int y, .int r, .int s, .int 0, .int v22, .int 0, .int 1, .int v67, .float 0], [.int v68, .int v67], h)) rfl ?_
                        refine hk_cle (ix := v67.toInt) (iy := v68.toInt) rfl rfl rfl (fun z69 => ?_) (fun z69 => ?_)
                        · refine qm_Ru.go 5 (c' := (176, [.ref 28, .int y, .int r, .int s, .int 0, .int v22, .int 0, .int 1, .int v67, .float 0], [.int (-v67), .int r, .int y, .ref 28], h)) rfl ?_
                          obtain ⟨v70, q_v70, e_v70⟩ := hk_neg (x := v67) (a := v67.toInt) rfl (by omega)
                          rw [q_v70]
                          refine hk_inv (o := 28) (r := []) (as := [.ref 28, .int y, .int r, .int v70]) rfl rfl (hH.1 28 (9, 8) rfl) rfl rfl rfl rfl (hs_borne111 h6 hH hT hB (v_C_ru hV) ⟨by show (0 : Int) ≤ y.toInt; omega, by show y.toInt ≤ (4 : Int); omega⟩ ⟨by show (0 : Int) ≤ r.toInt; omega, by show r.toInt ≤ (3 : Int); omega⟩ (qa_in_full _) (by omega) (fun v71 I72 J73 c_v71 _ e_I72 => ?_))
                          have e_I72 : I72 = h.2.1 := funext fun o => funext fun i => e_I72 o rfl i
                          subst e_I72
                          have b_v71 : (0 : Int) ≤ v71.toInt ∧ v71.toInt ≤ 1 := c_v71
                          refine qm_Ru.go 0 (c' := (179, [.ref 28, .int y, .int r, .int s, .int 0, .int v22, .int 0, .int 1, .int v67, .float 0], [.int v71], (h.1, h.2.1, J73, h.2.2.2))) rfl ?_
                          refine hk_zne (ix := v71.toInt) rfl rfl (fun z74 => ?_) (fun z74 => ?_)
                          · refine qm_Ru.go 0 (c' := (197, [.ref 28, .int y, .int r, .int s, .int 0, .int v22, .int 0, .int 1, .int v67, .float 0], [], (h.1, h.2.1, J73, h.2.2.2))) rfl ?_
                            exact hq_land00 (h := (h.1, h.2.1, J73, h.2.2.2)) hH hB hV (by omega) (by omega) (by omega) (fun c => absurd z65 c) (p_at q_v22 (by omega) (by omega)) (p_no q_v16 (by omega) (by omega)) (fun v I hB2 hV2 hm2 ev => k (some (.int v)) I _ ⟨_, rfl, ⟨by show (-3 : Int) ≤ v.toInt; omega, by show v.toInt ≤ (2 : Int); omega⟩⟩ hB2 hV2 hm2)
                          · refine qm_Ru.go 5 (c' := (188, [.ref 28, .int y, .int r, .int s, .int 0, .int v22, .int 0, .int 1, .int v67, .float 0], [.int (-v67), .int r, .int y, .ref 28], (h.1, h.2.1, J73, h.2.2.2))) rfl ?_
                            rw [q_v70]
                            refine hk_inv (o := 28) (r := []) (as := [.ref 28, .int y, .int r, .int v70]) rfl rfl (hH.1 28 (9, 8) rfl) rfl rfl rfl rfl (hs_nowor111 h6 hH hT hB (v_C_ru hV) ⟨by show (0 : Int) ≤ y.toInt; omega, by show y.toInt ≤ (4 : Int); omega⟩ ⟨by show (0 : Int) ≤ r.toInt; omega, by show r.toInt ≤ (3 : Int); omega⟩ (qa_in_full _) (by omega) (fun v76 I77 J78 c_v76 _ e_I77 => ?_))
                            have e_I77 : I77 = h.2.1 := funext fun o => funext fun i => e_I77 o rfl i
                            subst e_I77
                            have b_v76 : (0 : Int) ≤ v76.toInt ∧ v76.toInt ≤ 1 := c_v76
                            refine qm_Ru.go 0 (c' := (191, [.ref 28, .int y, .int r, .int s, .int 0, .int v22, .int 0, .int 1, .int v67, .float 0], [.int v76], (h.1, h.2.1, J78, h.2.2.2))) rfl ?_
                            refine hk_zne (ix := v76.toInt) rfl rfl (fun z79 => ?_) (fun z79 => ?_)
                            · refine qm_Ru.go 0 (c' := (197, [.ref 28, .int y, .int r, .int s, .int 0, .int v22, .int 0, .int 1, .int v67, .float 0], [], (h.1, h.2.1, J78, h.2.2.2))) rfl ?_
                              exact hq_land00 (h := (h.1, h.2.1, J78, h.2.2.2)) hH hB hV (by omega) (by omega) (by omega) (fun c => absurd z65 c) (p_at q_v22 (by omega) (by omega)) (p_no q_v16 (by omega) (by omega)) (fun v I hB2 hV2 hm2 ev => k (some (.int v)) I _ ⟨_, rfl, ⟨by show (-3 : Int) ≤ v.toInt; omega, by show v.toInt ≤ (2 : Int); omega⟩⟩ hB2 hV2 hm2)
                            · refine qm_Ru.go 1 (c' := (196, [.ref 28, .int y, .int r, .int s, .int 0, .int v22, .int 0, .int 1, .int v67, .float 0], [.int (-3)], (h.1, h.2.1, J78, h.2.2.2))) rfl ?_
                              refine qm_Ru.rt (v := (some (.int (-3)))) (h' := (h.1, h.2.1, J78, h.2.2.2)) rfl ?_
                              exact k (some (.int (-3))) (h.2.1) (J78) ⟨_, rfl, ⟨by decide, by decide⟩⟩ hB hV (fun _ _ _ => rfl)
                        · refine qm_Ru.go 1 (c' := (169, [.ref 28, .int y, .int r, .int s, .int 0, .int v22, .int 0, .int 1, .int v67, .float 0], [.int (-2)], h)) rfl ?_
                          refine qm_Ru.rt (v := (some (.int (-2)))) (h' := h) rfl ?_
                          exact k (some (.int (-2))) (h.2.1) (h.2.2.1) ⟨_, rfl, ⟨by decide, by decide⟩⟩ hB hV (fun _ _ _ => rfl)
                      · refine qm_Ru.go 1 (c' := (97, [.ref 28, .int y, .int r, .int s, .int 0, .int v22, .int 0, .int 1, .float 0, .float 0], [.ref 28], h)) rfl ?_
                        refine hk_getr rfl (hH.1 28 (9, 8) rfl) rfl (hH.2 28 1 (some 15) rfl) ?_
                        refine qm_Ru.go 1 (c' := (101, [.ref 28, .int y, .int r, .int s, .int 0, .int v22, .int 0, .int 1, .float 0, .float 0], [.int s, .ref 15], h)) rfl ?_
                        refine hk_inv (o := 15) (r := []) (as := [.ref 15, .int s]) rfl rfl (hH.1 15 (15, 8) rfl) rfl rfl rfl rfl ?_
                        refine qm_Ru.go 2 (c' := (2, [.ref 15, .int s], [.ref 15, .int 4], h)) rfl ?_
                        refine hk_getr rfl (hH.1 15 (15, 8) rfl) rfl (hH.2 15 2 (some 17) rfl) ?_
                        refine qm_Ru.go 1 (c' := (6, [.ref 15, .int s], [.int s, .ref 17, .int 4], h)) rfl ?_
                        obtain ⟨v80, q_v80⟩ : ∃ v, h.2.1 17 (s.toInt.toNat) = v := ⟨_, rfl⟩
                        have b_v80 : (0 : Int) ≤ v80.toInt ∧ v80.toInt ≤ 4 := by rw [← q_v80]; exact hB 17 (s.toInt.toNat)
                        refine hk_ial (v := v80) rfl (hH.1 17 (0, 4) rfl) (by omega) (by omega) q_v80 ?_
                        refine qm_Ru.go 1 (c' := (8, [.ref 15, .int s], [.int (4 - v80)], h)) rfl ?_
                        obtain ⟨v81, q_v81, e_v81⟩ := hk_sub (x := 4) (y := v80) (a := 4) (b := v80.toInt) rfl rfl (by omega) (by omega)
                        rw [q_v81]
                        refine qm_Ru.rt (v := (some (.int v81))) (h' := h) rfl ?_
                        refine qm_Ru.go 1 (c' := (106, [.ref 28, .int y, .int r, .int s, .int 0, .int v22, .int 0, .int 1, .float 0, .float 0], [.int 1, .int v81], h)) rfl ?_
                        refine hk_cge (ix := v81.toInt) (iy := 1) rfl rfl rfl (fun z82 => ?_) (fun z82 => ?_)
                        · refine qm_Ru.go 0 (c' := (111, [.ref 28, .int y, .int r, .int s, .int 0, .int v22, .int 0, .int 1, .float 0, .float 0], [], h)) rfl ?_
                          refine qm_Ru.go 1 (c' := (112, [.ref 28, .int y, .int r, .int s, .int 0, .int v22, .int 0, .int 1, .float 0, .float 0], [.ref 28], h)) rfl ?_
                          refine hk_getr rfl (hH.1 28 (9, 8) rfl) rfl (hH.2 28 0 (some 6) rfl) ?_
                          refine qm_Ru.go 0 (c' := (115, [.ref 28, .int y, .int r, .int s, .int 0, .int v22, .int 0, .int 1, .float 0, .float 0], [.ref 6], h)) rfl ?_
                          refine hk_getr rfl (hH.1 6 (6, 9) rfl) rfl (hH.2 6 1 (some 7) rfl) ?_
                          refine qm_Ru.go 1 (c' := (120, [.ref 28, .int y, .int r, .int s, .int 0, .int v22, .int 0, .int 1, .float 0, .float 0], [.int v22, .ref 7], h)) rfl ?_
                          obtain ⟨v83, q_v83⟩ : ∃ v, h.2.1 7 (v22.toInt.toNat) = v := ⟨_, rfl⟩
                          have b_v83 : (0 : Int) ≤ v83.toInt ∧ v83.toInt ≤ 40 := by rw [← q_v83]; exact hB 7 (v22.toInt.toNat)
                          refine hk_ial (v := v83) rfl (hH.1 7 (0, 30) rfl) (by omega) (by omega) q_v83 ?_
                          refine qm_Ru.go 5 (c' := (153, [.ref 28, .int y, .int r, .int s, .int 0, .int v22, .int 0, .int 1, .float 0, .float 0], [.int (v83 + 0)], h)) rfl ?_
                          obtain ⟨v84, q_v84, e_v84⟩ := hk_add (x := v83) (y := 0) (a := v83.toInt) (b := 0) rfl rfl (by omega) (by omega)
                          rw [q_v84]
                          refine qm_Ru.go 3 (c' := (158, [.ref 28, .int y, .int r, .int s, .int 0, .int v22, .int 0, .int 1, .int v84, .float 0], [.ref 28, .int v84], h)) rfl ?_
                          refine hk_getr rfl (hH.1 28 (9, 8) rfl) rfl hT.2 ?_
                          refine qm_Ru.go 0 (c' := (161, [.ref 28, .int y, .int r, .int s, .int 0, .int v22, .int 0, .int 1, .int v84, .float 0], [.ref 111, .int v84], h)) rfl ?_
                          obtain ⟨v85, q_v85⟩ : ∃ v, h.2.1 111 4 = v := ⟨_, rfl⟩
                          refine hk_geti (v := v85) rfl (hH.1 111 (11, 16) rfl) rfl q_v85 ?_
                          refine qm_Ru.go 0 (c' := (164, [.ref 28, .int y, .int r, .int s, .int 0, .int v22, .int 0, .int 1, .int v84, .float 0], [.int v85, .int v84], h)) rfl ?_
                          refine hk_cle (ix := v84.toInt) (iy := v85.toInt) rfl rfl rfl (fun z86 => ?_) (fun z86 => ?_)
                          · refine qm_Ru.go 5 (c' := (176, [.ref 28, .int y, .int r, .int s, .int 0, .int v22, .int 0, .int 1, .int v84, .float 0], [.int (-v84), .int r, .int y, .ref 28], h)) rfl ?_
                            obtain ⟨v87, q_v87, e_v87⟩ := hk_neg (x := v84) (a := v84.toInt) rfl (by omega)
                            rw [q_v87]
                            refine hk_inv (o := 28) (r := []) (as := [.ref 28, .int y, .int r, .int v87]) rfl rfl (hH.1 28 (9, 8) rfl) rfl rfl rfl rfl (hs_borne111 h6 hH hT hB (v_C_ru hV) ⟨by show (0 : Int) ≤ y.toInt; omega, by show y.toInt ≤ (4 : Int); omega⟩ ⟨by show (0 : Int) ≤ r.toInt; omega, by show r.toInt ≤ (3 : Int); omega⟩ (qa_in_full _) (by omega) (fun v88 I89 J90 c_v88 _ e_I89 => ?_))
                            have e_I89 : I89 = h.2.1 := funext fun o => funext fun i => e_I89 o rfl i
                            subst e_I89
                            have b_v88 : (0 : Int) ≤ v88.toInt ∧ v88.toInt ≤ 1 := c_v88
                            refine qm_Ru.go 0 (c' := (179, [.ref 28, .int y, .int r, .int s, .int 0, .int v22, .int 0, .int 1, .int v84, .float 0], [.int v88], (h.1, h.2.1, J90, h.2.2.2))) rfl ?_
                            refine hk_zne (ix := v88.toInt) rfl rfl (fun z91 => ?_) (fun z91 => ?_)
                            · refine qm_Ru.go 0 (c' := (197, [.ref 28, .int y, .int r, .int s, .int 0, .int v22, .int 0, .int 1, .int v84, .float 0], [], (h.1, h.2.1, J90, h.2.2.2))) rfl ?_
                              exact hq_land00 (h := (h.1, h.2.1, J90, h.2.2.2)) hH hB hV (by omega) (by omega) (by omega) (fun _ => by rw [q_v80]; omega) (p_at q_v22 (by omega) (by omega)) (p_no q_v16 (by omega) (by omega)) (fun v I hB2 hV2 hm2 ev => k (some (.int v)) I _ ⟨_, rfl, ⟨by show (-3 : Int) ≤ v.toInt; omega, by show v.toInt ≤ (2 : Int); omega⟩⟩ hB2 hV2 hm2)
                            · refine qm_Ru.go 5 (c' := (188, [.ref 28, .int y, .int r, .int s, .int 0, .int v22, .int 0, .int 1, .int v84, .float 0], [.int (-v84), .int r, .int y, .ref 28], (h.1, h.2.1, J90, h.2.2.2))) rfl ?_
                              rw [q_v87]
                              refine hk_inv (o := 28) (r := []) (as := [.ref 28, .int y, .int r, .int v87]) rfl rfl (hH.1 28 (9, 8) rfl) rfl rfl rfl rfl (hs_nowor111 h6 hH hT hB (v_C_ru hV) ⟨by show (0 : Int) ≤ y.toInt; omega, by show y.toInt ≤ (4 : Int); omega⟩ ⟨by show (0 : Int) ≤ r.toInt; omega, by show r.toInt ≤ (3 : Int); omega⟩ (qa_in_full _) (by omega) (fun v93 I94 J95 c_v93 _ e_I94 => ?_))
                              have e_I94 : I94 = h.2.1 := funext fun o => funext fun i => e_I94 o rfl i
                              subst e_I94
                              have b_v93 : (0 : Int) ≤ v93.toInt ∧ v93.toInt ≤ 1 := c_v93
                              refine qm_Ru.go 0 (c' := (191, [.ref 28, .int y, .int r, .int s, .int 0, .int v22, .int 0, .int 1, .int v84, .float 0], [.int v93], (h.1, h.2.1, J95, h.2.2.2))) rfl ?_
                              refine hk_zne (ix := v93.toInt) rfl rfl (fun z96 => ?_) (fun z96 => ?_)
                              · refine qm_Ru.go 0 (c' := (197, [.ref 28, .int y, .int r, .int s, .int 0, .int v22, .int 0, .int 1, .int v84, .float 0], [], (h.1, h.2.1, J95, h.2.2.2))) rfl ?_
                                exact hq_land00 (h := (h.1, h.2.1, J95, h.2.2.2)) hH hB hV (by omega) (by omega) (by omega) (fun _ => by rw [q_v80]; omega) (p_at q_v22 (by omega) (by omega)) (p_no q_v16 (by omega) (by omega)) (fun v I hB2 hV2 hm2 ev => k (some (.int v)) I _ ⟨_, rfl, ⟨by show (-3 : Int) ≤ v.toInt; omega, by show v.toInt ≤ (2 : Int); omega⟩⟩ hB2 hV2 hm2)
                              · refine qm_Ru.go 1 (c' := (196, [.ref 28, .int y, .int r, .int s, .int 0, .int v22, .int 0, .int 1, .int v84, .float 0], [.int (-3)], (h.1, h.2.1, J95, h.2.2.2))) rfl ?_
                                refine qm_Ru.rt (v := (some (.int (-3)))) (h' := (h.1, h.2.1, J95, h.2.2.2)) rfl ?_
                                exact k (some (.int (-3))) (h.2.1) (J95) ⟨_, rfl, ⟨by decide, by decide⟩⟩ hB hV (fun _ _ _ => rfl)
                          · refine qm_Ru.go 1 (c' := (169, [.ref 28, .int y, .int r, .int s, .int 0, .int v22, .int 0, .int 1, .int v84, .float 0], [.int (-2)], h)) rfl ?_
                            refine qm_Ru.rt (v := (some (.int (-2)))) (h' := h) rfl ?_
                            exact k (some (.int (-2))) (h.2.1) (h.2.2.1) ⟨_, rfl, ⟨by decide, by decide⟩⟩ hB hV (fun _ _ _ => rfl)
                        · refine qm_Ru.go 1 (c' := (110, [.ref 28, .int y, .int r, .int s, .int 0, .int v22, .int 0, .int 1, .float 0, .float 0], [.int (-1)], h)) rfl ?_
                          refine qm_Ru.rt (v := (some (.int (-1)))) (h' := h) rfl ?_
                          exact k (some (.int (-1))) (h.2.1) (h.2.2.1) ⟨_, rfl, ⟨by decide, by decide⟩⟩ hB hV (fun _ _ _ => rfl)
                · refine qm_Ru.go 3 (c' := (26, [.ref 28, .int y, .int r, .int 0], [.int 1], h)) rfl ?_
                  refine qm_Ru.rt (v := (some (.int 1))) (h' := h) rfl ?_
                  refine qm_Ru.go 5 (c' := (35, [.ref 28, .int y, .int r, .int s, .int 1, .float 0, .float 0, .float 0, .float 0, .float 0], [.ref 28], h)) rfl ?_
                  refine hk_getr rfl (hH.1 28 (9, 8) rfl) rfl (hH.2 28 3 (some 36) rfl) ?_
                  refine qm_Ru.go 3 (c' := (42, [.ref 28, .int y, .int r, .int s, .int 1, .float 0, .float 0, .float 0, .float 0, .float 0], [.int 1, .int r, .int y, .ref 36], h)) rfl ?_
                  refine qm_Ru.call (j := 75) (as := [.int y, .int r, .int 1]) (c' := (45, [.ref 28, .int y, .int r, .int s, .int 1, .float 0, .float 0, .float 0, .float 0, .float 0], [.ref 36], h)) rfl rfl rfl ?_
                  refine qm_Ru.go 3 (c' := (3, [.int y, .int r, .int 1], [.int (y * 4)], h)) rfl ?_
                  rw [q_v12]
                  refine qm_Ru.go 2 (c' := (5, [.int y, .int r, .int 1], [.int (v12 + r)], h)) rfl ?_
                  rw [q_v13]
                  refine qm_Ru.go 2 (c' := (7, [.int y, .int r, .int 1], [.int (v13 * 4)], h)) rfl ?_
                  rw [q_v14]
                  refine qm_Ru.go 2 (c' := (9, [.int y, .int r, .int 1], [.int (v14 + 1)], h)) rfl ?_
                  rw [q_v15]
                  refine qm_Ru.rt (v := (some (.int v15))) (h' := h) rfl ?_
                  refine qm_Ru.go 0 (c' := (45, [.ref 28, .int y, .int r, .int s, .int 1, .float 0, .float 0, .float 0, .float 0, .float 0], [.int v15, .ref 36], h)) rfl ?_
                  refine hk_ial (v := v16) rfl (hH.1 36 (0, 80) rfl) (by omega) (by omega) q_v16 ?_
                  refine qm_Ru.go 2 (c' := (49, [.ref 28, .int y, .int r, .int s, .int 1, .int v16, .float 0, .float 0, .float 0, .float 0], [.ref 28], h)) rfl ?_
                  refine hk_getr rfl (hH.1 28 (9, 8) rfl) rfl (hH.2 28 0 (some 6) rfl) ?_
                  refine qm_Ru.go 0 (c' := (52, [.ref 28, .int y, .int r, .int s, .int 1, .int v16, .float 0, .float 0, .float 0, .float 0], [.ref 6], h)) rfl ?_
                  refine hk_getr rfl (hH.1 6 (6, 9) rfl) rfl (hH.2 6 4 (some 10) rfl) ?_
                  refine qm_Ru.go 1 (c' := (57, [.ref 28, .int y, .int r, .int s, .int 1, .int v16, .float 0, .float 0, .float 0, .float 0], [.int v16, .ref 10], h)) rfl ?_
                  obtain ⟨v101, q_v101⟩ : ∃ v, h.2.1 10 (v16.toInt.toNat) = v := ⟨_, rfl⟩
                  have b_v101 : (0 : Int) ≤ v101.toInt ∧ v101.toInt ≤ 1 := by rw [← q_v101]; exact hB 10 (v16.toInt.toNat)
                  refine hk_bal (v := v101) rfl (hH.1 10 (2, 30) rfl) (by decide) (by omega) (by omega) q_v101 ?_
                  refine qm_Ru.go 0 (c' := (58, [.ref 28, .int y, .int r, .int s, .int 1, .int v16, .float 0, .float 0, .float 0, .float 0], [.int v101], h)) rfl ?_
                  refine hk_zeq (ix := v101.toInt) rfl rfl (fun z102 => ?_) (fun z102 => ?_)
                  · refine qm_Ru.go 10 (c' := (93, [.ref 28, .int y, .int r, .int s, .int 1, .int v16, .int 1, .int 1, .float 0, .float 0], [.int (-1), .int s], h)) rfl ?_
                    refine hk_ceq (ix := s.toInt) (iy := (-1)) rfl rfl rfl (fun z103 => ?_) (fun z103 => ?_)
                    · refine qm_Ru.go 0 (c' := (111, [.ref 28, .int y, .int r, .int s, .int 1, .int v16, .int 1, .int 1, .float 0, .float 0], [], h)) rfl ?_
                      refine qm_Ru.go 1 (c' := (112, [.ref 28, .int y, .int r, .int s, .int 1, .int v16, .int 1, .int 1, .float 0, .float 0], [.ref 28], h)) rfl ?_
                      refine hk_getr rfl (hH.1 28 (9, 8) rfl) rfl (hH.2 28 0 (some 6) rfl) ?_
                      refine qm_Ru.go 0 (c' := (115, [.ref 28, .int y, .int r, .int s, .int 1, .int v16, .int 1, .int 1, .float 0, .float 0], [.ref 6], h)) rfl ?_
                      refine hk_getr rfl (hH.1 6 (6, 9) rfl) rfl (hH.2 6 1 (some 7) rfl) ?_
                      refine qm_Ru.go 1 (c' := (120, [.ref 28, .int y, .int r, .int s, .int 1, .int v16, .int 1, .int 1, .float 0, .float 0], [.int v16, .ref 7], h)) rfl ?_
                      obtain ⟨v104, q_v104⟩ : ∃ v, h.2.1 7 (v16.toInt.toNat) = v := ⟨_, rfl⟩
                      have b_v104 : (0 : Int) ≤ v104.toInt ∧ v104.toInt ≤ 40 := by rw [← q_v104]; exact hB 7 (v16.toInt.toNat)
                      refine hk_ial (v := v104) rfl (hH.1 7 (0, 30) rfl) (by omega) (by omega) q_v104 ?_
                      refine qm_Ru.go 5 (c' := (153, [.ref 28, .int y, .int r, .int s, .int 1, .int v16, .int 1, .int 1, .float 0, .float 0], [.int (v104 + 0)], h)) rfl ?_
                      obtain ⟨v105, q_v105, e_v105⟩ := hk_add (x := v104) (y := 0) (a := v104.toInt) (b := 0) rfl rfl (by omega) (by omega)
                      rw [q_v105]
                      refine qm_Ru.go 3 (c' := (158, [.ref 28, .int y, .int r, .int s, .int 1, .int v16, .int 1, .int 1, .int v105, .float 0], [.ref 28, .int v105], h)) rfl ?_
                      refine hk_getr rfl (hH.1 28 (9, 8) rfl) rfl hT.2 ?_
                      refine qm_Ru.go 0 (c' := (161, [.ref 28, .int y, .int r, .int s, .int 1, .int v16, .int 1, .int 1, .int v105, .float 0], [.ref 111, .int v105], h)) rfl ?_
                      obtain ⟨v106, q_v106⟩ : ∃ v, h.2.1 111 4 = v := ⟨_, rfl⟩
                      refine hk_geti (v := v106) rfl (hH.1 111 (11, 16) rfl) rfl q_v106 ?_
                      refine qm_Ru.go 0 (c' := (164, [.ref 28, .int y, .int r, .int s, .int 1, .int v16, .int 1, .int 1, .int v105, .float 0], [.int v106, .int v105], h)) rfl ?_
                      refine hk_cle (ix := v105.toInt) (iy := v106.toInt) rfl rfl rfl (fun z107 => ?_) (fun z107 => ?_)
                      · refine qm_Ru.go 5 (c' := (176, [.ref 28, .int y, .int r, .int s, .int 1, .int v16, .int 1, .int 1, .int v105, .float 0], [.int (-v105), .int r, .int y, .ref 28], h)) rfl ?_
                        obtain ⟨v108, q_v108, e_v108⟩ := hk_neg (x := v105) (a := v105.toInt) rfl (by omega)
                        rw [q_v108]
                        refine hk_inv (o := 28) (r := []) (as := [.ref 28, .int y, .int r, .int v108]) rfl rfl (hH.1 28 (9, 8) rfl) rfl rfl rfl rfl (hs_borne111 h6 hH hT hB (v_C_ru hV) ⟨by show (0 : Int) ≤ y.toInt; omega, by show y.toInt ≤ (4 : Int); omega⟩ ⟨by show (0 : Int) ≤ r.toInt; omega, by show r.toInt ≤ (3 : Int); omega⟩ (qa_in_full _) (by omega) (fun v109 I110 J111 c_v109 _ e_I110 => ?_))
                        have e_I110 : I110 = h.2.1 := funext fun o => funext fun i => e_I110 o rfl i
                        subst e_I110
                        have b_v109 : (0 : Int) ≤ v109.toInt ∧ v109.toInt ≤ 1 := c_v109
                        refine qm_Ru.go 0 (c' := (179, [.ref 28, .int y, .int r, .int s, .int 1, .int v16, .int 1, .int 1, .int v105, .float 0], [.int v109], (h.1, h.2.1, J111, h.2.2.2))) rfl ?_
                        refine hk_zne (ix := v109.toInt) rfl rfl (fun z112 => ?_) (fun z112 => ?_)
                        · refine qm_Ru.go 0 (c' := (197, [.ref 28, .int y, .int r, .int s, .int 1, .int v16, .int 1, .int 1, .int v105, .float 0], [], (h.1, h.2.1, J111, h.2.2.2))) rfl ?_
                          exact hq_land11 (h := (h.1, h.2.1, J111, h.2.2.2)) hH hB hV (by omega) (by omega) (by omega) (fun c => absurd z103 c) (p_at q_v16 (by omega) (by omega)) (fun v I hB2 hV2 hm2 ev => k (some (.int v)) I _ ⟨_, rfl, ⟨by show (-3 : Int) ≤ v.toInt; omega, by show v.toInt ≤ (2 : Int); omega⟩⟩ hB2 hV2 hm2)
                        · refine qm_Ru.go 5 (c' := (188, [.ref 28, .int y, .int r, .int s, .int 1, .int v16, .int 1, .int 1, .int v105, .float 0], [.int (-v105), .int r, .int y, .ref 28], (h.1, h.2.1, J111, h.2.2.2))) rfl ?_
                          rw [q_v108]
                          refine hk_inv (o := 28) (r := []) (as := [.ref 28, .int y, .int r, .int v108]) rfl rfl (hH.1 28 (9, 8) rfl) rfl rfl rfl rfl (hs_nowor111 h6 hH hT hB (v_C_ru hV) ⟨by show (0 : Int) ≤ y.toInt; omega, by show y.toInt ≤ (4 : Int); omega⟩ ⟨by show (0 : Int) ≤ r.toInt; omega, by show r.toInt ≤ (3 : Int); omega⟩ (qa_in_full _) (by omega) (fun v114 I115 J116 c_v114 _ e_I115 => ?_))
                          have e_I115 : I115 = h.2.1 := funext fun o => funext fun i => e_I115 o rfl i
                          subst e_I115
                          have b_v114 : (0 : Int) ≤ v114.toInt ∧ v114.toInt ≤ 1 := c_v114
                          refine qm_Ru.go 0 (c' := (191, [.ref 28, .int y, .int r, .int s, .int 1, .int v16, .int 1, .int 1, .int v105, .float 0], [.int v114], (h.1, h.2.1, J116, h.2.2.2))) rfl ?_
                          refine hk_zne (ix := v114.toInt) rfl rfl (fun z117 => ?_) (fun z117 => ?_)
                          · refine qm_Ru.go 0 (c' := (197, [.ref 28, .int y, .int r, .int s, .int 1, .int v16, .int 1, .int 1, .int v105, .float 0], [], (h.1, h.2.1, J116, h.2.2.2))) rfl ?_
                            exact hq_land11 (h := (h.1, h.2.1, J116, h.2.2.2)) hH hB hV (by omega) (by omega) (by omega) (fun c => absurd z103 c) (p_at q_v16 (by omega) (by omega)) (fun v I hB2 hV2 hm2 ev => k (some (.int v)) I _ ⟨_, rfl, ⟨by show (-3 : Int) ≤ v.toInt; omega, by show v.toInt ≤ (2 : Int); omega⟩⟩ hB2 hV2 hm2)
                          · refine qm_Ru.go 1 (c' := (196, [.ref 28, .int y, .int r, .int s, .int 1, .int v16, .int 1, .int 1, .int v105, .float 0], [.int (-3)], (h.1, h.2.1, J116, h.2.2.2))) rfl ?_
                            refine qm_Ru.rt (v := (some (.int (-3)))) (h' := (h.1, h.2.1, J116, h.2.2.2)) rfl ?_
                            exact k (some (.int (-3))) (h.2.1) (J116) ⟨_, rfl, ⟨by decide, by decide⟩⟩ hB hV (fun _ _ _ => rfl)
                      · refine qm_Ru.go 1 (c' := (169, [.ref 28, .int y, .int r, .int s, .int 1, .int v16, .int 1, .int 1, .int v105, .float 0], [.int (-2)], h)) rfl ?_
                        refine qm_Ru.rt (v := (some (.int (-2)))) (h' := h) rfl ?_
                        exact k (some (.int (-2))) (h.2.1) (h.2.2.1) ⟨_, rfl, ⟨by decide, by decide⟩⟩ hB hV (fun _ _ _ => rfl)
                    · refine qm_Ru.go 1 (c' := (97, [.ref 28, .int y, .int r, .int s, .int 1, .int v16, .int 1, .int 1, .float 0, .float 0], [.ref 28], h)) rfl ?_
                      refine hk_getr rfl (hH.1 28 (9, 8) rfl) rfl (hH.2 28 1 (some 15) rfl) ?_
                      refine qm_Ru.go 1 (c' := (101, [.ref 28, .int y, .int r, .int s, .int 1, .int v16, .int 1, .int 1, .float 0, .float 0], [.int s, .ref 15], h)) rfl ?_
                      refine hk_inv (o := 15) (r := []) (as := [.ref 15, .int s]) rfl rfl (hH.1 15 (15, 8) rfl) rfl rfl rfl rfl ?_
                      refine qm_Ru.go 2 (c' := (2, [.ref 15, .int s], [.ref 15, .int 4], h)) rfl ?_
                      refine hk_getr rfl (hH.1 15 (15, 8) rfl) rfl (hH.2 15 2 (some 17) rfl) ?_
                      refine qm_Ru.go 1 (c' := (6, [.ref 15, .int s], [.int s, .ref 17, .int 4], h)) rfl ?_
                      obtain ⟨v118, q_v118⟩ : ∃ v, h.2.1 17 (s.toInt.toNat) = v := ⟨_, rfl⟩
                      have b_v118 : (0 : Int) ≤ v118.toInt ∧ v118.toInt ≤ 4 := by rw [← q_v118]; exact hB 17 (s.toInt.toNat)
                      refine hk_ial (v := v118) rfl (hH.1 17 (0, 4) rfl) (by omega) (by omega) q_v118 ?_
                      refine qm_Ru.go 1 (c' := (8, [.ref 15, .int s], [.int (4 - v118)], h)) rfl ?_
                      obtain ⟨v119, q_v119, e_v119⟩ := hk_sub (x := 4) (y := v118) (a := 4) (b := v118.toInt) rfl rfl (by omega) (by omega)
                      rw [q_v119]
                      refine qm_Ru.rt (v := (some (.int v119))) (h' := h) rfl ?_
                      refine qm_Ru.go 1 (c' := (106, [.ref 28, .int y, .int r, .int s, .int 1, .int v16, .int 1, .int 1, .float 0, .float 0], [.int 1, .int v119], h)) rfl ?_
                      refine hk_cge (ix := v119.toInt) (iy := 1) rfl rfl rfl (fun z120 => ?_) (fun z120 => ?_)
                      · refine qm_Ru.go 0 (c' := (111, [.ref 28, .int y, .int r, .int s, .int 1, .int v16, .int 1, .int 1, .float 0, .float 0], [], h)) rfl ?_
                        refine qm_Ru.go 1 (c' := (112, [.ref 28, .int y, .int r, .int s, .int 1, .int v16, .int 1, .int 1, .float 0, .float 0], [.ref 28], h)) rfl ?_
                        refine hk_getr rfl (hH.1 28 (9, 8) rfl) rfl (hH.2 28 0 (some 6) rfl) ?_
                        refine qm_Ru.go 0 (c' := (115, [.ref 28, .int y, .int r, .int s, .int 1, .int v16, .int 1, .int 1, .float 0, .float 0], [.ref 6], h)) rfl ?_
                        refine hk_getr rfl (hH.1 6 (6, 9) rfl) rfl (hH.2 6 1 (some 7) rfl) ?_
                        refine qm_Ru.go 1 (c' := (120, [.ref 28, .int y, .int r, .int s, .int 1, .int v16, .int 1, .int 1, .float 0, .float 0], [.int v16, .ref 7], h)) rfl ?_
                        obtain ⟨v121, q_v121⟩ : ∃ v, h.2.1 7 (v16.toInt.toNat) = v := ⟨_, rfl⟩
                        have b_v121 : (0 : Int) ≤ v121.toInt ∧ v121.toInt ≤ 40 := by rw [← q_v121]; exact hB 7 (v16.toInt.toNat)
                        refine hk_ial (v := v121) rfl (hH.1 7 (0, 30) rfl) (by omega) (by omega) q_v121 ?_
                        refine qm_Ru.go 5 (c' := (153, [.ref 28, .int y, .int r, .int s, .int 1, .int v16, .int 1, .int 1, .float 0, .float 0], [.int (v121 + 0)], h)) rfl ?_
                        obtain ⟨v122, q_v122, e_v122⟩ := hk_add (x := v121) (y := 0) (a := v121.toInt) (b := 0) rfl rfl (by omega) (by omega)
                        rw [q_v122]
                        refine qm_Ru.go 3 (c' := (158, [.ref 28, .int y, .int r, .int s, .int 1, .int v16, .int 1, .int 1, .int v122, .float 0], [.ref 28, .int v122], h)) rfl ?_
                        refine hk_getr rfl (hH.1 28 (9, 8) rfl) rfl hT.2 ?_
                        refine qm_Ru.go 0 (c' := (161, [.ref 28, .int y, .int r, .int s, .int 1, .int v16, .int 1, .int 1, .int v122, .float 0], [.ref 111, .int v122], h)) rfl ?_
                        obtain ⟨v123, q_v123⟩ : ∃ v, h.2.1 111 4 = v := ⟨_, rfl⟩
                        refine hk_geti (v := v123) rfl (hH.1 111 (11, 16) rfl) rfl q_v123 ?_
                        refine qm_Ru.go 0 (c' := (164, [.ref 28, .int y, .int r, .int s, .int 1, .int v16, .int 1, .int 1, .int v122, .float 0], [.int v123, .int v122], h)) rfl ?_
                        refine hk_cle (ix := v122.toInt) (iy := v123.toInt) rfl rfl rfl (fun z124 => ?_) (fun z124 => ?_)
                        · refine qm_Ru.go 5 (c' := (176, [.ref 28, .int y, .int r, .int s, .int 1, .int v16, .int 1, .int 1, .int v122, .float 0], [.int (-v122), .int r, .int y, .ref 28], h)) rfl ?_
                          obtain ⟨v125, q_v125, e_v125⟩ := hk_neg (x := v122) (a := v122.toInt) rfl (by omega)
                          rw [q_v125]
                          refine hk_inv (o := 28) (r := []) (as := [.ref 28, .int y, .int r, .int v125]) rfl rfl (hH.1 28 (9, 8) rfl) rfl rfl rfl rfl (hs_borne111 h6 hH hT hB (v_C_ru hV) ⟨by show (0 : Int) ≤ y.toInt; omega, by show y.toInt ≤ (4 : Int); omega⟩ ⟨by show (0 : Int) ≤ r.toInt; omega, by show r.toInt ≤ (3 : Int); omega⟩ (qa_in_full _) (by omega) (fun v126 I127 J128 c_v126 _ e_I127 => ?_))
                          have e_I127 : I127 = h.2.1 := funext fun o => funext fun i => e_I127 o rfl i
                          subst e_I127
                          have b_v126 : (0 : Int) ≤ v126.toInt ∧ v126.toInt ≤ 1 := c_v126
                          refine qm_Ru.go 0 (c' := (179, [.ref 28, .int y, .int r, .int s, .int 1, .int v16, .int 1, .int 1, .int v122, .float 0], [.int v126], (h.1, h.2.1, J128, h.2.2.2))) rfl ?_
                          refine hk_zne (ix := v126.toInt) rfl rfl (fun z129 => ?_) (fun z129 => ?_)
                          · refine qm_Ru.go 0 (c' := (197, [.ref 28, .int y, .int r, .int s, .int 1, .int v16, .int 1, .int 1, .int v122, .float 0], [], (h.1, h.2.1, J128, h.2.2.2))) rfl ?_
                            exact hq_land11 (h := (h.1, h.2.1, J128, h.2.2.2)) hH hB hV (by omega) (by omega) (by omega) (fun _ => by rw [q_v118]; omega) (p_at q_v16 (by omega) (by omega)) (fun v I hB2 hV2 hm2 ev => k (some (.int v)) I _ ⟨_, rfl, ⟨by show (-3 : Int) ≤ v.toInt; omega, by show v.toInt ≤ (2 : Int); omega⟩⟩ hB2 hV2 hm2)
                          · refine qm_Ru.go 5 (c' := (188, [.ref 28, .int y, .int r, .int s, .int 1, .int v16, .int 1, .int 1, .int v122, .float 0], [.int (-v122), .int r, .int y, .ref 28], (h.1, h.2.1, J128, h.2.2.2))) rfl ?_
                            rw [q_v125]
                            refine hk_inv (o := 28) (r := []) (as := [.ref 28, .int y, .int r, .int v125]) rfl rfl (hH.1 28 (9, 8) rfl) rfl rfl rfl rfl (hs_nowor111 h6 hH hT hB (v_C_ru hV) ⟨by show (0 : Int) ≤ y.toInt; omega, by show y.toInt ≤ (4 : Int); omega⟩ ⟨by show (0 : Int) ≤ r.toInt; omega, by show r.toInt ≤ (3 : Int); omega⟩ (qa_in_full _) (by omega) (fun v131 I132 J133 c_v131 _ e_I132 => ?_))
                            have e_I132 : I132 = h.2.1 := funext fun o => funext fun i => e_I132 o rfl i
                            subst e_I132
                            have b_v131 : (0 : Int) ≤ v131.toInt ∧ v131.toInt ≤ 1 := c_v131
                            refine qm_Ru.go 0 (c' := (191, [.ref 28, .int y, .int r, .int s, .int 1, .int v16, .int 1, .int 1, .int v122, .float 0], [.int v131], (h.1, h.2.1, J133, h.2.2.2))) rfl ?_
                            refine hk_zne (ix := v131.toInt) rfl rfl (fun z134 => ?_) (fun z134 => ?_)
                            · refine qm_Ru.go 0 (c' := (197, [.ref 28, .int y, .int r, .int s, .int 1, .int v16, .int 1, .int 1, .int v122, .float 0], [], (h.1, h.2.1, J133, h.2.2.2))) rfl ?_
                              exact hq_land11 (h := (h.1, h.2.1, J133, h.2.2.2)) hH hB hV (by omega) (by omega) (by omega) (fun _ => by rw [q_v118]; omega) (p_at q_v16 (by omega) (by omega)) (fun v I hB2 hV2 hm2 ev => k (some (.int v)) I _ ⟨_, rfl, ⟨by show (-3 : Int) ≤ v.toInt; omega, by show v.toInt ≤ (2 : Int); omega⟩⟩ hB2 hV2 hm2)
                            · refine qm_Ru.go 1 (c' := (196, [.ref 28, .int y, .int r, .int s, .int 1, .int v16, .int 1, .int 1, .int v122, .float 0], [.int (-3)], (h.1, h.2.1, J133, h.2.2.2))) rfl ?_
                              refine qm_Ru.rt (v := (some (.int (-3)))) (h' := (h.1, h.2.1, J133, h.2.2.2)) rfl ?_
                              exact k (some (.int (-3))) (h.2.1) (J133) ⟨_, rfl, ⟨by decide, by decide⟩⟩ hB hV (fun _ _ _ => rfl)
                        · refine qm_Ru.go 1 (c' := (169, [.ref 28, .int y, .int r, .int s, .int 1, .int v16, .int 1, .int 1, .int v122, .float 0], [.int (-2)], h)) rfl ?_
                          refine qm_Ru.rt (v := (some (.int (-2)))) (h' := h) rfl ?_
                          exact k (some (.int (-2))) (h.2.1) (h.2.2.1) ⟨_, rfl, ⟨by decide, by decide⟩⟩ hB hV (fun _ _ _ => rfl)
                      · refine qm_Ru.go 1 (c' := (110, [.ref 28, .int y, .int r, .int s, .int 1, .int v16, .int 1, .int 1, .float 0, .float 0], [.int (-1)], h)) rfl ?_
                        refine qm_Ru.rt (v := (some (.int (-1)))) (h' := h) rfl ?_
                        exact k (some (.int (-1))) (h.2.1) (h.2.2.1) ⟨_, rfl, ⟨by decide, by decide⟩⟩ hB hV (fun _ _ _ => rfl)
                  · refine qm_Ru.go 3 (c' := (65, [.ref 28, .int y, .int r, .int s, .int 1, .int v16, .float 0, .float 0, .float 0, .float 0], [.int y, .ref 28, .int 1], h)) rfl ?_
                    refine hk_inv (o := 28) (r := [.int 1]) (as := [.ref 28, .int y]) rfl rfl (hH.1 28 (9, 8) rfl) rfl rfl rfl rfl ?_
                    refine qm_Ru.go 2 (c' := (2, [.ref 28, .int y], [.int y, .ref 28], h)) rfl ?_
                    refine hk_inv (o := 28) (r := []) (as := [.ref 28, .int y]) rfl rfl (hH.1 28 (9, 8) rfl) rfl rfl rfl rfl ?_
                    refine qm_Ru.go 1 (c' := (1, [.ref 28, .int y], [.ref 28], h)) rfl ?_
                    refine hk_geti (v := v8) rfl (hH.1 28 (9, 8) rfl) rfl q_v8 ?_
                    refine qm_Ru.go 2 (c' := (6, [.ref 28, .int y], [.int (v8 >>> (y &&& 31))], h)) rfl ?_
                    rw [q_v9]
                    refine qm_Ru.go 2 (c' := (8, [.ref 28, .int y], [.int (v9 &&& 1)], h)) rfl ?_
                    rw [q_v10]
                    refine qm_Ru.go 1 (c' := (9, [.ref 28, .int y], [.int 1, .int v10], h)) rfl ?_
                    refine hk_cne (ix := v10.toInt) (iy := 1) rfl rfl rfl (fun z137 => ?_) (fun z137 => by exfalso; omega)
                    refine qm_Ru.go 1 (c' := (17, [.ref 28, .int y], [.int 0], h)) rfl ?_
                    refine qm_Ru.rt (v := (some (.int 0))) (h' := h) rfl ?_
                    refine qm_Ru.go 2 (c' := (13, [.ref 28, .int y], [.int 0], h)) rfl ?_
                    refine qm_Ru.rt (v := (some (.int 0))) (h' := h) rfl ?_
                    refine qm_Ru.go 14 (c' := (93, [.ref 28, .int y, .int r, .int s, .int 1, .int v16, .int 0, .int 2, .float 0, .float 0], [.int (-1), .int s], h)) rfl ?_
                    refine hk_ceq (ix := s.toInt) (iy := (-1)) rfl rfl rfl (fun z138 => ?_) (fun z138 => ?_)
                    · refine qm_Ru.go 0 (c' := (111, [.ref 28, .int y, .int r, .int s, .int 1, .int v16, .int 0, .int 2, .float 0, .float 0], [], h)) rfl ?_
                      refine qm_Ru.go 1 (c' := (112, [.ref 28, .int y, .int r, .int s, .int 1, .int v16, .int 0, .int 2, .float 0, .float 0], [.ref 28], h)) rfl ?_
                      refine hk_getr rfl (hH.1 28 (9, 8) rfl) rfl (hH.2 28 0 (some 6) rfl) ?_
                      refine qm_Ru.go 0 (c' := (115, [.ref 28, .int y, .int r, .int s, .int 1, .int v16, .int 0, .int 2, .float 0, .float 0], [.ref 6], h)) rfl ?_
                      refine hk_getr rfl (hH.1 6 (6, 9) rfl) rfl (hH.2 6 1 (some 7) rfl) ?_
                      refine qm_Ru.go 1 (c' := (120, [.ref 28, .int y, .int r, .int s, .int 1, .int v16, .int 0, .int 2, .float 0, .float 0], [.int v16, .ref 7], h)) rfl ?_
                      obtain ⟨v139, q_v139⟩ : ∃ v, h.2.1 7 (v16.toInt.toNat) = v := ⟨_, rfl⟩
                      have b_v139 : (0 : Int) ≤ v139.toInt ∧ v139.toInt ≤ 40 := by rw [← q_v139]; exact hB 7 (v16.toInt.toNat)
                      refine hk_ial (v := v139) rfl (hH.1 7 (0, 30) rfl) (by omega) (by omega) q_v139 ?_
                      refine qm_Ru.go 4 (c' := (129, [.ref 28, .int y, .int r, .int s, .int 1, .int v16, .int 0, .int 2, .float 0, .float 0], [.ref 28, .int v139], h)) rfl ?_
                      refine hk_getr rfl (hH.1 28 (9, 8) rfl) rfl (hH.2 28 0 (some 6) rfl) ?_
                      refine qm_Ru.go 0 (c' := (132, [.ref 28, .int y, .int r, .int s, .int 1, .int v16, .int 0, .int 2, .float 0, .float 0], [.ref 6, .int v139], h)) rfl ?_
                      refine hk_getr rfl (hH.1 6 (6, 9) rfl) rfl (hH.2 6 1 (some 7) rfl) ?_
                      refine qm_Ru.go 1 (c' := (136, [.ref 28, .int y, .int r, .int s, .int 1, .int v16, .int 0, .int 2, .float 0, .float 0], [.ref 28, .ref 7, .int v139], h)) rfl ?_
                      refine hk_getr rfl (hH.1 28 (9, 8) rfl) rfl (hH.2 28 3 (some 36) rfl) ?_
                      refine qm_Ru.go 3 (c' := (143, [.ref 28, .int y, .int r, .int s, .int 1, .int v16, .int 0, .int 2, .float 0, .float 0], [.int 0, .int r, .int y, .ref 36, .ref 7, .int v139], h)) rfl ?_
                      refine qm_Ru.call (j := 75) (as := [.int y, .int r, .int 0]) (c' := (146, [.ref 28, .int y, .int r, .int s, .int 1, .int v16, .int 0, .int 2, .float 0, .float 0], [.ref 36, .ref 7, .int v139], h)) rfl rfl rfl ?_
                      refine qm_Ru.go 3 (c' := (3, [.int y, .int r, .int 0], [.int (y * 4)], h)) rfl ?_
                      rw [q_v12]
                      refine qm_Ru.go 2 (c' := (5, [.int y, .int r, .int 0], [.int (v12 + r)], h)) rfl ?_
                      rw [q_v13]
                      refine qm_Ru.go 2 (c' := (7, [.int y, .int r, .int 0], [.int (v13 * 4)], h)) rfl ?_
                      rw [q_v14]
                      refine qm_Ru.go 2 (c' := (9, [.int y, .int r, .int 0], [.int (v14 + 0)], h)) rfl ?_
                      obtain ⟨v143, q_v143, e_v143⟩ := hk_add (x := v14) (y := 0) (a := v14.toInt) (b := 0) rfl rfl (by omega) (by omega)
                      rw [q_v143]
                      refine qm_Ru.rt (v := (some (.int v143))) (h' := h) rfl ?_
                      refine qm_Ru.go 0 (c' := (146, [.ref 28, .int y, .int r, .int s, .int 1, .int v16, .int 0, .int 2, .float 0, .float 0], [.int v143, .ref 36, .ref 7, .int v139], h)) rfl ?_
                      obtain ⟨v144, q_v144⟩ : ∃ v, h.2.1 36 (v143.toInt.toNat) = v := ⟨_, rfl⟩
                      have b_v144 : (-1 : Int) ≤ v144.toInt ∧ v144.toInt ≤ 29 := by rw [← q_v144]; exact hB 36 (v143.toInt.toNat)
                      refine hk_ial (v := v144) rfl (hH.1 36 (0, 80) rfl) (by omega) (by omega) q_v144 ?_
                      refine qm_Ru.go 0 (c' := (147, [.ref 28, .int y, .int r, .int s, .int 1, .int v16, .int 0, .int 2, .float 0, .float 0], [.int v144, .ref 7, .int v139], h)) rfl ?_
                      have p_v144 : 0 ≤ v144.toInt := by have := b_low (I := h.2.1) (y := y.toInt) (r := r.toInt) (t := 0) hV.1.2 (by omega) (by omega) (by decide) (p_at q_v16 (by omega) (by omega)); rw [show (16 * y.toInt + 4 * r.toInt + 0).toNat = v143.toInt.toNat from by omega] at this; have e : pI h.2.1 36 (v143.toInt.toNat) = v144.toInt := congrArg Int32.toInt q_v144; omega
                      obtain ⟨v145, q_v145⟩ : ∃ v, h.2.1 7 (v144.toInt.toNat) = v := ⟨_, rfl⟩
                      have b_v145 : (0 : Int) ≤ v145.toInt ∧ v145.toInt ≤ 40 := by rw [← q_v145]; exact hB 7 (v144.toInt.toNat)
                      refine hk_ial (v := v145) rfl (hH.1 7 (0, 30) rfl) (by omega) (by omega) q_v145 ?_
                      refine qm_Ru.go 2 (c' := (153, [.ref 28, .int y, .int r, .int s, .int 1, .int v16, .int 0, .int 2, .float 0, .float 0], [.int (v139 + v145)], h)) rfl ?_
                      obtain ⟨v146, q_v146, e_v146⟩ := hk_add (x := v139) (y := v145) (a := v139.toInt) (b := v145.toInt) rfl rfl (by omega) (by omega)
                      rw [q_v146]
                      refine qm_Ru.go 3 (c' := (158, [.ref 28, .int y, .int r, .int s, .int 1, .int v16, .int 0, .int 2, .int v146, .float 0], [.ref 28, .int v146], h)) rfl ?_
                      refine hk_getr rfl (hH.1 28 (9, 8) rfl) rfl hT.2 ?_
                      refine qm_Ru.go 0 (c' := (161, [.ref 28, .int y, .int r, .int s, .int 1, .int v16, .int 0, .int 2, .int v146, .float 0], [.ref 111, .int v146], h)) rfl ?_
                      obtain ⟨v147, q_v147⟩ : ∃ v, h.2.1 111 4 = v := ⟨_, rfl⟩
                      refine hk_geti (v := v147) rfl (hH.1 111 (11, 16) rfl) rfl q_v147 ?_
                      refine qm_Ru.go 0 (c' := (164, [.ref 28, .int y, .int r, .int s, .int 1, .int v16, .int 0, .int 2, .int v146, .float 0], [.int v147, .int v146], h)) rfl ?_
                      refine hk_cle (ix := v146.toInt) (iy := v147.toInt) rfl rfl rfl (fun z148 => ?_) (fun z148 => ?_)
                      · refine qm_Ru.go 5 (c' := (176, [.ref 28, .int y, .int r, .int s, .int 1, .int v16, .int 0, .int 2, .int v146, .float 0], [.int (-v146), .int r, .int y, .ref 28], h)) rfl ?_
                        obtain ⟨v149, q_v149, e_v149⟩ := hk_neg (x := v146) (a := v146.toInt) rfl (by omega)
                        rw [q_v149]
                        refine hk_inv (o := 28) (r := []) (as := [.ref 28, .int y, .int r, .int v149]) rfl rfl (hH.1 28 (9, 8) rfl) rfl rfl rfl rfl (hs_borne111 h6 hH hT hB (v_C_ru hV) ⟨by show (0 : Int) ≤ y.toInt; omega, by show y.toInt ≤ (4 : Int); omega⟩ ⟨by show (0 : Int) ≤ r.toInt; omega, by show r.toInt ≤ (3 : Int); omega⟩ (qa_in_full _) (by omega) (fun v150 I151 J152 c_v150 _ e_I151 => ?_))
                        have e_I151 : I151 = h.2.1 := funext fun o => funext fun i => e_I151 o rfl i
                        subst e_I151
                        have b_v150 : (0 : Int) ≤ v150.toInt ∧ v150.toInt ≤ 1 := c_v150
                        refine qm_Ru.go 0 (c' := (179, [.ref 28, .int y, .int r, .int s, .int 1, .int v16, .int 0, .int 2, .int v146, .float 0], [.int v150], (h.1, h.2.1, J152, h.2.2.2))) rfl ?_
                        refine hk_zne (ix := v150.toInt) rfl rfl (fun z153 => ?_) (fun z153 => ?_)
                        · refine qm_Ru.go 0 (c' := (197, [.ref 28, .int y, .int r, .int s, .int 1, .int v16, .int 0, .int 2, .int v146, .float 0], [], (h.1, h.2.1, J152, h.2.2.2))) rfl ?_
                          exact hq_land01 (h := (h.1, h.2.1, J152, h.2.2.2)) hH hB hV (by omega) (by omega) (by omega) (fun c => absurd z138 c) (p_at q_v144 (by omega) (by omega)) (p_at q_v16 (by omega) (by omega)) (fun v I hB2 hV2 hm2 ev => k (some (.int v)) I _ ⟨_, rfl, ⟨by show (-3 : Int) ≤ v.toInt; omega, by show v.toInt ≤ (2 : Int); omega⟩⟩ hB2 hV2 hm2)
                        · refine qm_Ru.go 5 (c' := (188, [.ref 28, .int y, .int r, .int s, .int 1, .int v16, .int 0, .int 2, .int v146, .float 0], [.int (-v146), .int r, .int y, .ref 28], (h.1, h.2.1, J152, h.2.2.2))) rfl ?_
                          rw [q_v149]
                          refine hk_inv (o := 28) (r := []) (as := [.ref 28, .int y, .int r, .int v149]) rfl rfl (hH.1 28 (9, 8) rfl) rfl rfl rfl rfl (hs_nowor111 h6 hH hT hB (v_C_ru hV) ⟨by show (0 : Int) ≤ y.toInt; omega, by show y.toInt ≤ (4 : Int); omega⟩ ⟨by show (0 : Int) ≤ r.toInt; omega, by show r.toInt ≤ (3 : Int); omega⟩ (qa_in_full _) (by omega) (fun v155 I156 J157 c_v155 _ e_I156 => ?_))
                          have e_I156 : I156 = h.2.1 := funext fun o => funext fun i => e_I156 o rfl i
                          subst e_I156
                          have b_v155 : (0 : Int) ≤ v155.toInt ∧ v155.toInt ≤ 1 := c_v155
                          refine qm_Ru.go 0 (c' := (191, [.ref 28, .int y, .int r, .int s, .int 1, .int v16, .int 0, .int 2, .int v146, .float 0], [.int v155], (h.1, h.2.1, J157, h.2.2.2))) rfl ?_
                          refine hk_zne (ix := v155.toInt) rfl rfl (fun z158 => ?_) (fun z158 => ?_)
                          · refine qm_Ru.go 0 (c' := (197, [.ref 28, .int y, .int r, .int s, .int 1, .int v16, .int 0, .int 2, .int v146, .float 0], [], (h.1, h.2.1, J157, h.2.2.2))) rfl ?_
                            exact hq_land01 (h := (h.1, h.2.1, J157, h.2.2.2)) hH hB hV (by omega) (by omega) (by omega) (fun c => absurd z138 c) (p_at q_v144 (by omega) (by omega)) (p_at q_v16 (by omega) (by omega)) (fun v I hB2 hV2 hm2 ev => k (some (.int v)) I _ ⟨_, rfl, ⟨by show (-3 : Int) ≤ v.toInt; omega, by show v.toInt ≤ (2 : Int); omega⟩⟩ hB2 hV2 hm2)
                          · refine qm_Ru.go 1 (c' := (196, [.ref 28, .int y, .int r, .int s, .int 1, .int v16, .int 0, .int 2, .int v146, .float 0], [.int (-3)], (h.1, h.2.1, J157, h.2.2.2))) rfl ?_
                            refine qm_Ru.rt (v := (some (.int (-3)))) (h' := (h.1, h.2.1, J157, h.2.2.2)) rfl ?_
                            exact k (some (.int (-3))) (h.2.1) (J157) ⟨_, rfl, ⟨by decide, by decide⟩⟩ hB hV (fun _ _ _ => rfl)
                      · refine qm_Ru.go 1 (c' := (169, [.ref 28, .int y, .int r, .int s, .int 1, .int v16, .int 0, .int 2, .int v146, .float 0], [.int (-2)], h)) rfl ?_
                        refine qm_Ru.rt (v := (some (.int (-2)))) (h' := h) rfl ?_
                        exact k (some (.int (-2))) (h.2.1) (h.2.2.1) ⟨_, rfl, ⟨by decide, by decide⟩⟩ hB hV (fun _ _ _ => rfl)
                    · refine qm_Ru.go 1 (c' := (97, [.ref 28, .int y, .int r, .int s, .int 1, .int v16, .int 0, .int 2, .float 0, .float 0], [.ref 28], h)) rfl ?_
                      refine hk_getr rfl (hH.1 28 (9, 8) rfl) rfl (hH.2 28 1 (some 15) rfl) ?_
                      refine qm_Ru.go 1 (c' := (101, [.ref 28, .int y, .int r, .int s, .int 1, .int v16, .int 0, .int 2, .float 0, .float 0], [.int s, .ref 15], h)) rfl ?_
                      refine hk_inv (o := 15) (r := []) (as := [.ref 15, .int s]) rfl rfl (hH.1 15 (15, 8) rfl) rfl rfl rfl rfl ?_
                      refine qm_Ru.go 2 (c' := (2, [.ref 15, .int s], [.ref 15, .int 4], h)) rfl ?_
                      refine hk_getr rfl (hH.1 15 (15, 8) rfl) rfl (hH.2 15 2 (some 17) rfl) ?_
                      refine qm_Ru.go 1 (c' := (6, [.ref 15, .int s], [.int s, .ref 17, .int 4], h)) rfl ?_
                      obtain ⟨v159, q_v159⟩ : ∃ v, h.2.1 17 (s.toInt.toNat) = v := ⟨_, rfl⟩
                      have b_v159 : (0 : Int) ≤ v159.toInt ∧ v159.toInt ≤ 4 := by rw [← q_v159]; exact hB 17 (s.toInt.toNat)
                      refine hk_ial (v := v159) rfl (hH.1 17 (0, 4) rfl) (by omega) (by omega) q_v159 ?_
                      refine qm_Ru.go 1 (c' := (8, [.ref 15, .int s], [.int (4 - v159)], h)) rfl ?_
                      obtain ⟨v160, q_v160, e_v160⟩ := hk_sub (x := 4) (y := v159) (a := 4) (b := v159.toInt) rfl rfl (by omega) (by omega)
                      rw [q_v160]
                      refine qm_Ru.rt (v := (some (.int v160))) (h' := h) rfl ?_
                      refine qm_Ru.go 1 (c' := (106, [.ref 28, .int y, .int r, .int s, .int 1, .int v16, .int 0, .int 2, .float 0, .float 0], [.int 2, .int v160], h)) rfl ?_
                      refine hk_cge (ix := v160.toInt) (iy := 2) rfl rfl rfl (fun z161 => ?_) (fun z161 => ?_)
                      · refine qm_Ru.go 0 (c' := (111, [.ref 28, .int y, .int r, .int s, .int 1, .int v16, .int 0, .int 2, .float 0, .float 0], [], h)) rfl ?_
                        refine qm_Ru.go 1 (c' := (112, [.ref 28, .int y, .int r, .int s, .int 1, .int v16, .int 0, .int 2, .float 0, .float 0], [.ref 28], h)) rfl ?_
                        refine hk_getr rfl (hH.1 28 (9, 8) rfl) rfl (hH.2 28 0 (some 6) rfl) ?_
                        refine qm_Ru.go 0 (c' := (115, [.ref 28, .int y, .int r, .int s, .int 1, .int v16, .int 0, .int 2, .float 0, .float 0], [.ref 6], h)) rfl ?_
                        refine hk_getr rfl (hH.1 6 (6, 9) rfl) rfl (hH.2 6 1 (some 7) rfl) ?_
                        refine qm_Ru.go 1 (c' := (120, [.ref 28, .int y, .int r, .int s, .int 1, .int v16, .int 0, .int 2, .float 0, .float 0], [.int v16, .ref 7], h)) rfl ?_
                        obtain ⟨v162, q_v162⟩ : ∃ v, h.2.1 7 (v16.toInt.toNat) = v := ⟨_, rfl⟩
                        have b_v162 : (0 : Int) ≤ v162.toInt ∧ v162.toInt ≤ 40 := by rw [← q_v162]; exact hB 7 (v16.toInt.toNat)
                        refine hk_ial (v := v162) rfl (hH.1 7 (0, 30) rfl) (by omega) (by omega) q_v162 ?_
                        refine qm_Ru.go 4 (c' := (129, [.ref 28, .int y, .int r, .int s, .int 1, .int v16, .int 0, .int 2, .float 0, .float 0], [.ref 28, .int v162], h)) rfl ?_
                        refine hk_getr rfl (hH.1 28 (9, 8) rfl) rfl (hH.2 28 0 (some 6) rfl) ?_
                        refine qm_Ru.go 0 (c' := (132, [.ref 28, .int y, .int r, .int s, .int 1, .int v16, .int 0, .int 2, .float 0, .float 0], [.ref 6, .int v162], h)) rfl ?_
                        refine hk_getr rfl (hH.1 6 (6, 9) rfl) rfl (hH.2 6 1 (some 7) rfl) ?_
                        refine qm_Ru.go 1 (c' := (136, [.ref 28, .int y, .int r, .int s, .int 1, .int v16, .int 0, .int 2, .float 0, .float 0], [.ref 28, .ref 7, .int v162], h)) rfl ?_
                        refine hk_getr rfl (hH.1 28 (9, 8) rfl) rfl (hH.2 28 3 (some 36) rfl) ?_
                        refine qm_Ru.go 3 (c' := (143, [.ref 28, .int y, .int r, .int s, .int 1, .int v16, .int 0, .int 2, .float 0, .float 0], [.int 0, .int r, .int y, .ref 36, .ref 7, .int v162], h)) rfl ?_
                        refine qm_Ru.call (j := 75) (as := [.int y, .int r, .int 0]) (c' := (146, [.ref 28, .int y, .int r, .int s, .int 1, .int v16, .int 0, .int 2, .float 0, .float 0], [.ref 36, .ref 7, .int v162], h)) rfl rfl rfl ?_
                        refine qm_Ru.go 3 (c' := (3, [.int y, .int r, .int 0], [.int (y * 4)], h)) rfl ?_
                        rw [q_v12]
                        refine qm_Ru.go 2 (c' := (5, [.int y, .int r, .int 0], [.int (v12 + r)], h)) rfl ?_
                        rw [q_v13]
                        refine qm_Ru.go 2 (c' := (7, [.int y, .int r, .int 0], [.int (v13 * 4)], h)) rfl ?_
                        rw [q_v14]
                        refine qm_Ru.go 2 (c' := (9, [.int y, .int r, .int 0], [.int (v14 + 0)], h)) rfl ?_
                        obtain ⟨v166, q_v166, e_v166⟩ := hk_add (x := v14) (y := 0) (a := v14.toInt) (b := 0) rfl rfl (by omega) (by omega)
                        rw [q_v166]
                        refine qm_Ru.rt (v := (some (.int v166))) (h' := h) rfl ?_
                        refine qm_Ru.go 0 (c' := (146, [.ref 28, .int y, .int r, .int s, .int 1, .int v16, .int 0, .int 2, .float 0, .float 0], [.int v166, .ref 36, .ref 7, .int v162], h)) rfl ?_
                        obtain ⟨v167, q_v167⟩ : ∃ v, h.2.1 36 (v166.toInt.toNat) = v := ⟨_, rfl⟩
                        have b_v167 : (-1 : Int) ≤ v167.toInt ∧ v167.toInt ≤ 29 := by rw [← q_v167]; exact hB 36 (v166.toInt.toNat)
                        refine hk_ial (v := v167) rfl (hH.1 36 (0, 80) rfl) (by omega) (by omega) q_v167 ?_
                        refine qm_Ru.go 0 (c' := (147, [.ref 28, .int y, .int r, .int s, .int 1, .int v16, .int 0, .int 2, .float 0, .float 0], [.int v167, .ref 7, .int v162], h)) rfl ?_
                        have p_v167 : 0 ≤ v167.toInt := by have := b_low (I := h.2.1) (y := y.toInt) (r := r.toInt) (t := 0) hV.1.2 (by omega) (by omega) (by decide) (p_at q_v16 (by omega) (by omega)); rw [show (16 * y.toInt + 4 * r.toInt + 0).toNat = v166.toInt.toNat from by omega] at this; have e : pI h.2.1 36 (v166.toInt.toNat) = v167.toInt := congrArg Int32.toInt q_v167; omega
                        obtain ⟨v168, q_v168⟩ : ∃ v, h.2.1 7 (v167.toInt.toNat) = v := ⟨_, rfl⟩
                        have b_v168 : (0 : Int) ≤ v168.toInt ∧ v168.toInt ≤ 40 := by rw [← q_v168]; exact hB 7 (v167.toInt.toNat)
                        refine hk_ial (v := v168) rfl (hH.1 7 (0, 30) rfl) (by omega) (by omega) q_v168 ?_
                        refine qm_Ru.go 2 (c' := (153, [.ref 28, .int y, .int r, .int s, .int 1, .int v16, .int 0, .int 2, .float 0, .float 0], [.int (v162 + v168)], h)) rfl ?_
                        obtain ⟨v169, q_v169, e_v169⟩ := hk_add (x := v162) (y := v168) (a := v162.toInt) (b := v168.toInt) rfl rfl (by omega) (by omega)
                        rw [q_v169]
                        refine qm_Ru.go 3 (c' := (158, [.ref 28, .int y, .int r, .int s, .int 1, .int v16, .int 0, .int 2, .int v169, .float 0], [.ref 28, .int v169], h)) rfl ?_
                        refine hk_getr rfl (hH.1 28 (9, 8) rfl) rfl hT.2 ?_
                        refine qm_Ru.go 0 (c' := (161, [.ref 28, .int y, .int r, .int s, .int 1, .int v16, .int 0, .int 2, .int v169, .float 0], [.ref 111, .int v169], h)) rfl ?_
                        obtain ⟨v170, q_v170⟩ : ∃ v, h.2.1 111 4 = v := ⟨_, rfl⟩
                        refine hk_geti (v := v170) rfl (hH.1 111 (11, 16) rfl) rfl q_v170 ?_
                        refine qm_Ru.go 0 (c' := (164, [.ref 28, .int y, .int r, .int s, .int 1, .int v16, .int 0, .int 2, .int v169, .float 0], [.int v170, .int v169], h)) rfl ?_
                        refine hk_cle (ix := v169.toInt) (iy := v170.toInt) rfl rfl rfl (fun z171 => ?_) (fun z171 => ?_)
                        · refine qm_Ru.go 5 (c' := (176, [.ref 28, .int y, .int r, .int s, .int 1, .int v16, .int 0, .int 2, .int v169, .float 0], [.int (-v169), .int r, .int y, .ref 28], h)) rfl ?_
                          obtain ⟨v172, q_v172, e_v172⟩ := hk_neg (x := v169) (a := v169.toInt) rfl (by omega)
                          rw [q_v172]
                          refine hk_inv (o := 28) (r := []) (as := [.ref 28, .int y, .int r, .int v172]) rfl rfl (hH.1 28 (9, 8) rfl) rfl rfl rfl rfl (hs_borne111 h6 hH hT hB (v_C_ru hV) ⟨by show (0 : Int) ≤ y.toInt; omega, by show y.toInt ≤ (4 : Int); omega⟩ ⟨by show (0 : Int) ≤ r.toInt; omega, by show r.toInt ≤ (3 : Int); omega⟩ (qa_in_full _) (by omega) (fun v173 I174 J175 c_v173 _ e_I174 => ?_))
                          have e_I174 : I174 = h.2.1 := funext fun o => funext fun i => e_I174 o rfl i
                          subst e_I174
                          have b_v173 : (0 : Int) ≤ v173.toInt ∧ v173.toInt ≤ 1 := c_v173
                          refine qm_Ru.go 0 (c' := (179, [.ref 28, .int y, .int r, .int s, .int 1, .int v16, .int 0, .int 2, .int v169, .float 0], [.int v173], (h.1, h.2.1, J175, h.2.2.2))) rfl ?_
                          refine hk_zne (ix := v173.toInt) rfl rfl (fun z176 => ?_) (fun z176 => ?_)
                          · refine qm_Ru.go 0 (c' := (197, [.ref 28, .int y, .int r, .int s, .int 1, .int v16, .int 0, .int 2, .int v169, .float 0], [], (h.1, h.2.1, J175, h.2.2.2))) rfl ?_
                            exact hq_land01 (h := (h.1, h.2.1, J175, h.2.2.2)) hH hB hV (by omega) (by omega) (by omega) (fun _ => by rw [q_v159]; omega) (p_at q_v167 (by omega) (by omega)) (p_at q_v16 (by omega) (by omega)) (fun v I hB2 hV2 hm2 ev => k (some (.int v)) I _ ⟨_, rfl, ⟨by show (-3 : Int) ≤ v.toInt; omega, by show v.toInt ≤ (2 : Int); omega⟩⟩ hB2 hV2 hm2)
                          · refine qm_Ru.go 5 (c' := (188, [.ref 28, .int y, .int r, .int s, .int 1, .int v16, .int 0, .int 2, .int v169, .float 0], [.int (-v169), .int r, .int y, .ref 28], (h.1, h.2.1, J175, h.2.2.2))) rfl ?_
                            rw [q_v172]
                            refine hk_inv (o := 28) (r := []) (as := [.ref 28, .int y, .int r, .int v172]) rfl rfl (hH.1 28 (9, 8) rfl) rfl rfl rfl rfl (hs_nowor111 h6 hH hT hB (v_C_ru hV) ⟨by show (0 : Int) ≤ y.toInt; omega, by show y.toInt ≤ (4 : Int); omega⟩ ⟨by show (0 : Int) ≤ r.toInt; omega, by show r.toInt ≤ (3 : Int); omega⟩ (qa_in_full _) (by omega) (fun v178 I179 J180 c_v178 _ e_I179 => ?_))
                            have e_I179 : I179 = h.2.1 := funext fun o => funext fun i => e_I179 o rfl i
                            subst e_I179
                            have b_v178 : (0 : Int) ≤ v178.toInt ∧ v178.toInt ≤ 1 := c_v178
                            refine qm_Ru.go 0 (c' := (191, [.ref 28, .int y, .int r, .int s, .int 1, .int v16, .int 0, .int 2, .int v169, .float 0], [.int v178], (h.1, h.2.1, J180, h.2.2.2))) rfl ?_
                            refine hk_zne (ix := v178.toInt) rfl rfl (fun z181 => ?_) (fun z181 => ?_)
                            · refine qm_Ru.go 0 (c' := (197, [.ref 28, .int y, .int r, .int s, .int 1, .int v16, .int 0, .int 2, .int v169, .float 0], [], (h.1, h.2.1, J180, h.2.2.2))) rfl ?_
                              exact hq_land01 (h := (h.1, h.2.1, J180, h.2.2.2)) hH hB hV (by omega) (by omega) (by omega) (fun _ => by rw [q_v159]; omega) (p_at q_v167 (by omega) (by omega)) (p_at q_v16 (by omega) (by omega)) (fun v I hB2 hV2 hm2 ev => k (some (.int v)) I _ ⟨_, rfl, ⟨by show (-3 : Int) ≤ v.toInt; omega, by show v.toInt ≤ (2 : Int); omega⟩⟩ hB2 hV2 hm2)
                            · refine qm_Ru.go 1 (c' := (196, [.ref 28, .int y, .int r, .int s, .int 1, .int v16, .int 0, .int 2, .int v169, .float 0], [.int (-3)], (h.1, h.2.1, J180, h.2.2.2))) rfl ?_
                              refine qm_Ru.rt (v := (some (.int (-3)))) (h' := (h.1, h.2.1, J180, h.2.2.2)) rfl ?_
                              exact k (some (.int (-3))) (h.2.1) (J180) ⟨_, rfl, ⟨by decide, by decide⟩⟩ hB hV (fun _ _ _ => rfl)
                        · refine qm_Ru.go 1 (c' := (169, [.ref 28, .int y, .int r, .int s, .int 1, .int v16, .int 0, .int 2, .int v169, .float 0], [.int (-2)], h)) rfl ?_
                          refine qm_Ru.rt (v := (some (.int (-2)))) (h' := h) rfl ?_
                          exact k (some (.int (-2))) (h.2.1) (h.2.2.1) ⟨_, rfl, ⟨by decide, by decide⟩⟩ hB hV (fun _ _ _ => rfl)
                      · refine qm_Ru.go 1 (c' := (110, [.ref 28, .int y, .int r, .int s, .int 1, .int v16, .int 0, .int 2, .float 0, .float 0], [.int (-1)], h)) rfl ?_
                        refine qm_Ru.rt (v := (some (.int (-1)))) (h' := h) rfl ?_
                        exact k (some (.int (-1))) (h.2.1) (h.2.2.1) ⟨_, rfl, ⟨by decide, by decide⟩⟩ hB hV (fun _ _ _ => rfl)
              · refine qm_Ru.go 2 (c' := (17, [.ref 28, .int y], [.int 1], h)) rfl ?_
                refine qm_Ru.rt (v := (some (.int 1))) (h' := h) rfl ?_
                refine qm_Ru.go 3 (c' := (13, [.ref 28, .int y], [.int 2], h)) rfl ?_
                refine qm_Ru.rt (v := (some (.int 2))) (h' := h) rfl ?_
                refine qm_Ru.go 2 (c' := (7, [.ref 28, .int y, .int r, .int 2], [.ref 28], h)) rfl ?_
                refine hk_getr rfl (hH.1 28 (9, 8) rfl) rfl (hH.2 28 3 (some 36) rfl) ?_
                refine qm_Ru.go 5 (c' := (15, [.ref 28, .int y, .int r, .int 2], [.int 3, .int r, .int y, .ref 36], h)) rfl ?_
                refine qm_Ru.call (j := 75) (as := [.int y, .int r, .int 3]) (c' := (18, [.ref 28, .int y, .int r, .int 2], [.ref 36], h)) rfl rfl rfl ?_
                refine qm_Ru.go 3 (c' := (3, [.int y, .int r, .int 3], [.int (y * 4)], h)) rfl ?_
                obtain ⟨v182, q_v182, e_v182⟩ := hk_mul (x := y) (y := 4) (a := y.toInt) (b := 4) rfl rfl (by omega) (by omega)
                rw [q_v182]
                refine qm_Ru.go 2 (c' := (5, [.int y, .int r, .int 3], [.int (v182 + r)], h)) rfl ?_
                obtain ⟨v183, q_v183, e_v183⟩ := hk_add (x := v182) (y := r) (a := v182.toInt) (b := r.toInt) rfl rfl (by omega) (by omega)
                rw [q_v183]
                refine qm_Ru.go 2 (c' := (7, [.int y, .int r, .int 3], [.int (v183 * 4)], h)) rfl ?_
                obtain ⟨v184, q_v184, e_v184⟩ := hk_mul (x := v183) (y := 4) (a := v183.toInt) (b := 4) rfl rfl (by omega) (by omega)
                rw [q_v184]
                refine qm_Ru.go 2 (c' := (9, [.int y, .int r, .int 3], [.int (v184 + 3)], h)) rfl ?_
                obtain ⟨v185, q_v185, e_v185⟩ := hk_add (x := v184) (y := 3) (a := v184.toInt) (b := 3) rfl rfl (by omega) (by omega)
                rw [q_v185]
                refine qm_Ru.rt (v := (some (.int v185))) (h' := h) rfl ?_
                refine qm_Ru.go 0 (c' := (18, [.ref 28, .int y, .int r, .int 2], [.int v185, .ref 36], h)) rfl ?_
                obtain ⟨v186, q_v186⟩ : ∃ v, h.2.1 36 (v185.toInt.toNat) = v := ⟨_, rfl⟩
                have b_v186 : (-1 : Int) ≤ v186.toInt ∧ v186.toInt ≤ 29 := by rw [← q_v186]; exact hB 36 (v185.toInt.toNat)
                refine hk_ial (v := v186) rfl (hH.1 36 (0, 80) rfl) (by omega) (by omega) q_v186 ?_
                refine qm_Ru.go 0 (c' := (19, [.ref 28, .int y, .int r, .int 2], [.int v186], h)) rfl ?_
                refine qm_Ru.go 1 (c' := (20, [.ref 28, .int y, .int r, .int 2], [.int (-1), .int v186], h)) rfl ?_
                refine hk_ceq (ix := v186.toInt) (iy := (-1)) rfl rfl rfl (fun z187 => ?_) (fun z187 => ?_)
                · refine qm_Ru.go 1 (c' := (28, [.ref 28, .int y, .int r, .int 2], [.ref 28], h)) rfl ?_
                  refine hk_getr rfl (hH.1 28 (9, 8) rfl) rfl (hH.2 28 3 (some 36) rfl) ?_
                  refine qm_Ru.go 3 (c' := (34, [.ref 28, .int y, .int r, .int 2], [.int 2, .int r, .int y, .ref 36], h)) rfl ?_
                  refine qm_Ru.call (j := 75) (as := [.int y, .int r, .int 2]) (c' := (37, [.ref 28, .int y, .int r, .int 2], [.ref 36], h)) rfl rfl rfl ?_
                  refine qm_Ru.go 3 (c' := (3, [.int y, .int r, .int 2], [.int (y * 4)], h)) rfl ?_
                  rw [q_v182]
                  refine qm_Ru.go 2 (c' := (5, [.int y, .int r, .int 2], [.int (v182 + r)], h)) rfl ?_
                  rw [q_v183]
                  refine qm_Ru.go 2 (c' := (7, [.int y, .int r, .int 2], [.int (v183 * 4)], h)) rfl ?_
                  rw [q_v184]
                  refine qm_Ru.go 2 (c' := (9, [.int y, .int r, .int 2], [.int (v184 + 2)], h)) rfl ?_
                  obtain ⟨v191, q_v191, e_v191⟩ := hk_add (x := v184) (y := 2) (a := v184.toInt) (b := 2) rfl rfl (by omega) (by omega)
                  rw [q_v191]
                  refine qm_Ru.rt (v := (some (.int v191))) (h' := h) rfl ?_
                  refine qm_Ru.go 0 (c' := (37, [.ref 28, .int y, .int r, .int 2], [.int v191, .ref 36], h)) rfl ?_
                  obtain ⟨v192, q_v192⟩ : ∃ v, h.2.1 36 (v191.toInt.toNat) = v := ⟨_, rfl⟩
                  have b_v192 : (-1 : Int) ≤ v192.toInt ∧ v192.toInt ≤ 29 := by rw [← q_v192]; exact hB 36 (v191.toInt.toNat)
                  refine hk_ial (v := v192) rfl (hH.1 36 (0, 80) rfl) (by omega) (by omega) q_v192 ?_
                  refine qm_Ru.go 0 (c' := (38, [.ref 28, .int y, .int r, .int 2], [.int v192], h)) rfl ?_
                  refine qm_Ru.go 1 (c' := (39, [.ref 28, .int y, .int r, .int 2], [.int (-1), .int v192], h)) rfl ?_
                  refine hk_ceq (ix := v192.toInt) (iy := (-1)) rfl rfl rfl (fun z193 => ?_) (fun z193 => ?_)
                  · refine qm_Ru.go 1 (c' := (47, [.ref 28, .int y, .int r, .int 2], [.int (-1)], h)) rfl ?_
                    refine qm_Ru.rt (v := (some (.int (-1)))) (h' := h) rfl ?_
                    refine qm_Ru.go 5 (c' := (33, [.ref 28, .int y, .int r, .int s, .int (-1), .float 0, .float 0, .float 0, .float 0, .float 0], [.int (-1)], h)) rfl ?_
                    refine qm_Ru.rt (v := (some (.int (-1)))) (h' := h) rfl ?_
                    exact k (some (.int (-1))) (h.2.1) (h.2.2.1) ⟨_, rfl, ⟨by decide, by decide⟩⟩ hB hV (fun _ _ _ => rfl)
                  · refine qm_Ru.go 2 (c' := (47, [.ref 28, .int y, .int r, .int 2], [.int 2], h)) rfl ?_
                    refine qm_Ru.rt (v := (some (.int 2))) (h' := h) rfl ?_
                    refine qm_Ru.go 5 (c' := (35, [.ref 28, .int y, .int r, .int s, .int 2, .float 0, .float 0, .float 0, .float 0, .float 0], [.ref 28], h)) rfl ?_
                    refine hk_getr rfl (hH.1 28 (9, 8) rfl) rfl (hH.2 28 3 (some 36) rfl) ?_
                    refine qm_Ru.go 3 (c' := (42, [.ref 28, .int y, .int r, .int s, .int 2, .float 0, .float 0, .float 0, .float 0, .float 0], [.int 2, .int r, .int y, .ref 36], h)) rfl ?_
                    refine qm_Ru.call (j := 75) (as := [.int y, .int r, .int 2]) (c' := (45, [.ref 28, .int y, .int r, .int s, .int 2, .float 0, .float 0, .float 0, .float 0, .float 0], [.ref 36], h)) rfl rfl rfl ?_
                    refine qm_Ru.go 3 (c' := (3, [.int y, .int r, .int 2], [.int (y * 4)], h)) rfl ?_
                    rw [q_v182]
                    refine qm_Ru.go 2 (c' := (5, [.int y, .int r, .int 2], [.int (v182 + r)], h)) rfl ?_
                    rw [q_v183]
                    refine qm_Ru.go 2 (c' := (7, [.int y, .int r, .int 2], [.int (v183 * 4)], h)) rfl ?_
                    rw [q_v184]
                    refine qm_Ru.go 2 (c' := (9, [.int y, .int r, .int 2], [.int (v184 + 2)], h)) rfl ?_
                    rw [q_v191]
                    refine qm_Ru.rt (v := (some (.int v191))) (h' := h) rfl ?_
                    refine qm_Ru.go 0 (c' := (45, [.ref 28, .int y, .int r, .int s, .int 2, .float 0, .float 0, .float 0, .float 0, .float 0], [.int v191, .ref 36], h)) rfl ?_
                    refine hk_ial (v := v192) rfl (hH.1 36 (0, 80) rfl) (by omega) (by omega) q_v192 ?_
                    refine qm_Ru.go 2 (c' := (49, [.ref 28, .int y, .int r, .int s, .int 2, .int v192, .float 0, .float 0, .float 0, .float 0], [.ref 28], h)) rfl ?_
                    refine hk_getr rfl (hH.1 28 (9, 8) rfl) rfl (hH.2 28 0 (some 6) rfl) ?_
                    refine qm_Ru.go 0 (c' := (52, [.ref 28, .int y, .int r, .int s, .int 2, .int v192, .float 0, .float 0, .float 0, .float 0], [.ref 6], h)) rfl ?_
                    refine hk_getr rfl (hH.1 6 (6, 9) rfl) rfl (hH.2 6 4 (some 10) rfl) ?_
                    refine qm_Ru.go 1 (c' := (57, [.ref 28, .int y, .int r, .int s, .int 2, .int v192, .float 0, .float 0, .float 0, .float 0], [.int v192, .ref 10], h)) rfl ?_
                    obtain ⟨v198, q_v198⟩ : ∃ v, h.2.1 10 (v192.toInt.toNat) = v := ⟨_, rfl⟩
                    have b_v198 : (0 : Int) ≤ v198.toInt ∧ v198.toInt ≤ 1 := by rw [← q_v198]; exact hB 10 (v192.toInt.toNat)
                    refine hk_bal (v := v198) rfl (hH.1 10 (2, 30) rfl) (by decide) (by omega) (by omega) q_v198 ?_
                    refine qm_Ru.go 0 (c' := (58, [.ref 28, .int y, .int r, .int s, .int 2, .int v192, .float 0, .float 0, .float 0, .float 0], [.int v198], h)) rfl ?_
                    refine hk_zeq (ix := v198.toInt) rfl rfl (fun z199 => ?_) (fun z199 => ?_)
                    · refine qm_Ru.go 10 (c' := (93, [.ref 28, .int y, .int r, .int s, .int 2, .int v192, .int 2, .int 1, .float 0, .float 0], [.int (-1), .int s], h)) rfl ?_
                      refine hk_ceq (ix := s.toInt) (iy := (-1)) rfl rfl rfl (fun z200 => ?_) (fun z200 => ?_)
                      · refine qm_Ru.go 0 (c' := (111, [.ref 28, .int y, .int r, .int s, .int 2, .int v192, .int 2, .int 1, .float 0, .float 0], [], h)) rfl ?_
                        refine qm_Ru.go 1 (c' := (112, [.ref 28, .int y, .int r, .int s, .int 2, .int v192, .int 2, .int 1, .float 0, .float 0], [.ref 28], h)) rfl ?_
                        refine hk_getr rfl (hH.1 28 (9, 8) rfl) rfl (hH.2 28 0 (some 6) rfl) ?_
                        refine qm_Ru.go 0 (c' := (115, [.ref 28, .int y, .int r, .int s, .int 2, .int v192, .int 2, .int 1, .float 0, .float 0], [.ref 6], h)) rfl ?_
                        refine hk_getr rfl (hH.1 6 (6, 9) rfl) rfl (hH.2 6 1 (some 7) rfl) ?_
                        refine qm_Ru.go 1 (c' := (120, [.ref 28, .int y, .int r, .int s, .int 2, .int v192, .int 2, .int 1, .float 0, .float 0], [.int v192, .ref 7], h)) rfl ?_
                        obtain ⟨v201, q_v201⟩ : ∃ v, h.2.1 7 (v192.toInt.toNat) = v := ⟨_, rfl⟩
                        have b_v201 : (0 : Int) ≤ v201.toInt ∧ v201.toInt ≤ 40 := by rw [← q_v201]; exact hB 7 (v192.toInt.toNat)
                        refine hk_ial (v := v201) rfl (hH.1 7 (0, 30) rfl) (by omega) (by omega) q_v201 ?_
                        refine qm_Ru.go 5 (c' := (153, [.ref 28, .int y, .int r, .int s, .int 2, .int v192, .int 2, .int 1, .float 0, .float 0], [.int (v201 + 0)], h)) rfl ?_
                        obtain ⟨v202, q_v202, e_v202⟩ := hk_add (x := v201) (y := 0) (a := v201.toInt) (b := 0) rfl rfl (by omega) (by omega)
                        rw [q_v202]
                        refine qm_Ru.go 3 (c' := (158, [.ref 28, .int y, .int r, .int s, .int 2, .int v192, .int 2, .int 1, .int v202, .float 0], [.ref 28, .int v202], h)) rfl ?_
                        refine hk_getr rfl (hH.1 28 (9, 8) rfl) rfl hT.2 ?_
                        refine qm_Ru.go 0 (c' := (161, [.ref 28, .int y, .int r, .int s, .int 2, .int v192, .int 2, .int 1, .int v202, .float 0], [.ref 111, .int v202], h)) rfl ?_
                        obtain ⟨v203, q_v203⟩ : ∃ v, h.2.1 111 4 = v := ⟨_, rfl⟩
                        refine hk_geti (v := v203) rfl (hH.1 111 (11, 16) rfl) rfl q_v203 ?_
                        refine qm_Ru.go 0 (c' := (164, [.ref 28, .int y, .int r, .int s, .int 2, .int v192, .int 2, .int 1, .int v202, .float 0], [.int v203, .int v202], h)) rfl ?_
                        refine hk_cle (ix := v202.toInt) (iy := v203.toInt) rfl rfl rfl (fun z204 => ?_) (fun z204 => ?_)
                        · refine qm_Ru.go 5 (c' := (176, [.ref 28, .int y, .int r, .int s, .int 2, .int v192, .int 2, .int 1, .int v202, .float 0], [.int (-v202), .int r, .int y, .ref 28], h)) rfl ?_
                          obtain ⟨v205, q_v205, e_v205⟩ := hk_neg (x := v202) (a := v202.toInt) rfl (by omega)
                          rw [q_v205]
                          refine hk_inv (o := 28) (r := []) (as := [.ref 28, .int y, .int r, .int v205]) rfl rfl (hH.1 28 (9, 8) rfl) rfl rfl rfl rfl (hs_borne111 h6 hH hT hB (v_C_ru hV) ⟨by show (0 : Int) ≤ y.toInt; omega, by show y.toInt ≤ (4 : Int); omega⟩ ⟨by show (0 : Int) ≤ r.toInt; omega, by show r.toInt ≤ (3 : Int); omega⟩ (qa_in_full _) (by omega) (fun v206 I207 J208 c_v206 _ e_I207 => ?_))
                          have e_I207 : I207 = h.2.1 := funext fun o => funext fun i => e_I207 o rfl i
                          subst e_I207
                          have b_v206 : (0 : Int) ≤ v206.toInt ∧ v206.toInt ≤ 1 := c_v206
                          refine qm_Ru.go 0 (c' := (179, [.ref 28, .int y, .int r, .int s, .int 2, .int v192, .int 2, .int 1, .int v202, .float 0], [.int v206], (h.1, h.2.1, J208, h.2.2.2))) rfl ?_
                          refine hk_zne (ix := v206.toInt) rfl rfl (fun z209 => ?_) (fun z209 => ?_)
                          · refine qm_Ru.go 0 (c' := (197, [.ref 28, .int y, .int r, .int s, .int 2, .int v192, .int 2, .int 1, .int v202, .float 0], [], (h.1, h.2.1, J208, h.2.2.2))) rfl ?_
                            exact hq_land22 (h := (h.1, h.2.1, J208, h.2.2.2)) hH hB hV (by omega) (by omega) (by omega) (fun c => absurd z200 c) (p_at q_v192 (by omega) (by omega)) (p_no q_v186 (by omega) (by omega)) (fun v I hB2 hV2 hm2 ev => k (some (.int v)) I _ ⟨_, rfl, ⟨by show (-3 : Int) ≤ v.toInt; omega, by show v.toInt ≤ (2 : Int); omega⟩⟩ hB2 hV2 hm2)
                          · refine qm_Ru.go 5 (c' := (188, [.ref 28, .int y, .int r, .int s, .int 2, .int v192, .int 2, .int 1, .int v202, .float 0], [.int (-v202), .int r, .int y, .ref 28], (h.1, h.2.1, J208, h.2.2.2))) rfl ?_
                            rw [q_v205]
                            refine hk_inv (o := 28) (r := []) (as := [.ref 28, .int y, .int r, .int v205]) rfl rfl (hH.1 28 (9, 8) rfl) rfl rfl rfl rfl (hs_nowor111 h6 hH hT hB (v_C_ru hV) ⟨by show (0 : Int) ≤ y.toInt; omega, by show y.toInt ≤ (4 : Int); omega⟩ ⟨by show (0 : Int) ≤ r.toInt; omega, by show r.toInt ≤ (3 : Int); omega⟩ (qa_in_full _) (by omega) (fun v211 I212 J213 c_v211 _ e_I212 => ?_))
                            have e_I212 : I212 = h.2.1 := funext fun o => funext fun i => e_I212 o rfl i
                            subst e_I212
                            have b_v211 : (0 : Int) ≤ v211.toInt ∧ v211.toInt ≤ 1 := c_v211
                            refine qm_Ru.go 0 (c' := (191, [.ref 28, .int y, .int r, .int s, .int 2, .int v192, .int 2, .int 1, .int v202, .float 0], [.int v211], (h.1, h.2.1, J213, h.2.2.2))) rfl ?_
                            refine hk_zne (ix := v211.toInt) rfl rfl (fun z214 => ?_) (fun z214 => ?_)
                            · refine qm_Ru.go 0 (c' := (197, [.ref 28, .int y, .int r, .int s, .int 2, .int v192, .int 2, .int 1, .int v202, .float 0], [], (h.1, h.2.1, J213, h.2.2.2))) rfl ?_
                              exact hq_land22 (h := (h.1, h.2.1, J213, h.2.2.2)) hH hB hV (by omega) (by omega) (by omega) (fun c => absurd z200 c) (p_at q_v192 (by omega) (by omega)) (p_no q_v186 (by omega) (by omega)) (fun v I hB2 hV2 hm2 ev => k (some (.int v)) I _ ⟨_, rfl, ⟨by show (-3 : Int) ≤ v.toInt; omega, by show v.toInt ≤ (2 : Int); omega⟩⟩ hB2 hV2 hm2)
                            · refine qm_Ru.go 1 (c' := (196, [.ref 28, .int y, .int r, .int s, .int 2, .int v192, .int 2, .int 1, .int v202, .float 0], [.int (-3)], (h.1, h.2.1, J213, h.2.2.2))) rfl ?_
                              refine qm_Ru.rt (v := (some (.int (-3)))) (h' := (h.1, h.2.1, J213, h.2.2.2)) rfl ?_
                              exact k (some (.int (-3))) (h.2.1) (J213) ⟨_, rfl, ⟨by decide, by decide⟩⟩ hB hV (fun _ _ _ => rfl)
                        · refine qm_Ru.go 1 (c' := (169, [.ref 28, .int y, .int r, .int s, .int 2, .int v192, .int 2, .int 1, .int v202, .float 0], [.int (-2)], h)) rfl ?_
                          refine qm_Ru.rt (v := (some (.int (-2)))) (h' := h) rfl ?_
                          exact k (some (.int (-2))) (h.2.1) (h.2.2.1) ⟨_, rfl, ⟨by decide, by decide⟩⟩ hB hV (fun _ _ _ => rfl)
                      · refine qm_Ru.go 1 (c' := (97, [.ref 28, .int y, .int r, .int s, .int 2, .int v192, .int 2, .int 1, .float 0, .float 0], [.ref 28], h)) rfl ?_
                        refine hk_getr rfl (hH.1 28 (9, 8) rfl) rfl (hH.2 28 1 (some 15) rfl) ?_
                        refine qm_Ru.go 1 (c' := (101, [.ref 28, .int y, .int r, .int s, .int 2, .int v192, .int 2, .int 1, .float 0, .float 0], [.int s, .ref 15], h)) rfl ?_
                        refine hk_inv (o := 15) (r := []) (as := [.ref 15, .int s]) rfl rfl (hH.1 15 (15, 8) rfl) rfl rfl rfl rfl ?_
                        refine qm_Ru.go 2 (c' := (2, [.ref 15, .int s], [.ref 15, .int 4], h)) rfl ?_
                        refine hk_getr rfl (hH.1 15 (15, 8) rfl) rfl (hH.2 15 2 (some 17) rfl) ?_
                        refine qm_Ru.go 1 (c' := (6, [.ref 15, .int s], [.int s, .ref 17, .int 4], h)) rfl ?_
                        obtain ⟨v215, q_v215⟩ : ∃ v, h.2.1 17 (s.toInt.toNat) = v := ⟨_, rfl⟩
                        have b_v215 : (0 : Int) ≤ v215.toInt ∧ v215.toInt ≤ 4 := by rw [← q_v215]; exact hB 17 (s.toInt.toNat)
                        refine hk_ial (v := v215) rfl (hH.1 17 (0, 4) rfl) (by omega) (by omega) q_v215 ?_
                        refine qm_Ru.go 1 (c' := (8, [.ref 15, .int s], [.int (4 - v215)], h)) rfl ?_
                        obtain ⟨v216, q_v216, e_v216⟩ := hk_sub (x := 4) (y := v215) (a := 4) (b := v215.toInt) rfl rfl (by omega) (by omega)
                        rw [q_v216]
                        refine qm_Ru.rt (v := (some (.int v216))) (h' := h) rfl ?_
                        refine qm_Ru.go 1 (c' := (106, [.ref 28, .int y, .int r, .int s, .int 2, .int v192, .int 2, .int 1, .float 0, .float 0], [.int 1, .int v216], h)) rfl ?_
                        refine hk_cge (ix := v216.toInt) (iy := 1) rfl rfl rfl (fun z217 => ?_) (fun z217 => ?_)
                        · refine qm_Ru.go 0 (c' := (111, [.ref 28, .int y, .int r, .int s, .int 2, .int v192, .int 2, .int 1, .float 0, .float 0], [], h)) rfl ?_
                          refine qm_Ru.go 1 (c' := (112, [.ref 28, .int y, .int r, .int s, .int 2, .int v192, .int 2, .int 1, .float 0, .float 0], [.ref 28], h)) rfl ?_
                          refine hk_getr rfl (hH.1 28 (9, 8) rfl) rfl (hH.2 28 0 (some 6) rfl) ?_
                          refine qm_Ru.go 0 (c' := (115, [.ref 28, .int y, .int r, .int s, .int 2, .int v192, .int 2, .int 1, .float 0, .float 0], [.ref 6], h)) rfl ?_
                          refine hk_getr rfl (hH.1 6 (6, 9) rfl) rfl (hH.2 6 1 (some 7) rfl) ?_
                          refine qm_Ru.go 1 (c' := (120, [.ref 28, .int y, .int r, .int s, .int 2, .int v192, .int 2, .int 1, .float 0, .float 0], [.int v192, .ref 7], h)) rfl ?_
                          obtain ⟨v218, q_v218⟩ : ∃ v, h.2.1 7 (v192.toInt.toNat) = v := ⟨_, rfl⟩
                          have b_v218 : (0 : Int) ≤ v218.toInt ∧ v218.toInt ≤ 40 := by rw [← q_v218]; exact hB 7 (v192.toInt.toNat)
                          refine hk_ial (v := v218) rfl (hH.1 7 (0, 30) rfl) (by omega) (by omega) q_v218 ?_
                          refine qm_Ru.go 5 (c' := (153, [.ref 28, .int y, .int r, .int s, .int 2, .int v192, .int 2, .int 1, .float 0, .float 0], [.int (v218 + 0)], h)) rfl ?_
                          obtain ⟨v219, q_v219, e_v219⟩ := hk_add (x := v218) (y := 0) (a := v218.toInt) (b := 0) rfl rfl (by omega) (by omega)
                          rw [q_v219]
                          refine qm_Ru.go 3 (c' := (158, [.ref 28, .int y, .int r, .int s, .int 2, .int v192, .int 2, .int 1, .int v219, .float 0], [.ref 28, .int v219], h)) rfl ?_
                          refine hk_getr rfl (hH.1 28 (9, 8) rfl) rfl hT.2 ?_
                          refine qm_Ru.go 0 (c' := (161, [.ref 28, .int y, .int r, .int s, .int 2, .int v192, .int 2, .int 1, .int v219, .float 0], [.ref 111, .int v219], h)) rfl ?_
                          obtain ⟨v220, q_v220⟩ : ∃ v, h.2.1 111 4 = v := ⟨_, rfl⟩
                          refine hk_geti (v := v220) rfl (hH.1 111 (11, 16) rfl) rfl q_v220 ?_
                          refine qm_Ru.go 0 (c' := (164, [.ref 28, .int y, .int r, .int s, .int 2, .int v192, .int 2, .int 1, .int v219, .float 0], [.int v220, .int v219], h)) rfl ?_
                          refine hk_cle (ix := v219.toInt) (iy := v220.toInt) rfl rfl rfl (fun z221 => ?_) (fun z221 => ?_)
                          · refine qm_Ru.go 5 (c' := (176, [.ref 28, .int y, .int r, .int s, .int 2, .int v192, .int 2, .int 1, .int v219, .float 0], [.int (-v219), .int r, .int y, .ref 28], h)) rfl ?_
                            obtain ⟨v222, q_v222, e_v222⟩ := hk_neg (x := v219) (a := v219.toInt) rfl (by omega)
                            rw [q_v222]
                            refine hk_inv (o := 28) (r := []) (as := [.ref 28, .int y, .int r, .int v222]) rfl rfl (hH.1 28 (9, 8) rfl) rfl rfl rfl rfl (hs_borne111 h6 hH hT hB (v_C_ru hV) ⟨by show (0 : Int) ≤ y.toInt; omega, by show y.toInt ≤ (4 : Int); omega⟩ ⟨by show (0 : Int) ≤ r.toInt; omega, by show r.toInt ≤ (3 : Int); omega⟩ (qa_in_full _) (by omega) (fun v223 I224 J225 c_v223 _ e_I224 => ?_))
                            have e_I224 : I224 = h.2.1 := funext fun o => funext fun i => e_I224 o rfl i
                            subst e_I224
                            have b_v223 : (0 : Int) ≤ v223.toInt ∧ v223.toInt ≤ 1 := c_v223
                            refine qm_Ru.go 0 (c' := (179, [.ref 28, .int y, .int r, .int s, .int 2, .int v192, .int 2, .int 1, .int v219, .float 0], [.int v223], (h.1, h.2.1, J225, h.2.2.2))) rfl ?_
                            refine hk_zne (ix := v223.toInt) rfl rfl (fun z226 => ?_) (fun z226 => ?_)
                            · refine qm_Ru.go 0 (c' := (197, [.ref 28, .int y, .int r, .int s, .int 2, .int v192, .int 2, .int 1, .int v219, .float 0], [], (h.1, h.2.1, J225, h.2.2.2))) rfl ?_
                              exact hq_land22 (h := (h.1, h.2.1, J225, h.2.2.2)) hH hB hV (by omega) (by omega) (by omega) (fun _ => by rw [q_v215]; omega) (p_at q_v192 (by omega) (by omega)) (p_no q_v186 (by omega) (by omega)) (fun v I hB2 hV2 hm2 ev => k (some (.int v)) I _ ⟨_, rfl, ⟨by show (-3 : Int) ≤ v.toInt; omega, by show v.toInt ≤ (2 : Int); omega⟩⟩ hB2 hV2 hm2)
                            · refine qm_Ru.go 5 (c' := (188, [.ref 28, .int y, .int r, .int s, .int 2, .int v192, .int 2, .int 1, .int v219, .float 0], [.int (-v219), .int r, .int y, .ref 28], (h.1, h.2.1, J225, h.2.2.2))) rfl ?_
                              rw [q_v222]
                              refine hk_inv (o := 28) (r := []) (as := [.ref 28, .int y, .int r, .int v222]) rfl rfl (hH.1 28 (9, 8) rfl) rfl rfl rfl rfl (hs_nowor111 h6 hH hT hB (v_C_ru hV) ⟨by show (0 : Int) ≤ y.toInt; omega, by show y.toInt ≤ (4 : Int); omega⟩ ⟨by show (0 : Int) ≤ r.toInt; omega, by show r.toInt ≤ (3 : Int); omega⟩ (qa_in_full _) (by omega) (fun v228 I229 J230 c_v228 _ e_I229 => ?_))
                              have e_I229 : I229 = h.2.1 := funext fun o => funext fun i => e_I229 o rfl i
                              subst e_I229
                              have b_v228 : (0 : Int) ≤ v228.toInt ∧ v228.toInt ≤ 1 := c_v228
                              refine qm_Ru.go 0 (c' := (191, [.ref 28, .int y, .int r, .int s, .int 2, .int v192, .int 2, .int 1, .int v219, .float 0], [.int v228], (h.1, h.2.1, J230, h.2.2.2))) rfl ?_
                              refine hk_zne (ix := v228.toInt) rfl rfl (fun z231 => ?_) (fun z231 => ?_)
                              · refine qm_Ru.go 0 (c' := (197, [.ref 28, .int y, .int r, .int s, .int 2, .int v192, .int 2, .int 1, .int v219, .float 0], [], (h.1, h.2.1, J230, h.2.2.2))) rfl ?_
                                exact hq_land22 (h := (h.1, h.2.1, J230, h.2.2.2)) hH hB hV (by omega) (by omega) (by omega) (fun _ => by rw [q_v215]; omega) (p_at q_v192 (by omega) (by omega)) (p_no q_v186 (by omega) (by omega)) (fun v I hB2 hV2 hm2 ev => k (some (.int v)) I _ ⟨_, rfl, ⟨by show (-3 : Int) ≤ v.toInt; omega, by show v.toInt ≤ (2 : Int); omega⟩⟩ hB2 hV2 hm2)
                              · refine qm_Ru.go 1 (c' := (196, [.ref 28, .int y, .int r, .int s, .int 2, .int v192, .int 2, .int 1, .int v219, .float 0], [.int (-3)], (h.1, h.2.1, J230, h.2.2.2))) rfl ?_
                                refine qm_Ru.rt (v := (some (.int (-3)))) (h' := (h.1, h.2.1, J230, h.2.2.2)) rfl ?_
                                exact k (some (.int (-3))) (h.2.1) (J230) ⟨_, rfl, ⟨by decide, by decide⟩⟩ hB hV (fun _ _ _ => rfl)
                          · refine qm_Ru.go 1 (c' := (169, [.ref 28, .int y, .int r, .int s, .int 2, .int v192, .int 2, .int 1, .int v219, .float 0], [.int (-2)], h)) rfl ?_
                            refine qm_Ru.rt (v := (some (.int (-2)))) (h' := h) rfl ?_
                            exact k (some (.int (-2))) (h.2.1) (h.2.2.1) ⟨_, rfl, ⟨by decide, by decide⟩⟩ hB hV (fun _ _ _ => rfl)
                        · refine qm_Ru.go 1 (c' := (110, [.ref 28, .int y, .int r, .int s, .int 2, .int v192, .int 2, .int 1, .float 0, .float 0], [.int (-1)], h)) rfl ?_
                          refine qm_Ru.rt (v := (some (.int (-1)))) (h' := h) rfl ?_
                          exact k (some (.int (-1))) (h.2.1) (h.2.2.1) ⟨_, rfl, ⟨by decide, by decide⟩⟩ hB hV (fun _ _ _ => rfl)
                    · refine qm_Ru.go 3 (c' := (65, [.ref 28, .int y, .int r, .int s, .int 2, .int v192, .float 0, .float 0, .float 0, .float 0], [.int y, .ref 28, .int 2], h)) rfl ?_
                      refine hk_inv (o := 28) (r := [.int 2]) (as := [.ref 28, .int y]) rfl rfl (hH.1 28 (9, 8) rfl) rfl rfl rfl rfl ?_
                      refine qm_Ru.go 2 (c' := (2, [.ref 28, .int y], [.int y, .ref 28], h)) rfl ?_
                      refine hk_inv (o := 28) (r := []) (as := [.ref 28, .int y]) rfl rfl (hH.1 28 (9, 8) rfl) rfl rfl rfl rfl ?_
                      refine qm_Ru.go 1 (c' := (1, [.ref 28, .int y], [.ref 28], h)) rfl ?_
                      refine hk_geti (v := v8) rfl (hH.1 28 (9, 8) rfl) rfl q_v8 ?_
                      refine qm_Ru.go 2 (c' := (6, [.ref 28, .int y], [.int (v8 >>> (y &&& 31))], h)) rfl ?_
                      rw [q_v9]
                      refine qm_Ru.go 2 (c' := (8, [.ref 28, .int y], [.int (v9 &&& 1)], h)) rfl ?_
                      rw [q_v10]
                      refine qm_Ru.go 1 (c' := (9, [.ref 28, .int y], [.int 1, .int v10], h)) rfl ?_
                      refine hk_cne (ix := v10.toInt) (iy := 1) rfl rfl rfl (fun z234 => by exfalso; omega) (fun z234 => ?_)
                      refine qm_Ru.go 2 (c' := (17, [.ref 28, .int y], [.int 1], h)) rfl ?_
                      refine qm_Ru.rt (v := (some (.int 1))) (h' := h) rfl ?_
                      refine qm_Ru.go 3 (c' := (13, [.ref 28, .int y], [.int 2], h)) rfl ?_
                      refine qm_Ru.rt (v := (some (.int 2))) (h' := h) rfl ?_
                      refine qm_Ru.go 11 (c' := (93, [.ref 28, .int y, .int r, .int s, .int 2, .int v192, .int 2, .int 1, .float 0, .float 0], [.int (-1), .int s], h)) rfl ?_
                      refine hk_ceq (ix := s.toInt) (iy := (-1)) rfl rfl rfl (fun z235 => ?_) (fun z235 => ?_)
                      · refine qm_Ru.go 0 (c' := (111, [.ref 28, .int y, .int r, .int s, .int 2, .int v192, .int 2, .int 1, .float 0, .float 0], [], h)) rfl ?_
                        refine qm_Ru.go 1 (c' := (112, [.ref 28, .int y, .int r, .int s, .int 2, .int v192, .int 2, .int 1, .float 0, .float 0], [.ref 28], h)) rfl ?_
                        refine hk_getr rfl (hH.1 28 (9, 8) rfl) rfl (hH.2 28 0 (some 6) rfl) ?_
                        refine qm_Ru.go 0 (c' := (115, [.ref 28, .int y, .int r, .int s, .int 2, .int v192, .int 2, .int 1, .float 0, .float 0], [.ref 6], h)) rfl ?_
                        refine hk_getr rfl (hH.1 6 (6, 9) rfl) rfl (hH.2 6 1 (some 7) rfl) ?_
                        refine qm_Ru.go 1 (c' := (120, [.ref 28, .int y, .int r, .int s, .int 2, .int v192, .int 2, .int 1, .float 0, .float 0], [.int v192, .ref 7], h)) rfl ?_
                        obtain ⟨v236, q_v236⟩ : ∃ v, h.2.1 7 (v192.toInt.toNat) = v := ⟨_, rfl⟩
                        have b_v236 : (0 : Int) ≤ v236.toInt ∧ v236.toInt ≤ 40 := by rw [← q_v236]; exact hB 7 (v192.toInt.toNat)
                        refine hk_ial (v := v236) rfl (hH.1 7 (0, 30) rfl) (by omega) (by omega) q_v236 ?_
                        refine qm_Ru.go 5 (c' := (153, [.ref 28, .int y, .int r, .int s, .int 2, .int v192, .int 2, .int 1, .float 0, .float 0], [.int (v236 + 0)], h)) rfl ?_
                        obtain ⟨v237, q_v237, e_v237⟩ := hk_add (x := v236) (y := 0) (a := v236.toInt) (b := 0) rfl rfl (by omega) (by omega)
                        rw [q_v237]
                        refine qm_Ru.go 3 (c' := (158, [.ref 28, .int y, .int r, .int s, .int 2, .int v192, .int 2, .int 1, .int v237, .float 0], [.ref 28, .int v237], h)) rfl ?_
                        refine hk_getr rfl (hH.1 28 (9, 8) rfl) rfl hT.2 ?_
                        refine qm_Ru.go 0 (c' := (161, [.ref 28, .int y, .int r, .int s, .int 2, .int v192, .int 2, .int 1, .int v237, .float 0], [.ref 111, .int v237], h)) rfl ?_
                        obtain ⟨v238, q_v238⟩ : ∃ v, h.2.1 111 4 = v := ⟨_, rfl⟩
                        refine hk_geti (v := v238) rfl (hH.1 111 (11, 16) rfl) rfl q_v238 ?_
                        refine qm_Ru.go 0 (c' := (164, [.ref 28, .int y, .int r, .int s, .int 2, .int v192, .int 2, .int 1, .int v237, .float 0], [.int v238, .int v237], h)) rfl ?_
                        refine hk_cle (ix := v237.toInt) (iy := v238.toInt) rfl rfl rfl (fun z239 => ?_) (fun z239 => ?_)
                        · refine qm_Ru.go 5 (c' := (176, [.ref 28, .int y, .int r, .int s, .int 2, .int v192, .int 2, .int 1, .int v237, .float 0], [.int (-v237), .int r, .int y, .ref 28], h)) rfl ?_
                          obtain ⟨v240, q_v240, e_v240⟩ := hk_neg (x := v237) (a := v237.toInt) rfl (by omega)
                          rw [q_v240]
                          refine hk_inv (o := 28) (r := []) (as := [.ref 28, .int y, .int r, .int v240]) rfl rfl (hH.1 28 (9, 8) rfl) rfl rfl rfl rfl (hs_borne111 h6 hH hT hB (v_C_ru hV) ⟨by show (0 : Int) ≤ y.toInt; omega, by show y.toInt ≤ (4 : Int); omega⟩ ⟨by show (0 : Int) ≤ r.toInt; omega, by show r.toInt ≤ (3 : Int); omega⟩ (qa_in_full _) (by omega) (fun v241 I242 J243 c_v241 _ e_I242 => ?_))
                          have e_I242 : I242 = h.2.1 := funext fun o => funext fun i => e_I242 o rfl i
                          subst e_I242
                          have b_v241 : (0 : Int) ≤ v241.toInt ∧ v241.toInt ≤ 1 := c_v241
                          refine qm_Ru.go 0 (c' := (179, [.ref 28, .int y, .int r, .int s, .int 2, .int v192, .int 2, .int 1, .int v237, .float 0], [.int v241], (h.1, h.2.1, J243, h.2.2.2))) rfl ?_
                          refine hk_zne (ix := v241.toInt) rfl rfl (fun z244 => ?_) (fun z244 => ?_)
                          · refine qm_Ru.go 0 (c' := (197, [.ref 28, .int y, .int r, .int s, .int 2, .int v192, .int 2, .int 1, .int v237, .float 0], [], (h.1, h.2.1, J243, h.2.2.2))) rfl ?_
                            exact hq_land22 (h := (h.1, h.2.1, J243, h.2.2.2)) hH hB hV (by omega) (by omega) (by omega) (fun c => absurd z235 c) (p_at q_v192 (by omega) (by omega)) (p_no q_v186 (by omega) (by omega)) (fun v I hB2 hV2 hm2 ev => k (some (.int v)) I _ ⟨_, rfl, ⟨by show (-3 : Int) ≤ v.toInt; omega, by show v.toInt ≤ (2 : Int); omega⟩⟩ hB2 hV2 hm2)
                          · refine qm_Ru.go 5 (c' := (188, [.ref 28, .int y, .int r, .int s, .int 2, .int v192, .int 2, .int 1, .int v237, .float 0], [.int (-v237), .int r, .int y, .ref 28], (h.1, h.2.1, J243, h.2.2.2))) rfl ?_
                            rw [q_v240]
                            refine hk_inv (o := 28) (r := []) (as := [.ref 28, .int y, .int r, .int v240]) rfl rfl (hH.1 28 (9, 8) rfl) rfl rfl rfl rfl (hs_nowor111 h6 hH hT hB (v_C_ru hV) ⟨by show (0 : Int) ≤ y.toInt; omega, by show y.toInt ≤ (4 : Int); omega⟩ ⟨by show (0 : Int) ≤ r.toInt; omega, by show r.toInt ≤ (3 : Int); omega⟩ (qa_in_full _) (by omega) (fun v246 I247 J248 c_v246 _ e_I247 => ?_))
                            have e_I247 : I247 = h.2.1 := funext fun o => funext fun i => e_I247 o rfl i
                            subst e_I247
                            have b_v246 : (0 : Int) ≤ v246.toInt ∧ v246.toInt ≤ 1 := c_v246
                            refine qm_Ru.go 0 (c' := (191, [.ref 28, .int y, .int r, .int s, .int 2, .int v192, .int 2, .int 1, .int v237, .float 0], [.int v246], (h.1, h.2.1, J248, h.2.2.2))) rfl ?_
                            refine hk_zne (ix := v246.toInt) rfl rfl (fun z249 => ?_) (fun z249 => ?_)
                            · refine qm_Ru.go 0 (c' := (197, [.ref 28, .int y, .int r, .int s, .int 2, .int v192, .int 2, .int 1, .int v237, .float 0], [], (h.1, h.2.1, J248, h.2.2.2))) rfl ?_
                              exact hq_land22 (h := (h.1, h.2.1, J248, h.2.2.2)) hH hB hV (by omega) (by omega) (by omega) (fun c => absurd z235 c) (p_at q_v192 (by omega) (by omega)) (p_no q_v186 (by omega) (by omega)) (fun v I hB2 hV2 hm2 ev => k (some (.int v)) I _ ⟨_, rfl, ⟨by show (-3 : Int) ≤ v.toInt; omega, by show v.toInt ≤ (2 : Int); omega⟩⟩ hB2 hV2 hm2)
                            · refine qm_Ru.go 1 (c' := (196, [.ref 28, .int y, .int r, .int s, .int 2, .int v192, .int 2, .int 1, .int v237, .float 0], [.int (-3)], (h.1, h.2.1, J248, h.2.2.2))) rfl ?_
                              refine qm_Ru.rt (v := (some (.int (-3)))) (h' := (h.1, h.2.1, J248, h.2.2.2)) rfl ?_
                              exact k (some (.int (-3))) (h.2.1) (J248) ⟨_, rfl, ⟨by decide, by decide⟩⟩ hB hV (fun _ _ _ => rfl)
                        · refine qm_Ru.go 1 (c' := (169, [.ref 28, .int y, .int r, .int s, .int 2, .int v192, .int 2, .int 1, .int v237, .float 0], [.int (-2)], h)) rfl ?_
                          refine qm_Ru.rt (v := (some (.int (-2)))) (h' := h) rfl ?_
                          exact k (some (.int (-2))) (h.2.1) (h.2.2.1) ⟨_, rfl, ⟨by decide, by decide⟩⟩ hB hV (fun _ _ _ => rfl)
                      · refine qm_Ru.go 1 (c' := (97, [.ref 28, .int y, .int r, .int s, .int 2, .int v192, .int 2, .int 1, .float 0, .float 0], [.ref 28], h)) rfl ?_
                        refine hk_getr rfl (hH.1 28 (9, 8) rfl) rfl (hH.2 28 1 (some 15) rfl) ?_
                        refine qm_Ru.go 1 (c' := (101, [.ref 28, .int y, .int r, .int s, .int 2, .int v192, .int 2, .int 1, .float 0, .float 0], [.int s, .ref 15], h)) rfl ?_
                        refine hk_inv (o := 15) (r := []) (as := [.ref 15, .int s]) rfl rfl (hH.1 15 (15, 8) rfl) rfl rfl rfl rfl ?_
                        refine qm_Ru.go 2 (c' := (2, [.ref 15, .int s], [.ref 15, .int 4], h)) rfl ?_
                        refine hk_getr rfl (hH.1 15 (15, 8) rfl) rfl (hH.2 15 2 (some 17) rfl) ?_
                        refine qm_Ru.go 1 (c' := (6, [.ref 15, .int s], [.int s, .ref 17, .int 4], h)) rfl ?_
                        obtain ⟨v250, q_v250⟩ : ∃ v, h.2.1 17 (s.toInt.toNat) = v := ⟨_, rfl⟩
                        have b_v250 : (0 : Int) ≤ v250.toInt ∧ v250.toInt ≤ 4 := by rw [← q_v250]; exact hB 17 (s.toInt.toNat)
                        refine hk_ial (v := v250) rfl (hH.1 17 (0, 4) rfl) (by omega) (by omega) q_v250 ?_
                        refine qm_Ru.go 1 (c' := (8, [.ref 15, .int s], [.int (4 - v250)], h)) rfl ?_
                        obtain ⟨v251, q_v251, e_v251⟩ := hk_sub (x := 4) (y := v250) (a := 4) (b := v250.toInt) rfl rfl (by omega) (by omega)
                        rw [q_v251]
                        refine qm_Ru.rt (v := (some (.int v251))) (h' := h) rfl ?_
                        refine qm_Ru.go 1 (c' := (106, [.ref 28, .int y, .int r, .int s, .int 2, .int v192, .int 2, .int 1, .float 0, .float 0], [.int 1, .int v251], h)) rfl ?_
                        refine hk_cge (ix := v251.toInt) (iy := 1) rfl rfl rfl (fun z252 => ?_) (fun z252 => ?_)
                        · refine qm_Ru.go 0 (c' := (111, [.ref 28, .int y, .int r, .int s, .int 2, .int v192, .int 2, .int 1, .float 0, .float 0], [], h)) rfl ?_
                          refine qm_Ru.go 1 (c' := (112, [.ref 28, .int y, .int r, .int s, .int 2, .int v192, .int 2, .int 1, .float 0, .float 0], [.ref 28], h)) rfl ?_
                          refine hk_getr rfl (hH.1 28 (9, 8) rfl) rfl (hH.2 28 0 (some 6) rfl) ?_
                          refine qm_Ru.go 0 (c' := (115, [.ref 28, .int y, .int r, .int s, .int 2, .int v192, .int 2, .int 1, .float 0, .float 0], [.ref 6], h)) rfl ?_
                          refine hk_getr rfl (hH.1 6 (6, 9) rfl) rfl (hH.2 6 1 (some 7) rfl) ?_
                          refine qm_Ru.go 1 (c' := (120, [.ref 28, .int y, .int r, .int s, .int 2, .int v192, .int 2, .int 1, .float 0, .float 0], [.int v192, .ref 7], h)) rfl ?_
                          obtain ⟨v253, q_v253⟩ : ∃ v, h.2.1 7 (v192.toInt.toNat) = v := ⟨_, rfl⟩
                          have b_v253 : (0 : Int) ≤ v253.toInt ∧ v253.toInt ≤ 40 := by rw [← q_v253]; exact hB 7 (v192.toInt.toNat)
                          refine hk_ial (v := v253) rfl (hH.1 7 (0, 30) rfl) (by omega) (by omega) q_v253 ?_
                          refine qm_Ru.go 5 (c' := (153, [.ref 28, .int y, .int r, .int s, .int 2, .int v192, .int 2, .int 1, .float 0, .float 0], [.int (v253 + 0)], h)) rfl ?_
                          obtain ⟨v254, q_v254, e_v254⟩ := hk_add (x := v253) (y := 0) (a := v253.toInt) (b := 0) rfl rfl (by omega) (by omega)
                          rw [q_v254]
                          refine qm_Ru.go 3 (c' := (158, [.ref 28, .int y, .int r, .int s, .int 2, .int v192, .int 2, .int 1, .int v254, .float 0], [.ref 28, .int v254], h)) rfl ?_
                          refine hk_getr rfl (hH.1 28 (9, 8) rfl) rfl hT.2 ?_
                          refine qm_Ru.go 0 (c' := (161, [.ref 28, .int y, .int r, .int s, .int 2, .int v192, .int 2, .int 1, .int v254, .float 0], [.ref 111, .int v254], h)) rfl ?_
                          obtain ⟨v255, q_v255⟩ : ∃ v, h.2.1 111 4 = v := ⟨_, rfl⟩
                          refine hk_geti (v := v255) rfl (hH.1 111 (11, 16) rfl) rfl q_v255 ?_
                          refine qm_Ru.go 0 (c' := (164, [.ref 28, .int y, .int r, .int s, .int 2, .int v192, .int 2, .int 1, .int v254, .float 0], [.int v255, .int v254], h)) rfl ?_
                          refine hk_cle (ix := v254.toInt) (iy := v255.toInt) rfl rfl rfl (fun z256 => ?_) (fun z256 => ?_)
                          · refine qm_Ru.go 5 (c' := (176, [.ref 28, .int y, .int r, .int s, .int 2, .int v192, .int 2, .int 1, .int v254, .float 0], [.int (-v254), .int r, .int y, .ref 28], h)) rfl ?_
                            obtain ⟨v257, q_v257, e_v257⟩ := hk_neg (x := v254) (a := v254.toInt) rfl (by omega)
                            rw [q_v257]
                            refine hk_inv (o := 28) (r := []) (as := [.ref 28, .int y, .int r, .int v257]) rfl rfl (hH.1 28 (9, 8) rfl) rfl rfl rfl rfl (hs_borne111 h6 hH hT hB (v_C_ru hV) ⟨by show (0 : Int) ≤ y.toInt; omega, by show y.toInt ≤ (4 : Int); omega⟩ ⟨by show (0 : Int) ≤ r.toInt; omega, by show r.toInt ≤ (3 : Int); omega⟩ (qa_in_full _) (by omega) (fun v258 I259 J260 c_v258 _ e_I259 => ?_))
                            have e_I259 : I259 = h.2.1 := funext fun o => funext fun i => e_I259 o rfl i
                            subst e_I259
                            have b_v258 : (0 : Int) ≤ v258.toInt ∧ v258.toInt ≤ 1 := c_v258
                            refine qm_Ru.go 0 (c' := (179, [.ref 28, .int y, .int r, .int s, .int 2, .int v192, .int 2, .int 1, .int v254, .float 0], [.int v258], (h.1, h.2.1, J260, h.2.2.2))) rfl ?_
                            refine hk_zne (ix := v258.toInt) rfl rfl (fun z261 => ?_) (fun z261 => ?_)
                            · refine qm_Ru.go 0 (c' := (197, [.ref 28, .int y, .int r, .int s, .int 2, .int v192, .int 2, .int 1, .int v254, .float 0], [], (h.1, h.2.1, J260, h.2.2.2))) rfl ?_
                              exact hq_land22 (h := (h.1, h.2.1, J260, h.2.2.2)) hH hB hV (by omega) (by omega) (by omega) (fun _ => by rw [q_v250]; omega) (p_at q_v192 (by omega) (by omega)) (p_no q_v186 (by omega) (by omega)) (fun v I hB2 hV2 hm2 ev => k (some (.int v)) I _ ⟨_, rfl, ⟨by show (-3 : Int) ≤ v.toInt; omega, by show v.toInt ≤ (2 : Int); omega⟩⟩ hB2 hV2 hm2)
                            · refine qm_Ru.go 5 (c' := (188, [.ref 28, .int y, .int r, .int s, .int 2, .int v192, .int 2, .int 1, .int v254, .float 0], [.int (-v254), .int r, .int y, .ref 28], (h.1, h.2.1, J260, h.2.2.2))) rfl ?_
                              rw [q_v257]
                              refine hk_inv (o := 28) (r := []) (as := [.ref 28, .int y, .int r, .int v257]) rfl rfl (hH.1 28 (9, 8) rfl) rfl rfl rfl rfl (hs_nowor111 h6 hH hT hB (v_C_ru hV) ⟨by show (0 : Int) ≤ y.toInt; omega, by show y.toInt ≤ (4 : Int); omega⟩ ⟨by show (0 : Int) ≤ r.toInt; omega, by show r.toInt ≤ (3 : Int); omega⟩ (qa_in_full _) (by omega) (fun v263 I264 J265 c_v263 _ e_I264 => ?_))
                              have e_I264 : I264 = h.2.1 := funext fun o => funext fun i => e_I264 o rfl i
                              subst e_I264
                              have b_v263 : (0 : Int) ≤ v263.toInt ∧ v263.toInt ≤ 1 := c_v263
                              refine qm_Ru.go 0 (c' := (191, [.ref 28, .int y, .int r, .int s, .int 2, .int v192, .int 2, .int 1, .int v254, .float 0], [.int v263], (h.1, h.2.1, J265, h.2.2.2))) rfl ?_
                              refine hk_zne (ix := v263.toInt) rfl rfl (fun z266 => ?_) (fun z266 => ?_)
                              · refine qm_Ru.go 0 (c' := (197, [.ref 28, .int y, .int r, .int s, .int 2, .int v192, .int 2, .int 1, .int v254, .float 0], [], (h.1, h.2.1, J265, h.2.2.2))) rfl ?_
                                exact hq_land22 (h := (h.1, h.2.1, J265, h.2.2.2)) hH hB hV (by omega) (by omega) (by omega) (fun _ => by rw [q_v250]; omega) (p_at q_v192 (by omega) (by omega)) (p_no q_v186 (by omega) (by omega)) (fun v I hB2 hV2 hm2 ev => k (some (.int v)) I _ ⟨_, rfl, ⟨by show (-3 : Int) ≤ v.toInt; omega, by show v.toInt ≤ (2 : Int); omega⟩⟩ hB2 hV2 hm2)
                              · refine qm_Ru.go 1 (c' := (196, [.ref 28, .int y, .int r, .int s, .int 2, .int v192, .int 2, .int 1, .int v254, .float 0], [.int (-3)], (h.1, h.2.1, J265, h.2.2.2))) rfl ?_
                                refine qm_Ru.rt (v := (some (.int (-3)))) (h' := (h.1, h.2.1, J265, h.2.2.2)) rfl ?_
                                exact k (some (.int (-3))) (h.2.1) (J265) ⟨_, rfl, ⟨by decide, by decide⟩⟩ hB hV (fun _ _ _ => rfl)
                          · refine qm_Ru.go 1 (c' := (169, [.ref 28, .int y, .int r, .int s, .int 2, .int v192, .int 2, .int 1, .int v254, .float 0], [.int (-2)], h)) rfl ?_
                            refine qm_Ru.rt (v := (some (.int (-2)))) (h' := h) rfl ?_
                            exact k (some (.int (-2))) (h.2.1) (h.2.2.1) ⟨_, rfl, ⟨by decide, by decide⟩⟩ hB hV (fun _ _ _ => rfl)
                        · refine qm_Ru.go 1 (c' := (110, [.ref 28, .int y, .int r, .int s, .int 2, .int v192, .int 2, .int 1, .float 0, .float 0], [.int (-1)], h)) rfl ?_
                          refine qm_Ru.rt (v := (some (.int (-1)))) (h' := h) rfl ?_
                          exact k (some (.int (-1))) (h.2.1) (h.2.2.1) ⟨_, rfl, ⟨by decide, by decide⟩⟩ hB hV (fun _ _ _ => rfl)
                · refine qm_Ru.go 3 (c' := (26, [.ref 28, .int y, .int r, .int 2], [.int 3], h)) rfl ?_
                  refine qm_Ru.rt (v := (some (.int 3))) (h' := h) rfl ?_
                  refine qm_Ru.go 5 (c' := (35, [.ref 28, .int y, .int r, .int s, .int 3, .float 0, .float 0, .float 0, .float 0, .float 0], [.ref 28], h)) rfl ?_
                  refine hk_getr rfl (hH.1 28 (9, 8) rfl) rfl (hH.2 28 3 (some 36) rfl) ?_
                  refine qm_Ru.go 3 (c' := (42, [.ref 28, .int y, .int r, .int s, .int 3, .float 0, .float 0, .float 0, .float 0, .float 0], [.int 3, .int r, .int y, .ref 36], h)) rfl ?_
                  refine qm_Ru.call (j := 75) (as := [.int y, .int r, .int 3]) (c' := (45, [.ref 28, .int y, .int r, .int s, .int 3, .float 0, .float 0, .float 0, .float 0, .float 0], [.ref 36], h)) rfl rfl rfl ?_
                  refine qm_Ru.go 3 (c' := (3, [.int y, .int r, .int 3], [.int (y * 4)], h)) rfl ?_
                  rw [q_v182]
                  refine qm_Ru.go 2 (c' := (5, [.int y, .int r, .int 3], [.int (v182 + r)], h)) rfl ?_
                  rw [q_v183]
                  refine qm_Ru.go 2 (c' := (7, [.int y, .int r, .int 3], [.int (v183 * 4)], h)) rfl ?_
                  rw [q_v184]
                  refine qm_Ru.go 2 (c' := (9, [.int y, .int r, .int 3], [.int (v184 + 3)], h)) rfl ?_
                  rw [q_v185]
                  refine qm_Ru.rt (v := (some (.int v185))) (h' := h) rfl ?_
                  refine qm_Ru.go 0 (c' := (45, [.ref 28, .int y, .int r, .int s, .int 3, .float 0, .float 0, .float 0, .float 0, .float 0], [.int v185, .ref 36], h)) rfl ?_
                  refine hk_ial (v := v186) rfl (hH.1 36 (0, 80) rfl) (by omega) (by omega) q_v186 ?_
                  refine qm_Ru.go 2 (c' := (49, [.ref 28, .int y, .int r, .int s, .int 3, .int v186, .float 0, .float 0, .float 0, .float 0], [.ref 28], h)) rfl ?_
                  refine hk_getr rfl (hH.1 28 (9, 8) rfl) rfl (hH.2 28 0 (some 6) rfl) ?_
                  refine qm_Ru.go 0 (c' := (52, [.ref 28, .int y, .int r, .int s, .int 3, .int v186, .float 0, .float 0, .float 0, .float 0], [.ref 6], h)) rfl ?_
                  refine hk_getr rfl (hH.1 6 (6, 9) rfl) rfl (hH.2 6 4 (some 10) rfl) ?_
                  refine qm_Ru.go 1 (c' := (57, [.ref 28, .int y, .int r, .int s, .int 3, .int v186, .float 0, .float 0, .float 0, .float 0], [.int v186, .ref 10], h)) rfl ?_
                  obtain ⟨v271, q_v271⟩ : ∃ v, h.2.1 10 (v186.toInt.toNat) = v := ⟨_, rfl⟩
                  have b_v271 : (0 : Int) ≤ v271.toInt ∧ v271.toInt ≤ 1 := by rw [← q_v271]; exact hB 10 (v186.toInt.toNat)
                  refine hk_bal (v := v271) rfl (hH.1 10 (2, 30) rfl) (by decide) (by omega) (by omega) q_v271 ?_
                  refine qm_Ru.go 0 (c' := (58, [.ref 28, .int y, .int r, .int s, .int 3, .int v186, .float 0, .float 0, .float 0, .float 0], [.int v271], h)) rfl ?_
                  refine hk_zeq (ix := v271.toInt) rfl rfl (fun z272 => ?_) (fun z272 => ?_)
                  · refine qm_Ru.go 10 (c' := (93, [.ref 28, .int y, .int r, .int s, .int 3, .int v186, .int 3, .int 1, .float 0, .float 0], [.int (-1), .int s], h)) rfl ?_
                    refine hk_ceq (ix := s.toInt) (iy := (-1)) rfl rfl rfl (fun z273 => ?_) (fun z273 => ?_)
                    · refine qm_Ru.go 0 (c' := (111, [.ref 28, .int y, .int r, .int s, .int 3, .int v186, .int 3, .int 1, .float 0, .float 0], [], h)) rfl ?_
                      refine qm_Ru.go 1 (c' := (112, [.ref 28, .int y, .int r, .int s, .int 3, .int v186, .int 3, .int 1, .float 0, .float 0], [.ref 28], h)) rfl ?_
                      refine hk_getr rfl (hH.1 28 (9, 8) rfl) rfl (hH.2 28 0 (some 6) rfl) ?_
                      refine qm_Ru.go 0 (c' := (115, [.ref 28, .int y, .int r, .int s, .int 3, .int v186, .int 3, .int 1, .float 0, .float 0], [.ref 6], h)) rfl ?_
                      refine hk_getr rfl (hH.1 6 (6, 9) rfl) rfl (hH.2 6 1 (some 7) rfl) ?_
                      refine qm_Ru.go 1 (c' := (120, [.ref 28, .int y, .int r, .int s, .int 3, .int v186, .int 3, .int 1, .float 0, .float 0], [.int v186, .ref 7], h)) rfl ?_
                      obtain ⟨v274, q_v274⟩ : ∃ v, h.2.1 7 (v186.toInt.toNat) = v := ⟨_, rfl⟩
                      have b_v274 : (0 : Int) ≤ v274.toInt ∧ v274.toInt ≤ 40 := by rw [← q_v274]; exact hB 7 (v186.toInt.toNat)
                      refine hk_ial (v := v274) rfl (hH.1 7 (0, 30) rfl) (by omega) (by omega) q_v274 ?_
                      refine qm_Ru.go 5 (c' := (153, [.ref 28, .int y, .int r, .int s, .int 3, .int v186, .int 3, .int 1, .float 0, .float 0], [.int (v274 + 0)], h)) rfl ?_
                      obtain ⟨v275, q_v275, e_v275⟩ := hk_add (x := v274) (y := 0) (a := v274.toInt) (b := 0) rfl rfl (by omega) (by omega)
                      rw [q_v275]
                      refine qm_Ru.go 3 (c' := (158, [.ref 28, .int y, .int r, .int s, .int 3, .int v186, .int 3, .int 1, .int v275, .float 0], [.ref 28, .int v275], h)) rfl ?_
                      refine hk_getr rfl (hH.1 28 (9, 8) rfl) rfl hT.2 ?_
                      refine qm_Ru.go 0 (c' := (161, [.ref 28, .int y, .int r, .int s, .int 3, .int v186, .int 3, .int 1, .int v275, .float 0], [.ref 111, .int v275], h)) rfl ?_
                      obtain ⟨v276, q_v276⟩ : ∃ v, h.2.1 111 4 = v := ⟨_, rfl⟩
                      refine hk_geti (v := v276) rfl (hH.1 111 (11, 16) rfl) rfl q_v276 ?_
                      refine qm_Ru.go 0 (c' := (164, [.ref 28, .int y, .int r, .int s, .int 3, .int v186, .int 3, .int 1, .int v275, .float 0], [.int v276, .int v275], h)) rfl ?_
                      refine hk_cle (ix := v275.toInt) (iy := v276.toInt) rfl rfl rfl (fun z277 => ?_) (fun z277 => ?_)
                      · refine qm_Ru.go 5 (c' := (176, [.ref 28, .int y, .int r, .int s, .int 3, .int v186, .int 3, .int 1, .int v275, .float 0], [.int (-v275), .int r, .int y, .ref 28], h)) rfl ?_
                        obtain ⟨v278, q_v278, e_v278⟩ := hk_neg (x := v275) (a := v275.toInt) rfl (by omega)
                        rw [q_v278]
                        refine hk_inv (o := 28) (r := []) (as := [.ref 28, .int y, .int r, .int v278]) rfl rfl (hH.1 28 (9, 8) rfl) rfl rfl rfl rfl (hs_borne111 h6 hH hT hB (v_C_ru hV) ⟨by show (0 : Int) ≤ y.toInt; omega, by show y.toInt ≤ (4 : Int); omega⟩ ⟨by show (0 : Int) ≤ r.toInt; omega, by show r.toInt ≤ (3 : Int); omega⟩ (qa_in_full _) (by omega) (fun v279 I280 J281 c_v279 _ e_I280 => ?_))
                        have e_I280 : I280 = h.2.1 := funext fun o => funext fun i => e_I280 o rfl i
                        subst e_I280
                        have b_v279 : (0 : Int) ≤ v279.toInt ∧ v279.toInt ≤ 1 := c_v279
                        refine qm_Ru.go 0 (c' := (179, [.ref 28, .int y, .int r, .int s, .int 3, .int v186, .int 3, .int 1, .int v275, .float 0], [.int v279], (h.1, h.2.1, J281, h.2.2.2))) rfl ?_
                        refine hk_zne (ix := v279.toInt) rfl rfl (fun z282 => ?_) (fun z282 => ?_)
                        · refine qm_Ru.go 0 (c' := (197, [.ref 28, .int y, .int r, .int s, .int 3, .int v186, .int 3, .int 1, .int v275, .float 0], [], (h.1, h.2.1, J281, h.2.2.2))) rfl ?_
                          exact hq_land33 (h := (h.1, h.2.1, J281, h.2.2.2)) hH hB hV (by omega) (by omega) (by omega) (fun c => absurd z273 c) (p_at q_v186 (by omega) (by omega)) (fun v I hB2 hV2 hm2 ev => k (some (.int v)) I _ ⟨_, rfl, ⟨by show (-3 : Int) ≤ v.toInt; omega, by show v.toInt ≤ (2 : Int); omega⟩⟩ hB2 hV2 hm2)
                        · refine qm_Ru.go 5 (c' := (188, [.ref 28, .int y, .int r, .int s, .int 3, .int v186, .int 3, .int 1, .int v275, .float 0], [.int (-v275), .int r, .int y, .ref 28], (h.1, h.2.1, J281, h.2.2.2))) rfl ?_
                          rw [q_v278]
                          refine hk_inv (o := 28) (r := []) (as := [.ref 28, .int y, .int r, .int v278]) rfl rfl (hH.1 28 (9, 8) rfl) rfl rfl rfl rfl (hs_nowor111 h6 hH hT hB (v_C_ru hV) ⟨by show (0 : Int) ≤ y.toInt; omega, by show y.toInt ≤ (4 : Int); omega⟩ ⟨by show (0 : Int) ≤ r.toInt; omega, by show r.toInt ≤ (3 : Int); omega⟩ (qa_in_full _) (by omega) (fun v284 I285 J286 c_v284 _ e_I285 => ?_))
                          have e_I285 : I285 = h.2.1 := funext fun o => funext fun i => e_I285 o rfl i
                          subst e_I285
                          have b_v284 : (0 : Int) ≤ v284.toInt ∧ v284.toInt ≤ 1 := c_v284
                          refine qm_Ru.go 0 (c' := (191, [.ref 28, .int y, .int r, .int s, .int 3, .int v186, .int 3, .int 1, .int v275, .float 0], [.int v284], (h.1, h.2.1, J286, h.2.2.2))) rfl ?_
                          refine hk_zne (ix := v284.toInt) rfl rfl (fun z287 => ?_) (fun z287 => ?_)
                          · refine qm_Ru.go 0 (c' := (197, [.ref 28, .int y, .int r, .int s, .int 3, .int v186, .int 3, .int 1, .int v275, .float 0], [], (h.1, h.2.1, J286, h.2.2.2))) rfl ?_
                            exact hq_land33 (h := (h.1, h.2.1, J286, h.2.2.2)) hH hB hV (by omega) (by omega) (by omega) (fun c => absurd z273 c) (p_at q_v186 (by omega) (by omega)) (fun v I hB2 hV2 hm2 ev => k (some (.int v)) I _ ⟨_, rfl, ⟨by show (-3 : Int) ≤ v.toInt; omega, by show v.toInt ≤ (2 : Int); omega⟩⟩ hB2 hV2 hm2)
                          · refine qm_Ru.go 1 (c' := (196, [.ref 28, .int y, .int r, .int s, .int 3, .int v186, .int 3, .int 1, .int v275, .float 0], [.int (-3)], (h.1, h.2.1, J286, h.2.2.2))) rfl ?_
                            refine qm_Ru.rt (v := (some (.int (-3)))) (h' := (h.1, h.2.1, J286, h.2.2.2)) rfl ?_
                            exact k (some (.int (-3))) (h.2.1) (J286) ⟨_, rfl, ⟨by decide, by decide⟩⟩ hB hV (fun _ _ _ => rfl)
                      · refine qm_Ru.go 1 (c' := (169, [.ref 28, .int y, .int r, .int s, .int 3, .int v186, .int 3, .int 1, .int v275, .float 0], [.int (-2)], h)) rfl ?_
                        refine qm_Ru.rt (v := (some (.int (-2)))) (h' := h) rfl ?_
                        exact k (some (.int (-2))) (h.2.1) (h.2.2.1) ⟨_, rfl, ⟨by decide, by decide⟩⟩ hB hV (fun _ _ _ => rfl)
                    · refine qm_Ru.go 1 (c' := (97, [.ref 28, .int y, .int r, .int s, .int 3, .int v186, .int 3, .int 1, .float 0, .float 0], [.ref 28], h)) rfl ?_
                      refine hk_getr rfl (hH.1 28 (9, 8) rfl) rfl (hH.2 28 1 (some 15) rfl) ?_
                      refine qm_Ru.go 1 (c' := (101, [.ref 28, .int y, .int r, .int s, .int 3, .int v186, .int 3, .int 1, .float 0, .float 0], [.int s, .ref 15], h)) rfl ?_
                      refine hk_inv (o := 15) (r := []) (as := [.ref 15, .int s]) rfl rfl (hH.1 15 (15, 8) rfl) rfl rfl rfl rfl ?_
                      refine qm_Ru.go 2 (c' := (2, [.ref 15, .int s], [.ref 15, .int 4], h)) rfl ?_
                      refine hk_getr rfl (hH.1 15 (15, 8) rfl) rfl (hH.2 15 2 (some 17) rfl) ?_
                      refine qm_Ru.go 1 (c' := (6, [.ref 15, .int s], [.int s, .ref 17, .int 4], h)) rfl ?_
                      obtain ⟨v288, q_v288⟩ : ∃ v, h.2.1 17 (s.toInt.toNat) = v := ⟨_, rfl⟩
                      have b_v288 : (0 : Int) ≤ v288.toInt ∧ v288.toInt ≤ 4 := by rw [← q_v288]; exact hB 17 (s.toInt.toNat)
                      refine hk_ial (v := v288) rfl (hH.1 17 (0, 4) rfl) (by omega) (by omega) q_v288 ?_
                      refine qm_Ru.go 1 (c' := (8, [.ref 15, .int s], [.int (4 - v288)], h)) rfl ?_
                      obtain ⟨v289, q_v289, e_v289⟩ := hk_sub (x := 4) (y := v288) (a := 4) (b := v288.toInt) rfl rfl (by omega) (by omega)
                      rw [q_v289]
                      refine qm_Ru.rt (v := (some (.int v289))) (h' := h) rfl ?_
                      refine qm_Ru.go 1 (c' := (106, [.ref 28, .int y, .int r, .int s, .int 3, .int v186, .int 3, .int 1, .float 0, .float 0], [.int 1, .int v289], h)) rfl ?_
                      refine hk_cge (ix := v289.toInt) (iy := 1) rfl rfl rfl (fun z290 => ?_) (fun z290 => ?_)
                      · refine qm_Ru.go 0 (c' := (111, [.ref 28, .int y, .int r, .int s, .int 3, .int v186, .int 3, .int 1, .float 0, .float 0], [], h)) rfl ?_
                        refine qm_Ru.go 1 (c' := (112, [.ref 28, .int y, .int r, .int s, .int 3, .int v186, .int 3, .int 1, .float 0, .float 0], [.ref 28], h)) rfl ?_
                        refine hk_getr rfl (hH.1 28 (9, 8) rfl) rfl (hH.2 28 0 (some 6) rfl) ?_
                        refine qm_Ru.go 0 (c' := (115, [.ref 28, .int y, .int r, .int s, .int 3, .int v186, .int 3, .int 1, .float 0, .float 0], [.ref 6], h)) rfl ?_
                        refine hk_getr rfl (hH.1 6 (6, 9) rfl) rfl (hH.2 6 1 (some 7) rfl) ?_
                        refine qm_Ru.go 1 (c' := (120, [.ref 28, .int y, .int r, .int s, .int 3, .int v186, .int 3, .int 1, .float 0, .float 0], [.int v186, .ref 7], h)) rfl ?_
                        obtain ⟨v291, q_v291⟩ : ∃ v, h.2.1 7 (v186.toInt.toNat) = v := ⟨_, rfl⟩
                        have b_v291 : (0 : Int) ≤ v291.toInt ∧ v291.toInt ≤ 40 := by rw [← q_v291]; exact hB 7 (v186.toInt.toNat)
                        refine hk_ial (v := v291) rfl (hH.1 7 (0, 30) rfl) (by omega) (by omega) q_v291 ?_
                        refine qm_Ru.go 5 (c' := (153, [.ref 28, .int y, .int r, .int s, .int 3, .int v186, .int 3, .int 1, .float 0, .float 0], [.int (v291 + 0)], h)) rfl ?_
                        obtain ⟨v292, q_v292, e_v292⟩ := hk_add (x := v291) (y := 0) (a := v291.toInt) (b := 0) rfl rfl (by omega) (by omega)
                        rw [q_v292]
                        refine qm_Ru.go 3 (c' := (158, [.ref 28, .int y, .int r, .int s, .int 3, .int v186, .int 3, .int 1, .int v292, .float 0], [.ref 28, .int v292], h)) rfl ?_
                        refine hk_getr rfl (hH.1 28 (9, 8) rfl) rfl hT.2 ?_
                        refine qm_Ru.go 0 (c' := (161, [.ref 28, .int y, .int r, .int s, .int 3, .int v186, .int 3, .int 1, .int v292, .float 0], [.ref 111, .int v292], h)) rfl ?_
                        obtain ⟨v293, q_v293⟩ : ∃ v, h.2.1 111 4 = v := ⟨_, rfl⟩
                        refine hk_geti (v := v293) rfl (hH.1 111 (11, 16) rfl) rfl q_v293 ?_
                        refine qm_Ru.go 0 (c' := (164, [.ref 28, .int y, .int r, .int s, .int 3, .int v186, .int 3, .int 1, .int v292, .float 0], [.int v293, .int v292], h)) rfl ?_
                        refine hk_cle (ix := v292.toInt) (iy := v293.toInt) rfl rfl rfl (fun z294 => ?_) (fun z294 => ?_)
                        · refine qm_Ru.go 5 (c' := (176, [.ref 28, .int y, .int r, .int s, .int 3, .int v186, .int 3, .int 1, .int v292, .float 0], [.int (-v292), .int r, .int y, .ref 28], h)) rfl ?_
                          obtain ⟨v295, q_v295, e_v295⟩ := hk_neg (x := v292) (a := v292.toInt) rfl (by omega)
                          rw [q_v295]
                          refine hk_inv (o := 28) (r := []) (as := [.ref 28, .int y, .int r, .int v295]) rfl rfl (hH.1 28 (9, 8) rfl) rfl rfl rfl rfl (hs_borne111 h6 hH hT hB (v_C_ru hV) ⟨by show (0 : Int) ≤ y.toInt; omega, by show y.toInt ≤ (4 : Int); omega⟩ ⟨by show (0 : Int) ≤ r.toInt; omega, by show r.toInt ≤ (3 : Int); omega⟩ (qa_in_full _) (by omega) (fun v296 I297 J298 c_v296 _ e_I297 => ?_))
                          have e_I297 : I297 = h.2.1 := funext fun o => funext fun i => e_I297 o rfl i
                          subst e_I297
                          have b_v296 : (0 : Int) ≤ v296.toInt ∧ v296.toInt ≤ 1 := c_v296
                          refine qm_Ru.go 0 (c' := (179, [.ref 28, .int y, .int r, .int s, .int 3, .int v186, .int 3, .int 1, .int v292, .float 0], [.int v296], (h.1, h.2.1, J298, h.2.2.2))) rfl ?_
                          refine hk_zne (ix := v296.toInt) rfl rfl (fun z299 => ?_) (fun z299 => ?_)
                          · refine qm_Ru.go 0 (c' := (197, [.ref 28, .int y, .int r, .int s, .int 3, .int v186, .int 3, .int 1, .int v292, .float 0], [], (h.1, h.2.1, J298, h.2.2.2))) rfl ?_
                            exact hq_land33 (h := (h.1, h.2.1, J298, h.2.2.2)) hH hB hV (by omega) (by omega) (by omega) (fun _ => by rw [q_v288]; omega) (p_at q_v186 (by omega) (by omega)) (fun v I hB2 hV2 hm2 ev => k (some (.int v)) I _ ⟨_, rfl, ⟨by show (-3 : Int) ≤ v.toInt; omega, by show v.toInt ≤ (2 : Int); omega⟩⟩ hB2 hV2 hm2)
                          · refine qm_Ru.go 5 (c' := (188, [.ref 28, .int y, .int r, .int s, .int 3, .int v186, .int 3, .int 1, .int v292, .float 0], [.int (-v292), .int r, .int y, .ref 28], (h.1, h.2.1, J298, h.2.2.2))) rfl ?_
                            rw [q_v295]
                            refine hk_inv (o := 28) (r := []) (as := [.ref 28, .int y, .int r, .int v295]) rfl rfl (hH.1 28 (9, 8) rfl) rfl rfl rfl rfl (hs_nowor111 h6 hH hT hB (v_C_ru hV) ⟨by show (0 : Int) ≤ y.toInt; omega, by show y.toInt ≤ (4 : Int); omega⟩ ⟨by show (0 : Int) ≤ r.toInt; omega, by show r.toInt ≤ (3 : Int); omega⟩ (qa_in_full _) (by omega) (fun v301 I302 J303 c_v301 _ e_I302 => ?_))
                            have e_I302 : I302 = h.2.1 := funext fun o => funext fun i => e_I302 o rfl i
                            subst e_I302
                            have b_v301 : (0 : Int) ≤ v301.toInt ∧ v301.toInt ≤ 1 := c_v301
                            refine qm_Ru.go 0 (c' := (191, [.ref 28, .int y, .int r, .int s, .int 3, .int v186, .int 3, .int 1, .int v292, .float 0], [.int v301], (h.1, h.2.1, J303, h.2.2.2))) rfl ?_
                            refine hk_zne (ix := v301.toInt) rfl rfl (fun z304 => ?_) (fun z304 => ?_)
                            · refine qm_Ru.go 0 (c' := (197, [.ref 28, .int y, .int r, .int s, .int 3, .int v186, .int 3, .int 1, .int v292, .float 0], [], (h.1, h.2.1, J303, h.2.2.2))) rfl ?_
                              exact hq_land33 (h := (h.1, h.2.1, J303, h.2.2.2)) hH hB hV (by omega) (by omega) (by omega) (fun _ => by rw [q_v288]; omega) (p_at q_v186 (by omega) (by omega)) (fun v I hB2 hV2 hm2 ev => k (some (.int v)) I _ ⟨_, rfl, ⟨by show (-3 : Int) ≤ v.toInt; omega, by show v.toInt ≤ (2 : Int); omega⟩⟩ hB2 hV2 hm2)
                            · refine qm_Ru.go 1 (c' := (196, [.ref 28, .int y, .int r, .int s, .int 3, .int v186, .int 3, .int 1, .int v292, .float 0], [.int (-3)], (h.1, h.2.1, J303, h.2.2.2))) rfl ?_
                              refine qm_Ru.rt (v := (some (.int (-3)))) (h' := (h.1, h.2.1, J303, h.2.2.2)) rfl ?_
                              exact k (some (.int (-3))) (h.2.1) (J303) ⟨_, rfl, ⟨by decide, by decide⟩⟩ hB hV (fun _ _ _ => rfl)
                        · refine qm_Ru.go 1 (c' := (169, [.ref 28, .int y, .int r, .int s, .int 3, .int v186, .int 3, .int 1, .int v292, .float 0], [.int (-2)], h)) rfl ?_
                          refine qm_Ru.rt (v := (some (.int (-2)))) (h' := h) rfl ?_
                          exact k (some (.int (-2))) (h.2.1) (h.2.2.1) ⟨_, rfl, ⟨by decide, by decide⟩⟩ hB hV (fun _ _ _ => rfl)
                      · refine qm_Ru.go 1 (c' := (110, [.ref 28, .int y, .int r, .int s, .int 3, .int v186, .int 3, .int 1, .float 0, .float 0], [.int (-1)], h)) rfl ?_
                        refine qm_Ru.rt (v := (some (.int (-1)))) (h' := h) rfl ?_
                        exact k (some (.int (-1))) (h.2.1) (h.2.2.1) ⟨_, rfl, ⟨by decide, by decide⟩⟩ hB hV (fun _ _ _ => rfl)
                  · refine qm_Ru.go 3 (c' := (65, [.ref 28, .int y, .int r, .int s, .int 3, .int v186, .float 0, .float 0, .float 0, .float 0], [.int y, .ref 28, .int 3], h)) rfl ?_
                    refine hk_inv (o := 28) (r := [.int 3]) (as := [.ref 28, .int y]) rfl rfl (hH.1 28 (9, 8) rfl) rfl rfl rfl rfl ?_
                    refine qm_Ru.go 2 (c' := (2, [.ref 28, .int y], [.int y, .ref 28], h)) rfl ?_
                    refine hk_inv (o := 28) (r := []) (as := [.ref 28, .int y]) rfl rfl (hH.1 28 (9, 8) rfl) rfl rfl rfl rfl ?_
                    refine qm_Ru.go 1 (c' := (1, [.ref 28, .int y], [.ref 28], h)) rfl ?_
                    refine hk_geti (v := v8) rfl (hH.1 28 (9, 8) rfl) rfl q_v8 ?_
                    refine qm_Ru.go 2 (c' := (6, [.ref 28, .int y], [.int (v8 >>> (y &&& 31))], h)) rfl ?_
                    rw [q_v9]
                    refine qm_Ru.go 2 (c' := (8, [.ref 28, .int y], [.int (v9 &&& 1)], h)) rfl ?_
                    rw [q_v10]
                    refine qm_Ru.go 1 (c' := (9, [.ref 28, .int y], [.int 1, .int v10], h)) rfl ?_
                    refine hk_cne (ix := v10.toInt) (iy := 1) rfl rfl rfl (fun z307 => by exfalso; omega) (fun z307 => ?_)
                    refine qm_Ru.go 2 (c' := (17, [.ref 28, .int y], [.int 1], h)) rfl ?_
                    refine qm_Ru.rt (v := (some (.int 1))) (h' := h) rfl ?_
                    refine qm_Ru.go 3 (c' := (13, [.ref 28, .int y], [.int 2], h)) rfl ?_
                    refine qm_Ru.rt (v := (some (.int 2))) (h' := h) rfl ?_
                    refine qm_Ru.go 14 (c' := (93, [.ref 28, .int y, .int r, .int s, .int 3, .int v186, .int 2, .int 2, .float 0, .float 0], [.int (-1), .int s], h)) rfl ?_
                    refine hk_ceq (ix := s.toInt) (iy := (-1)) rfl rfl rfl (fun z308 => ?_) (fun z308 => ?_)
                    · refine qm_Ru.go 0 (c' := (111, [.ref 28, .int y, .int r, .int s, .int 3, .int v186, .int 2, .int 2, .float 0, .float 0], [], h)) rfl ?_
                      refine qm_Ru.go 1 (c' := (112, [.ref 28, .int y, .int r, .int s, .int 3, .int v186, .int 2, .int 2, .float 0, .float 0], [.ref 28], h)) rfl ?_
                      refine hk_getr rfl (hH.1 28 (9, 8) rfl) rfl (hH.2 28 0 (some 6) rfl) ?_
                      refine qm_Ru.go 0 (c' := (115, [.ref 28, .int y, .int r, .int s, .int 3, .int v186, .int 2, .int 2, .float 0, .float 0], [.ref 6], h)) rfl ?_
                      refine hk_getr rfl (hH.1 6 (6, 9) rfl) rfl (hH.2 6 1 (some 7) rfl) ?_
                      refine qm_Ru.go 1 (c' := (120, [.ref 28, .int y, .int r, .int s, .int 3, .int v186, .int 2, .int 2, .float 0, .float 0], [.int v186, .ref 7], h)) rfl ?_
                      obtain ⟨v309, q_v309⟩ : ∃ v, h.2.1 7 (v186.toInt.toNat) = v := ⟨_, rfl⟩
                      have b_v309 : (0 : Int) ≤ v309.toInt ∧ v309.toInt ≤ 40 := by rw [← q_v309]; exact hB 7 (v186.toInt.toNat)
                      refine hk_ial (v := v309) rfl (hH.1 7 (0, 30) rfl) (by omega) (by omega) q_v309 ?_
                      refine qm_Ru.go 4 (c' := (129, [.ref 28, .int y, .int r, .int s, .int 3, .int v186, .int 2, .int 2, .float 0, .float 0], [.ref 28, .int v309], h)) rfl ?_
                      refine hk_getr rfl (hH.1 28 (9, 8) rfl) rfl (hH.2 28 0 (some 6) rfl) ?_
                      refine qm_Ru.go 0 (c' := (132, [.ref 28, .int y, .int r, .int s, .int 3, .int v186, .int 2, .int 2, .float 0, .float 0], [.ref 6, .int v309], h)) rfl ?_
                      refine hk_getr rfl (hH.1 6 (6, 9) rfl) rfl (hH.2 6 1 (some 7) rfl) ?_
                      refine qm_Ru.go 1 (c' := (136, [.ref 28, .int y, .int r, .int s, .int 3, .int v186, .int 2, .int 2, .float 0, .float 0], [.ref 28, .ref 7, .int v309], h)) rfl ?_
                      refine hk_getr rfl (hH.1 28 (9, 8) rfl) rfl (hH.2 28 3 (some 36) rfl) ?_
                      refine qm_Ru.go 3 (c' := (143, [.ref 28, .int y, .int r, .int s, .int 3, .int v186, .int 2, .int 2, .float 0, .float 0], [.int 2, .int r, .int y, .ref 36, .ref 7, .int v309], h)) rfl ?_
                      refine qm_Ru.call (j := 75) (as := [.int y, .int r, .int 2]) (c' := (146, [.ref 28, .int y, .int r, .int s, .int 3, .int v186, .int 2, .int 2, .float 0, .float 0], [.ref 36, .ref 7, .int v309], h)) rfl rfl rfl ?_
                      refine qm_Ru.go 3 (c' := (3, [.int y, .int r, .int 2], [.int (y * 4)], h)) rfl ?_
                      rw [q_v182]
                      refine qm_Ru.go 2 (c' := (5, [.int y, .int r, .int 2], [.int (v182 + r)], h)) rfl ?_
                      rw [q_v183]
                      refine qm_Ru.go 2 (c' := (7, [.int y, .int r, .int 2], [.int (v183 * 4)], h)) rfl ?_
                      rw [q_v184]
                      refine qm_Ru.go 2 (c' := (9, [.int y, .int r, .int 2], [.int (v184 + 2)], h)) rfl ?_
                      obtain ⟨v313, q_v313, e_v313⟩ := hk_add (x := v184) (y := 2) (a := v184.toInt) (b := 2) rfl rfl (by omega) (by omega)
                      rw [q_v313]
                      refine qm_Ru.rt (v := (some (.int v313))) (h' := h) rfl ?_
                      refine qm_Ru.go 0 (c' := (146, [.ref 28, .int y, .int r, .int s, .int 3, .int v186, .int 2, .int 2, .float 0, .float 0], [.int v313, .ref 36, .ref 7, .int v309], h)) rfl ?_
                      obtain ⟨v314, q_v314⟩ : ∃ v, h.2.1 36 (v313.toInt.toNat) = v := ⟨_, rfl⟩
                      have b_v314 : (-1 : Int) ≤ v314.toInt ∧ v314.toInt ≤ 29 := by rw [← q_v314]; exact hB 36 (v313.toInt.toNat)
                      refine hk_ial (v := v314) rfl (hH.1 36 (0, 80) rfl) (by omega) (by omega) q_v314 ?_
                      refine qm_Ru.go 0 (c' := (147, [.ref 28, .int y, .int r, .int s, .int 3, .int v186, .int 2, .int 2, .float 0, .float 0], [.int v314, .ref 7, .int v309], h)) rfl ?_
                      have p_v314 : 0 ≤ v314.toInt := by have := b_low (I := h.2.1) (y := y.toInt) (r := r.toInt) (t := 2) hV.1.2 (by omega) (by omega) (by decide) (p_at q_v186 (by omega) (by omega)); rw [show (16 * y.toInt + 4 * r.toInt + 2).toNat = v313.toInt.toNat from by omega] at this; have e : pI h.2.1 36 (v313.toInt.toNat) = v314.toInt := congrArg Int32.toInt q_v314; omega
                      obtain ⟨v315, q_v315⟩ : ∃ v, h.2.1 7 (v314.toInt.toNat) = v := ⟨_, rfl⟩
                      have b_v315 : (0 : Int) ≤ v315.toInt ∧ v315.toInt ≤ 40 := by rw [← q_v315]; exact hB 7 (v314.toInt.toNat)
                      refine hk_ial (v := v315) rfl (hH.1 7 (0, 30) rfl) (by omega) (by omega) q_v315 ?_
                      refine qm_Ru.go 2 (c' := (153, [.ref 28, .int y, .int r, .int s, .int 3, .int v186, .int 2, .int 2, .float 0, .float 0], [.int (v309 + v315)], h)) rfl ?_
                      obtain ⟨v316, q_v316, e_v316⟩ := hk_add (x := v309) (y := v315) (a := v309.toInt) (b := v315.toInt) rfl rfl (by omega) (by omega)
                      rw [q_v316]
                      refine qm_Ru.go 3 (c' := (158, [.ref 28, .int y, .int r, .int s, .int 3, .int v186, .int 2, .int 2, .int v316, .float 0], [.ref 28, .int v316], h)) rfl ?_
                      refine hk_getr rfl (hH.1 28 (9, 8) rfl) rfl hT.2 ?_
                      refine qm_Ru.go 0 (c' := (161, [.ref 28, .int y, .int r, .int s, .int 3, .int v186, .int 2, .int 2, .int v316, .float 0], [.ref 111, .int v316], h)) rfl ?_
                      obtain ⟨v317, q_v317⟩ : ∃ v, h.2.1 111 4 = v := ⟨_, rfl⟩
                      refine hk_geti (v := v317) rfl (hH.1 111 (11, 16) rfl) rfl q_v317 ?_
                      refine qm_Ru.go 0 (c' := (164, [.ref 28, .int y, .int r, .int s, .int 3, .int v186, .int 2, .int 2, .int v316, .float 0], [.int v317, .int v316], h)) rfl ?_
                      refine hk_cle (ix := v316.toInt) (iy := v317.toInt) rfl rfl rfl (fun z318 => ?_) (fun z318 => ?_)
                      · refine qm_Ru.go 5 (c' := (176, [.ref 28, .int y, .int r, .int s, .int 3, .int v186, .int 2, .int 2, .int v316, .float 0], [.int (-v316), .int r, .int y, .ref 28], h)) rfl ?_
                        obtain ⟨v319, q_v319, e_v319⟩ := hk_neg (x := v316) (a := v316.toInt) rfl (by omega)
                        rw [q_v319]
                        refine hk_inv (o := 28) (r := []) (as := [.ref 28, .int y, .int r, .int v319]) rfl rfl (hH.1 28 (9, 8) rfl) rfl rfl rfl rfl (hs_borne111 h6 hH hT hB (v_C_ru hV) ⟨by show (0 : Int) ≤ y.toInt; omega, by show y.toInt ≤ (4 : Int); omega⟩ ⟨by show (0 : Int) ≤ r.toInt; omega, by show r.toInt ≤ (3 : Int); omega⟩ (qa_in_full _) (by omega) (fun v320 I321 J322 c_v320 _ e_I321 => ?_))
                        have e_I321 : I321 = h.2.1 := funext fun o => funext fun i => e_I321 o rfl i
                        subst e_I321
                        have b_v320 : (0 : Int) ≤ v320.toInt ∧ v320.toInt ≤ 1 := c_v320
                        refine qm_Ru.go 0 (c' := (179, [.ref 28, .int y, .int r, .int s, .int 3, .int v186, .int 2, .int 2, .int v316, .float 0], [.int v320], (h.1, h.2.1, J322, h.2.2.2))) rfl ?_
                        refine hk_zne (ix := v320.toInt) rfl rfl (fun z323 => ?_) (fun z323 => ?_)
                        · refine qm_Ru.go 0 (c' := (197, [.ref 28, .int y, .int r, .int s, .int 3, .int v186, .int 2, .int 2, .int v316, .float 0], [], (h.1, h.2.1, J322, h.2.2.2))) rfl ?_
                          exact hq_land23 (h := (h.1, h.2.1, J322, h.2.2.2)) hH hB hV (by omega) (by omega) (by omega) (fun c => absurd z308 c) (p_at q_v314 (by omega) (by omega)) (p_at q_v186 (by omega) (by omega)) (fun v I hB2 hV2 hm2 ev => k (some (.int v)) I _ ⟨_, rfl, ⟨by show (-3 : Int) ≤ v.toInt; omega, by show v.toInt ≤ (2 : Int); omega⟩⟩ hB2 hV2 hm2)
                        · refine qm_Ru.go 5 (c' := (188, [.ref 28, .int y, .int r, .int s, .int 3, .int v186, .int 2, .int 2, .int v316, .float 0], [.int (-v316), .int r, .int y, .ref 28], (h.1, h.2.1, J322, h.2.2.2))) rfl ?_
                          rw [q_v319]
                          refine hk_inv (o := 28) (r := []) (as := [.ref 28, .int y, .int r, .int v319]) rfl rfl (hH.1 28 (9, 8) rfl) rfl rfl rfl rfl (hs_nowor111 h6 hH hT hB (v_C_ru hV) ⟨by show (0 : Int) ≤ y.toInt; omega, by show y.toInt ≤ (4 : Int); omega⟩ ⟨by show (0 : Int) ≤ r.toInt; omega, by show r.toInt ≤ (3 : Int); omega⟩ (qa_in_full _) (by omega) (fun v325 I326 J327 c_v325 _ e_I326 => ?_))
                          have e_I326 : I326 = h.2.1 := funext fun o => funext fun i => e_I326 o rfl i
                          subst e_I326
                          have b_v325 : (0 : Int) ≤ v325.toInt ∧ v325.toInt ≤ 1 := c_v325
                          refine qm_Ru.go 0 (c' := (191, [.ref 28, .int y, .int r, .int s, .int 3, .int v186, .int 2, .int 2, .int v316, .float 0], [.int v325], (h.1, h.2.1, J327, h.2.2.2))) rfl ?_
                          refine hk_zne (ix := v325.toInt) rfl rfl (fun z328 => ?_) (fun z328 => ?_)
                          · refine qm_Ru.go 0 (c' := (197, [.ref 28, .int y, .int r, .int s, .int 3, .int v186, .int 2, .int 2, .int v316, .float 0], [], (h.1, h.2.1, J327, h.2.2.2))) rfl ?_
                            exact hq_land23 (h := (h.1, h.2.1, J327, h.2.2.2)) hH hB hV (by omega) (by omega) (by omega) (fun c => absurd z308 c) (p_at q_v314 (by omega) (by omega)) (p_at q_v186 (by omega) (by omega)) (fun v I hB2 hV2 hm2 ev => k (some (.int v)) I _ ⟨_, rfl, ⟨by show (-3 : Int) ≤ v.toInt; omega, by show v.toInt ≤ (2 : Int); omega⟩⟩ hB2 hV2 hm2)
                          · refine qm_Ru.go 1 (c' := (196, [.ref 28, .int y, .int r, .int s, .int 3, .int v186, .int 2, .int 2, .int v316, .float 0], [.int (-3)], (h.1, h.2.1, J327, h.2.2.2))) rfl ?_
                            refine qm_Ru.rt (v := (some (.int (-3)))) (h' := (h.1, h.2.1, J327, h.2.2.2)) rfl ?_
                            exact k (some (.int (-3))) (h.2.1) (J327) ⟨_, rfl, ⟨by decide, by decide⟩⟩ hB hV (fun _ _ _ => rfl)
                      · refine qm_Ru.go 1 (c' := (169, [.ref 28, .int y, .int r, .int s, .int 3, .int v186, .int 2, .int 2, .int v316, .float 0], [.int (-2)], h)) rfl ?_
                        refine qm_Ru.rt (v := (some (.int (-2)))) (h' := h) rfl ?_
                        exact k (some (.int (-2))) (h.2.1) (h.2.2.1) ⟨_, rfl, ⟨by decide, by decide⟩⟩ hB hV (fun _ _ _ => rfl)
                    · refine qm_Ru.go 1 (c' := (97, [.ref 28, .int y, .int r, .int s, .int 3, .int v186, .int 2, .int 2, .float 0, .float 0], [.ref 28], h)) rfl ?_
                      refine hk_getr rfl (hH.1 28 (9, 8) rfl) rfl (hH.2 28 1 (some 15) rfl) ?_
                      refine qm_Ru.go 1 (c' := (101, [.ref 28, .int y, .int r, .int s, .int 3, .int v186, .int 2, .int 2, .float 0, .float 0], [.int s, .ref 15], h)) rfl ?_
                      refine hk_inv (o := 15) (r := []) (as := [.ref 15, .int s]) rfl rfl (hH.1 15 (15, 8) rfl) rfl rfl rfl rfl ?_
                      refine qm_Ru.go 2 (c' := (2, [.ref 15, .int s], [.ref 15, .int 4], h)) rfl ?_
                      refine hk_getr rfl (hH.1 15 (15, 8) rfl) rfl (hH.2 15 2 (some 17) rfl) ?_
                      refine qm_Ru.go 1 (c' := (6, [.ref 15, .int s], [.int s, .ref 17, .int 4], h)) rfl ?_
                      obtain ⟨v329, q_v329⟩ : ∃ v, h.2.1 17 (s.toInt.toNat) = v := ⟨_, rfl⟩
                      have b_v329 : (0 : Int) ≤ v329.toInt ∧ v329.toInt ≤ 4 := by rw [← q_v329]; exact hB 17 (s.toInt.toNat)
                      refine hk_ial (v := v329) rfl (hH.1 17 (0, 4) rfl) (by omega) (by omega) q_v329 ?_
                      refine qm_Ru.go 1 (c' := (8, [.ref 15, .int s], [.int (4 - v329)], h)) rfl ?_
                      obtain ⟨v330, q_v330, e_v330⟩ := hk_sub (x := 4) (y := v329) (a := 4) (b := v329.toInt) rfl rfl (by omega) (by omega)
                      rw [q_v330]
                      refine qm_Ru.rt (v := (some (.int v330))) (h' := h) rfl ?_
                      refine qm_Ru.go 1 (c' := (106, [.ref 28, .int y, .int r, .int s, .int 3, .int v186, .int 2, .int 2, .float 0, .float 0], [.int 2, .int v330], h)) rfl ?_
                      refine hk_cge (ix := v330.toInt) (iy := 2) rfl rfl rfl (fun z331 => ?_) (fun z331 => ?_)
                      · refine qm_Ru.go 0 (c' := (111, [.ref 28, .int y, .int r, .int s, .int 3, .int v186, .int 2, .int 2, .float 0, .float 0], [], h)) rfl ?_
                        refine qm_Ru.go 1 (c' := (112, [.ref 28, .int y, .int r, .int s, .int 3, .int v186, .int 2, .int 2, .float 0, .float 0], [.ref 28], h)) rfl ?_
                        refine hk_getr rfl (hH.1 28 (9, 8) rfl) rfl (hH.2 28 0 (some 6) rfl) ?_
                        refine qm_Ru.go 0 (c' := (115, [.ref 28, .int y, .int r, .int s, .int 3, .int v186, .int 2, .int 2, .float 0, .float 0], [.ref 6], h)) rfl ?_
                        refine hk_getr rfl (hH.1 6 (6, 9) rfl) rfl (hH.2 6 1 (some 7) rfl) ?_
                        refine qm_Ru.go 1 (c' := (120, [.ref 28, .int y, .int r, .int s, .int 3, .int v186, .int 2, .int 2, .float 0, .float 0], [.int v186, .ref 7], h)) rfl ?_
                        obtain ⟨v332, q_v332⟩ : ∃ v, h.2.1 7 (v186.toInt.toNat) = v := ⟨_, rfl⟩
                        have b_v332 : (0 : Int) ≤ v332.toInt ∧ v332.toInt ≤ 40 := by rw [← q_v332]; exact hB 7 (v186.toInt.toNat)
                        refine hk_ial (v := v332) rfl (hH.1 7 (0, 30) rfl) (by omega) (by omega) q_v332 ?_
                        refine qm_Ru.go 4 (c' := (129, [.ref 28, .int y, .int r, .int s, .int 3, .int v186, .int 2, .int 2, .float 0, .float 0], [.ref 28, .int v332], h)) rfl ?_
                        refine hk_getr rfl (hH.1 28 (9, 8) rfl) rfl (hH.2 28 0 (some 6) rfl) ?_
                        refine qm_Ru.go 0 (c' := (132, [.ref 28, .int y, .int r, .int s, .int 3, .int v186, .int 2, .int 2, .float 0, .float 0], [.ref 6, .int v332], h)) rfl ?_
                        refine hk_getr rfl (hH.1 6 (6, 9) rfl) rfl (hH.2 6 1 (some 7) rfl) ?_
                        refine qm_Ru.go 1 (c' := (136, [.ref 28, .int y, .int r, .int s, .int 3, .int v186, .int 2, .int 2, .float 0, .float 0], [.ref 28, .ref 7, .int v332], h)) rfl ?_
                        refine hk_getr rfl (hH.1 28 (9, 8) rfl) rfl (hH.2 28 3 (some 36) rfl) ?_
                        refine qm_Ru.go 3 (c' := (143, [.ref 28, .int y, .int r, .int s, .int 3, .int v186, .int 2, .int 2, .float 0, .float 0], [.int 2, .int r, .int y, .ref 36, .ref 7, .int v332], h)) rfl ?_
                        refine qm_Ru.call (j := 75) (as := [.int y, .int r, .int 2]) (c' := (146, [.ref 28, .int y, .int r, .int s, .int 3, .int v186, .int 2, .int 2, .float 0, .float 0], [.ref 36, .ref 7, .int v332], h)) rfl rfl rfl ?_
                        refine qm_Ru.go 3 (c' := (3, [.int y, .int r, .int 2], [.int (y * 4)], h)) rfl ?_
                        rw [q_v182]
                        refine qm_Ru.go 2 (c' := (5, [.int y, .int r, .int 2], [.int (v182 + r)], h)) rfl ?_
                        rw [q_v183]
                        refine qm_Ru.go 2 (c' := (7, [.int y, .int r, .int 2], [.int (v183 * 4)], h)) rfl ?_
                        rw [q_v184]
                        refine qm_Ru.go 2 (c' := (9, [.int y, .int r, .int 2], [.int (v184 + 2)], h)) rfl ?_
                        obtain ⟨v336, q_v336, e_v336⟩ := hk_add (x := v184) (y := 2) (a := v184.toInt) (b := 2) rfl rfl (by omega) (by omega)
                        rw [q_v336]
                        refine qm_Ru.rt (v := (some (.int v336))) (h' := h) rfl ?_
                        refine qm_Ru.go 0 (c' := (146, [.ref 28, .int y, .int r, .int s, .int 3, .int v186, .int 2, .int 2, .float 0, .float 0], [.int v336, .ref 36, .ref 7, .int v332], h)) rfl ?_
                        obtain ⟨v337, q_v337⟩ : ∃ v, h.2.1 36 (v336.toInt.toNat) = v := ⟨_, rfl⟩
                        have b_v337 : (-1 : Int) ≤ v337.toInt ∧ v337.toInt ≤ 29 := by rw [← q_v337]; exact hB 36 (v336.toInt.toNat)
                        refine hk_ial (v := v337) rfl (hH.1 36 (0, 80) rfl) (by omega) (by omega) q_v337 ?_
                        refine qm_Ru.go 0 (c' := (147, [.ref 28, .int y, .int r, .int s, .int 3, .int v186, .int 2, .int 2, .float 0, .float 0], [.int v337, .ref 7, .int v332], h)) rfl ?_
                        have p_v337 : 0 ≤ v337.toInt := by have := b_low (I := h.2.1) (y := y.toInt) (r := r.toInt) (t := 2) hV.1.2 (by omega) (by omega) (by decide) (p_at q_v186 (by omega) (by omega)); rw [show (16 * y.toInt + 4 * r.toInt + 2).toNat = v336.toInt.toNat from by omega] at this; have e : pI h.2.1 36 (v336.toInt.toNat) = v337.toInt := congrArg Int32.toInt q_v337; omega
                        obtain ⟨v338, q_v338⟩ : ∃ v, h.2.1 7 (v337.toInt.toNat) = v := ⟨_, rfl⟩
                        have b_v338 : (0 : Int) ≤ v338.toInt ∧ v338.toInt ≤ 40 := by rw [← q_v338]; exact hB 7 (v337.toInt.toNat)
                        refine hk_ial (v := v338) rfl (hH.1 7 (0, 30) rfl) (by omega) (by omega) q_v338 ?_
                        refine qm_Ru.go 2 (c' := (153, [.ref 28, .int y, .int r, .int s, .int 3, .int v186, .int 2, .int 2, .float 0, .float 0], [.int (v332 + v338)], h)) rfl ?_
                        obtain ⟨v339, q_v339, e_v339⟩ := hk_add (x := v332) (y := v338) (a := v332.toInt) (b := v338.toInt) rfl rfl (by omega) (by omega)
                        rw [q_v339]
                        refine qm_Ru.go 3 (c' := (158, [.ref 28, .int y, .int r, .int s, .int 3, .int v186, .int 2, .int 2, .int v339, .float 0], [.ref 28, .int v339], h)) rfl ?_
                        refine hk_getr rfl (hH.1 28 (9, 8) rfl) rfl hT.2 ?_
                        refine qm_Ru.go 0 (c' := (161, [.ref 28, .int y, .int r, .int s, .int 3, .int v186, .int 2, .int 2, .int v339, .float 0], [.ref 111, .int v339], h)) rfl ?_
                        obtain ⟨v340, q_v340⟩ : ∃ v, h.2.1 111 4 = v := ⟨_, rfl⟩
                        refine hk_geti (v := v340) rfl (hH.1 111 (11, 16) rfl) rfl q_v340 ?_
                        refine qm_Ru.go 0 (c' := (164, [.ref 28, .int y, .int r, .int s, .int 3, .int v186, .int 2, .int 2, .int v339, .float 0], [.int v340, .int v339], h)) rfl ?_
                        refine hk_cle (ix := v339.toInt) (iy := v340.toInt) rfl rfl rfl (fun z341 => ?_) (fun z341 => ?_)
                        · refine qm_Ru.go 5 (c' := (176, [.ref 28, .int y, .int r, .int s, .int 3, .int v186, .int 2, .int 2, .int v339, .float 0], [.int (-v339), .int r, .int y, .ref 28], h)) rfl ?_
                          obtain ⟨v342, q_v342, e_v342⟩ := hk_neg (x := v339) (a := v339.toInt) rfl (by omega)
                          rw [q_v342]
                          refine hk_inv (o := 28) (r := []) (as := [.ref 28, .int y, .int r, .int v342]) rfl rfl (hH.1 28 (9, 8) rfl) rfl rfl rfl rfl (hs_borne111 h6 hH hT hB (v_C_ru hV) ⟨by show (0 : Int) ≤ y.toInt; omega, by show y.toInt ≤ (4 : Int); omega⟩ ⟨by show (0 : Int) ≤ r.toInt; omega, by show r.toInt ≤ (3 : Int); omega⟩ (qa_in_full _) (by omega) (fun v343 I344 J345 c_v343 _ e_I344 => ?_))
                          have e_I344 : I344 = h.2.1 := funext fun o => funext fun i => e_I344 o rfl i
                          subst e_I344
                          have b_v343 : (0 : Int) ≤ v343.toInt ∧ v343.toInt ≤ 1 := c_v343
                          refine qm_Ru.go 0 (c' := (179, [.ref 28, .int y, .int r, .int s, .int 3, .int v186, .int 2, .int 2, .int v339, .float 0], [.int v343], (h.1, h.2.1, J345, h.2.2.2))) rfl ?_
                          refine hk_zne (ix := v343.toInt) rfl rfl (fun z346 => ?_) (fun z346 => ?_)
                          · refine qm_Ru.go 0 (c' := (197, [.ref 28, .int y, .int r, .int s, .int 3, .int v186, .int 2, .int 2, .int v339, .float 0], [], (h.1, h.2.1, J345, h.2.2.2))) rfl ?_
                            exact hq_land23 (h := (h.1, h.2.1, J345, h.2.2.2)) hH hB hV (by omega) (by omega) (by omega) (fun _ => by rw [q_v329]; omega) (p_at q_v337 (by omega) (by omega)) (p_at q_v186 (by omega) (by omega)) (fun v I hB2 hV2 hm2 ev => k (some (.int v)) I _ ⟨_, rfl, ⟨by show (-3 : Int) ≤ v.toInt; omega, by show v.toInt ≤ (2 : Int); omega⟩⟩ hB2 hV2 hm2)
                          · refine qm_Ru.go 5 (c' := (188, [.ref 28, .int y, .int r, .int s, .int 3, .int v186, .int 2, .int 2, .int v339, .float 0], [.int (-v339), .int r, .int y, .ref 28], (h.1, h.2.1, J345, h.2.2.2))) rfl ?_
                            rw [q_v342]
                            refine hk_inv (o := 28) (r := []) (as := [.ref 28, .int y, .int r, .int v342]) rfl rfl (hH.1 28 (9, 8) rfl) rfl rfl rfl rfl (hs_nowor111 h6 hH hT hB (v_C_ru hV) ⟨by show (0 : Int) ≤ y.toInt; omega, by show y.toInt ≤ (4 : Int); omega⟩ ⟨by show (0 : Int) ≤ r.toInt; omega, by show r.toInt ≤ (3 : Int); omega⟩ (qa_in_full _) (by omega) (fun v348 I349 J350 c_v348 _ e_I349 => ?_))
                            have e_I349 : I349 = h.2.1 := funext fun o => funext fun i => e_I349 o rfl i
                            subst e_I349
                            have b_v348 : (0 : Int) ≤ v348.toInt ∧ v348.toInt ≤ 1 := c_v348
                            refine qm_Ru.go 0 (c' := (191, [.ref 28, .int y, .int r, .int s, .int 3, .int v186, .int 2, .int 2, .int v339, .float 0], [.int v348], (h.1, h.2.1, J350, h.2.2.2))) rfl ?_
                            refine hk_zne (ix := v348.toInt) rfl rfl (fun z351 => ?_) (fun z351 => ?_)
                            · refine qm_Ru.go 0 (c' := (197, [.ref 28, .int y, .int r, .int s, .int 3, .int v186, .int 2, .int 2, .int v339, .float 0], [], (h.1, h.2.1, J350, h.2.2.2))) rfl ?_
                              exact hq_land23 (h := (h.1, h.2.1, J350, h.2.2.2)) hH hB hV (by omega) (by omega) (by omega) (fun _ => by rw [q_v329]; omega) (p_at q_v337 (by omega) (by omega)) (p_at q_v186 (by omega) (by omega)) (fun v I hB2 hV2 hm2 ev => k (some (.int v)) I _ ⟨_, rfl, ⟨by show (-3 : Int) ≤ v.toInt; omega, by show v.toInt ≤ (2 : Int); omega⟩⟩ hB2 hV2 hm2)
                            · refine qm_Ru.go 1 (c' := (196, [.ref 28, .int y, .int r, .int s, .int 3, .int v186, .int 2, .int 2, .int v339, .float 0], [.int (-3)], (h.1, h.2.1, J350, h.2.2.2))) rfl ?_
                              refine qm_Ru.rt (v := (some (.int (-3)))) (h' := (h.1, h.2.1, J350, h.2.2.2)) rfl ?_
                              exact k (some (.int (-3))) (h.2.1) (J350) ⟨_, rfl, ⟨by decide, by decide⟩⟩ hB hV (fun _ _ _ => rfl)
                        · refine qm_Ru.go 1 (c' := (169, [.ref 28, .int y, .int r, .int s, .int 3, .int v186, .int 2, .int 2, .int v339, .float 0], [.int (-2)], h)) rfl ?_
                          refine qm_Ru.rt (v := (some (.int (-2)))) (h' := h) rfl ?_
                          exact k (some (.int (-2))) (h.2.1) (h.2.2.1) ⟨_, rfl, ⟨by decide, by decide⟩⟩ hB hV (fun _ _ _ => rfl)
                      · refine qm_Ru.go 1 (c' := (110, [.ref 28, .int y, .int r, .int s, .int 3, .int v186, .int 2, .int 2, .float 0, .float 0], [.int (-1)], h)) rfl ?_
                        refine qm_Ru.rt (v := (some (.int (-1)))) (h' := h) rfl ?_
                        exact k (some (.int (-1))) (h.2.1) (h.2.2.1) ⟨_, rfl, ⟨by decide, by decide⟩⟩ hB hV (fun _ _ _ => rfl)
