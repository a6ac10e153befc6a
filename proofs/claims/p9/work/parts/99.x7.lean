/-! contracts of the reference by hand -/
theorem hc_rwould : hk_ct v_R (fun _ => True) (fun as I => ∃ b y r w : Int32, as = [.ref 118, .int b, .int y, .int r, .int w]) 302 (some (-2147483648, 2147483647)) [146, 147, 148, 149, 150, 151, 152, 153, 154, 155, 156] 60 := by
  intro L xs d Z h as h6 hH hT hB hV hp hd k
  obtain ⟨b, y, r, w, rfl⟩ := hp
  obtain ⟨d, rfl⟩ : ∃ e, d = e + 60 := ⟨d - 60, by omega⟩
  show qm_Ru (some (L, xs)) (d + 60) cd_302 (qm_ent 8 [.ref 118, .int b, .int y, .int r, .int w] h) Z
  refine qm_Ru.go 2 (c' := (2, [.ref 118, .int b, .int y, .int r, .int w, .float 0, .float 0, .float 0], [.int b, .ref 118], h)) rfl ?_
  refine hk_inv (o := 118) (r := []) (as := [.ref 118, .int b]) rfl rfl (hH.1 118 (17, 105) rfl) rfl rfl rfl rfl ?_
  refine qm_Ru.go 3 (c' := (3, [.ref 118, .int b], [.ref 118, .int 0, .int b], h)) rfl ?_
  obtain ⟨v1, q_v1⟩ : ∃ v, h.2.1 118 44 = v := ⟨_, rfl⟩
  have b_v1 : (0 : Int) ≤ v1.toInt ∧ v1.toInt ≤ 30 := by rw [← q_v1]; exact hB 118 44
  refine hk_geti (v := v1) rfl (hH.1 118 (17, 105) rfl) rfl q_v1 ?_
  refine qm_Ru.go 2 (c' := (8, [.ref 118, .int b], [.int (v1 - 1), .int 0, .int b], h)) rfl ?_
  obtain ⟨v2, q_v2, e_v2⟩ := hk_sub (x := v1) (y := 1) (a := v1.toInt) (b := 1) rfl rfl (by omega) (by omega)
  rw [q_v2]
  refine qm_Ru.call (j := 270) (as := [.int b, .int 0, .int v2]) (c' := (11, [.ref 118, .int b], [], h)) rfl rfl rfl ?_
  refine qm_Ru.go 2 (c' := (2, [.int b, .int 0, .int v2], [.int 0, .int b], h)) rfl ?_
  refine hk_clt (ix := b.toInt) (iy := 0) rfl rfl rfl (fun z3 => ?_) (fun z3 => ?_)
  · refine qm_Ru.go 1 (c' := (15, [.int b, .int 0, .int v2], [.int 0], h)) rfl ?_
    refine qm_Ru.rt (v := (some (.int 0))) (h' := h) rfl ?_
    refine qm_Ru.go 0 (c' := (11, [.ref 118, .int b], [.int 0], h)) rfl ?_
    refine qm_Ru.rt (v := (some (.int 0))) (h' := h) rfl ?_
    refine qm_Ru.go 2 (c' := (46, [.ref 118, .int b, .int y, .int r, .int w, .float 0, .float 0, .float 0], [.int (-1000000)], h)) rfl ?_
    refine qm_Ru.rt (v := (some (.int (-1000000)))) (h' := h) rfl ?_
    exact k (some (.int (-1000000))) (h.2.1) (h.2.2.1) ⟨_, rfl, ⟨by decide, by decide⟩⟩ hB hV (fun _ _ _ => rfl)
  · refine qm_Ru.go 2 (c' := (7, [.int b, .int 0, .int v2], [.int v2, .int b], h)) rfl ?_
    refine hk_cgt (ix := b.toInt) (iy := v2.toInt) rfl rfl rfl (fun z4 => ?_) (fun z4 => ?_)
    · refine qm_Ru.go 1 (c' := (15, [.int b, .int 0, .int v2], [.int 0], h)) rfl ?_
      refine qm_Ru.rt (v := (some (.int 0))) (h' := h) rfl ?_
      refine qm_Ru.go 0 (c' := (11, [.ref 118, .int b], [.int 0], h)) rfl ?_
      refine qm_Ru.rt (v := (some (.int 0))) (h' := h) rfl ?_
      refine qm_Ru.go 2 (c' := (46, [.ref 118, .int b, .int y, .int r, .int w, .float 0, .float 0, .float 0], [.int (-1000000)], h)) rfl ?_
      refine qm_Ru.rt (v := (some (.int (-1000000)))) (h' := h) rfl ?_
      exact k (some (.int (-1000000))) (h.2.1) (h.2.2.1) ⟨_, rfl, ⟨by decide, by decide⟩⟩ hB hV (fun _ _ _ => rfl)
    · refine qm_Ru.go 2 (c' := (15, [.int b, .int 0, .int v2], [.int 1], h)) rfl ?_
      refine qm_Ru.rt (v := (some (.int 1))) (h' := h) rfl ?_
      refine qm_Ru.go 0 (c' := (11, [.ref 118, .int b], [.int 1], h)) rfl ?_
      refine qm_Ru.rt (v := (some (.int 1))) (h' := h) rfl ?_
      refine qm_Ru.go 2 (c' := (9, [.ref 118, .int b, .int y, .int r, .int w, .float 0, .float 0, .float 0], [.ref 118], h)) rfl ?_
      refine hk_getr rfl (hH.1 118 (17, 105) rfl) rfl (hH.2 118 49 (some 150) rfl) ?_
      refine qm_Ru.go 1 (c' := (13, [.ref 118, .int b, .int y, .int r, .int w, .float 0, .float 0, .float 0], [.int b, .ref 150], h)) rfl ?_
      obtain ⟨v5, q_v5⟩ : ∃ v, h.2.1 150 (b.toInt.toNat) = v := ⟨_, rfl⟩
      have b_v5 : (0 : Int) ≤ v5.toInt ∧ v5.toInt ≤ 2 := by rw [← q_v5]; exact hB 150 (b.toInt.toNat)
      refine hk_ial (v := v5) rfl (hH.1 150 (0, 30) rfl) (by omega) (by omega) q_v5 ?_
      refine qm_Ru.go 1 (c' := (15, [.ref 118, .int b, .int y, .int r, .int w, .float 0, .float 0, .float 0], [.int 1, .int v5], h)) rfl ?_
      refine hk_ceq (ix := v5.toInt) (iy := 1) rfl rfl rfl (fun z6 => ?_) (fun z6 => ?_)
      · refine qm_Ru.go 1 (c' := (46, [.ref 118, .int b, .int y, .int r, .int w, .float 0, .float 0, .float 0], [.int (-1000000)], h)) rfl ?_
        refine qm_Ru.rt (v := (some (.int (-1000000)))) (h' := h) rfl ?_
        exact k (some (.int (-1000000))) (h.2.1) (h.2.2.1) ⟨_, rfl, ⟨by decide, by decide⟩⟩ hB hV (fun _ _ _ => rfl)
      · refine qm_Ru.go 2 (c' := (20, [.ref 118, .int b, .int y, .int r, .int w, .float 0, .float 0, .float 0], [.int y, .ref 118], h)) rfl ?_
        refine hk_inv (o := 118) (r := []) (as := [.ref 118, .int y]) rfl rfl (hH.1 118 (17, 105) rfl) rfl rfl rfl rfl ?_
        refine qm_Ru.go 3 (c' := (3, [.ref 118, .int y], [.ref 118, .int 0, .int y], h)) rfl ?_
        refine hk_getr rfl (hH.1 118 (17, 105) rfl) rfl (hH.2 118 22 (some 127) rfl) ?_
        refine qm_Ru.go 1 (c' := (7, [.ref 118, .int y], [.ref 118, .ref 127, .int 0, .int y], h)) rfl ?_
        obtain ⟨v7, q_v7⟩ : ∃ v, h.2.1 118 18 = v := ⟨_, rfl⟩
        have b_v7 : (0 : Int) ≤ v7.toInt ∧ v7.toInt ≤ 1 := by rw [← q_v7]; exact hB 118 18
        refine hk_geti (v := v7) rfl (hH.1 118 (17, 105) rfl) rfl q_v7 ?_
        refine qm_Ru.go 0 (c' := (10, [.ref 118, .int y], [.int v7, .ref 127, .int 0, .int y], h)) rfl ?_
        obtain ⟨v8, q_v8⟩ : ∃ v, h.2.1 127 (v7.toInt.toNat) = v := ⟨_, rfl⟩
        have b_v8 : (0 : Int) ≤ v8.toInt ∧ v8.toInt ≤ 5 := by rw [← q_v8]; exact hB 127 (v7.toInt.toNat)
        refine hk_ial (v := v8) rfl (hH.1 127 (0, 2) rfl) (by omega) (by omega) q_v8 ?_
        refine qm_Ru.go 2 (c' := (13, [.ref 118, .int y], [.int (v8 - 1), .int 0, .int y], h)) rfl ?_
        obtain ⟨v9, q_v9, e_v9⟩ := hk_sub (x := v8) (y := 1) (a := v8.toInt) (b := 1) rfl rfl (by omega) (by omega)
        rw [q_v9]
        refine qm_Ru.call (j := 270) (as := [.int y, .int 0, .int v9]) (c' := (16, [.ref 118, .int y], [], h)) rfl rfl rfl ?_
        refine qm_Ru.go 2 (c' := (2, [.int y, .int 0, .int v9], [.int 0, .int y], h)) rfl ?_
        refine hk_clt (ix := y.toInt) (iy := 0) rfl rfl rfl (fun z10 => ?_) (fun z10 => ?_)
        · refine qm_Ru.go 1 (c' := (15, [.int y, .int 0, .int v9], [.int 0], h)) rfl ?_
          refine qm_Ru.rt (v := (some (.int 0))) (h' := h) rfl ?_
          refine qm_Ru.go 0 (c' := (16, [.ref 118, .int y], [.int 0], h)) rfl ?_
          refine qm_Ru.rt (v := (some (.int 0))) (h' := h) rfl ?_
          refine qm_Ru.go 2 (c' := (46, [.ref 118, .int b, .int y, .int r, .int w, .float 0, .float 0, .float 0], [.int (-1000000)], h)) rfl ?_
          refine qm_Ru.rt (v := (some (.int (-1000000)))) (h' := h) rfl ?_
          exact k (some (.int (-1000000))) (h.2.1) (h.2.2.1) ⟨_, rfl, ⟨by decide, by decide⟩⟩ hB hV (fun _ _ _ => rfl)
        · refine qm_Ru.go 2 (c' := (7, [.int y, .int 0, .int v9], [.int v9, .int y], h)) rfl ?_
          refine hk_cgt (ix := y.toInt) (iy := v9.toInt) rfl rfl rfl (fun z11 => ?_) (fun z11 => ?_)
          · refine qm_Ru.go 1 (c' := (15, [.int y, .int 0, .int v9], [.int 0], h)) rfl ?_
            refine qm_Ru.rt (v := (some (.int 0))) (h' := h) rfl ?_
            refine qm_Ru.go 0 (c' := (16, [.ref 118, .int y], [.int 0], h)) rfl ?_
            refine qm_Ru.rt (v := (some (.int 0))) (h' := h) rfl ?_
            refine qm_Ru.go 2 (c' := (46, [.ref 118, .int b, .int y, .int r, .int w, .float 0, .float 0, .float 0], [.int (-1000000)], h)) rfl ?_
            refine qm_Ru.rt (v := (some (.int (-1000000)))) (h' := h) rfl ?_
            exact k (some (.int (-1000000))) (h.2.1) (h.2.2.1) ⟨_, rfl, ⟨by decide, by decide⟩⟩ hB hV (fun _ _ _ => rfl)
          · refine qm_Ru.go 2 (c' := (15, [.int y, .int 0, .int v9], [.int 1], h)) rfl ?_
            refine qm_Ru.rt (v := (some (.int 1))) (h' := h) rfl ?_
            refine qm_Ru.go 0 (c' := (16, [.ref 118, .int y], [.int 1], h)) rfl ?_
            refine qm_Ru.rt (v := (some (.int 1))) (h' := h) rfl ?_
            refine qm_Ru.go 2 (c' := (27, [.ref 118, .int b, .int y, .int r, .int w, .float 0, .float 0, .float 0], [.int r], h)) rfl ?_
            refine qm_Ru.call (j := 278) (as := [.int r]) (c' := (30, [.ref 118, .int b, .int y, .int r, .int w, .float 0, .float 0, .float 0], [], h)) rfl rfl rfl ?_
            refine qm_Ru.go 3 (c' := (3, [.int r], [.int 3, .int 0, .int r], h)) rfl ?_
            refine qm_Ru.call (j := 270) (as := [.int r, .int 0, .int 3]) (c' := (6, [.int r], [], h)) rfl rfl rfl ?_
            refine qm_Ru.go 2 (c' := (2, [.int r, .int 0, .int 3], [.int 0, .int r], h)) rfl ?_
            refine hk_clt (ix := r.toInt) (iy := 0) rfl rfl rfl (fun z12 => ?_) (fun z12 => ?_)
            · refine qm_Ru.go 1 (c' := (15, [.int r, .int 0, .int 3], [.int 0], h)) rfl ?_
              refine qm_Ru.rt (v := (some (.int 0))) (h' := h) rfl ?_
              refine qm_Ru.go 0 (c' := (6, [.int r], [.int 0], h)) rfl ?_
              refine qm_Ru.rt (v := (some (.int 0))) (h' := h) rfl ?_
              refine qm_Ru.go 2 (c' := (46, [.ref 118, .int b, .int y, .int r, .int w, .float 0, .float 0, .float 0], [.int (-1000000)], h)) rfl ?_
              refine qm_Ru.rt (v := (some (.int (-1000000)))) (h' := h) rfl ?_
              exact k (some (.int (-1000000))) (h.2.1) (h.2.2.1) ⟨_, rfl, ⟨by decide, by decide⟩⟩ hB hV (fun _ _ _ => rfl)
            · refine qm_Ru.go 2 (c' := (7, [.int r, .int 0, .int 3], [.int 3, .int r], h)) rfl ?_
              refine hk_cgt (ix := r.toInt) (iy := 3) rfl rfl rfl (fun z13 => ?_) (fun z13 => ?_)
              · refine qm_Ru.go 1 (c' := (15, [.int r, .int 0, .int 3], [.int 0], h)) rfl ?_
                refine qm_Ru.rt (v := (some (.int 0))) (h' := h) rfl ?_
                refine qm_Ru.go 0 (c' := (6, [.int r], [.int 0], h)) rfl ?_
                refine qm_Ru.rt (v := (some (.int 0))) (h' := h) rfl ?_
                refine qm_Ru.go 2 (c' := (46, [.ref 118, .int b, .int y, .int r, .int w, .float 0, .float 0, .float 0], [.int (-1000000)], h)) rfl ?_
                refine qm_Ru.rt (v := (some (.int (-1000000)))) (h' := h) rfl ?_
                exact k (some (.int (-1000000))) (h.2.1) (h.2.2.1) ⟨_, rfl, ⟨by decide, by decide⟩⟩ hB hV (fun _ _ _ => rfl)
              · refine qm_Ru.go 2 (c' := (15, [.int r, .int 0, .int 3], [.int 1], h)) rfl ?_
                refine qm_Ru.rt (v := (some (.int 1))) (h' := h) rfl ?_
                refine qm_Ru.go 0 (c' := (6, [.int r], [.int 1], h)) rfl ?_
                refine qm_Ru.rt (v := (some (.int 1))) (h' := h) rfl ?_
                refine qm_Ru.go 4 (c' := (37, [.ref 118, .int b, .int y, .int r, .int w, .float 0, .float 0, .float 0], [.int 2, .int 0, .int w], h)) rfl ?_
                refine qm_Ru.call (j := 270) (as := [.int w, .int 0, .int 2]) (c' := (40, [.ref 118, .int b, .int y, .int r, .int w, .float 0, .float 0, .float 0], [], h)) rfl rfl rfl ?_
                refine qm_Ru.go 2 (c' := (2, [.int w, .int 0, .int 2], [.int 0, .int w], h)) rfl ?_
                refine hk_clt (ix := w.toInt) (iy := 0) rfl rfl rfl (fun z14 => ?_) (fun z14 => ?_)
                · refine qm_Ru.go 1 (c' := (15, [.int w, .int 0, .int 2], [.int 0], h)) rfl ?_
                  refine qm_Ru.rt (v := (some (.int 0))) (h' := h) rfl ?_
                  refine qm_Ru.go 2 (c' := (46, [.ref 118, .int b, .int y, .int r, .int w, .float 0, .float 0, .float 0], [.int (-1000000)], h)) rfl ?_
                  refine qm_Ru.rt (v := (some (.int (-1000000)))) (h' := h) rfl ?_
                  exact k (some (.int (-1000000))) (h.2.1) (h.2.2.1) ⟨_, rfl, ⟨by decide, by decide⟩⟩ hB hV (fun _ _ _ => rfl)
                · refine qm_Ru.go 2 (c' := (7, [.int w, .int 0, .int 2], [.int 2, .int w], h)) rfl ?_
                  refine hk_cgt (ix := w.toInt) (iy := 2) rfl rfl rfl (fun z15 => ?_) (fun z15 => ?_)
                  · refine qm_Ru.go 1 (c' := (15, [.int w, .int 0, .int 2], [.int 0], h)) rfl ?_
                    refine qm_Ru.rt (v := (some (.int 0))) (h' := h) rfl ?_
                    refine qm_Ru.go 2 (c' := (46, [.ref 118, .int b, .int y, .int r, .int w, .float 0, .float 0, .float 0], [.int (-1000000)], h)) rfl ?_
                    refine qm_Ru.rt (v := (some (.int (-1000000)))) (h' := h) rfl ?_
                    exact k (some (.int (-1000000))) (h.2.1) (h.2.2.1) ⟨_, rfl, ⟨by decide, by decide⟩⟩ hB hV (fun _ _ _ => rfl)
                  · refine qm_Ru.go 2 (c' := (15, [.int w, .int 0, .int 2], [.int 1], h)) rfl ?_
                    refine qm_Ru.rt (v := (some (.int 1))) (h' := h) rfl ?_
                    refine qm_Ru.go 2 (c' := (48, [.ref 118, .int b, .int y, .int r, .int w, .float 0, .float 0, .float 0], [.ref 118], h)) rfl ?_
                    refine hk_getr rfl (hH.1 118 (17, 105) rfl) rfl (hH.2 118 49 (some 150) rfl) ?_
                    refine qm_Ru.go 1 (c' := (52, [.ref 118, .int b, .int y, .int r, .int w, .float 0, .float 0, .float 0], [.int b, .ref 150], h)) rfl ?_
                    refine hk_ial (v := v5) rfl (hH.1 150 (0, 30) rfl) (by omega) (by omega) q_v5 ?_
                    refine qm_Ru.go 2 (c' := (56, [.ref 118, .int b, .int y, .int r, .int w, .int v5, .float 0, .float 0], [.ref 118], h)) rfl ?_
                    refine hk_getr rfl (hH.1 118 (17, 105) rfl) rfl (hH.2 118 50 (some 151) rfl) ?_
                    refine qm_Ru.go 1 (c' := (60, [.ref 118, .int b, .int y, .int r, .int w, .int v5, .float 0, .float 0], [.int b, .ref 151], h)) rfl ?_
                    obtain ⟨v16, q_v16⟩ : ∃ v, h.2.1 151 (b.toInt.toNat) = v := ⟨_, rfl⟩
                    have b_v16 : (0 : Int) ≤ v16.toInt ∧ v16.toInt ≤ 79 := by rw [← q_v16]; exact hB 151 (b.toInt.toNat)
                    refine hk_ial (v := v16) rfl (hH.1 151 (0, 30) rfl) (by omega) (by omega) q_v16 ?_
                    refine qm_Ru.go 2 (c' := (64, [.ref 118, .int b, .int y, .int r, .int w, .int v5, .int v16, .float 0], [.ref 118], h)) rfl ?_
                    refine hk_getr rfl (hH.1 118 (17, 105) rfl) rfl (hH.2 118 49 (some 150) rfl) ?_
                    refine qm_Ru.go 2 (c' := (69, [.ref 118, .int b, .int y, .int r, .int w, .int v5, .int v16, .float 0], [.int 1, .int b, .ref 150], h)) rfl ?_
                    refine hk_ias rfl (hH.1 150 (0, 30) rfl) (by omega) (by omega) ?_
                    refine qm_Ru.go 1 (c' := (71, [.ref 118, .int b, .int y, .int r, .int w, .int v5, .int v16, .float 0], [.ref 118], (h.1, qm_up h.2.1 150 (b.toInt.toNat) 1, h.2.2.1, h.2.2.2))) rfl ?_
                    refine hk_getr rfl (hH.1 118 (17, 105) rfl) rfl (hH.2 118 50 (some 151) rfl) ?_
                    refine qm_Ru.go 4 (c' := (79, [.ref 118, .int b, .int y, .int r, .int w, .int v5, .int v16, .float 0], [.int (16 * y), .int b, .ref 151], (h.1, qm_up h.2.1 150 (b.toInt.toNat) 1, h.2.2.1, h.2.2.2))) rfl ?_
                    obtain ⟨v17, q_v17, e_v17⟩ := hk_mul (x := 16) (y := y) (a := 16) (b := y.toInt) rfl rfl (by omega) (by omega)
                    rw [q_v17]
                    refine qm_Ru.go 3 (c' := (82, [.ref 118, .int b, .int y, .int r, .int w, .int v5, .int v16, .float 0], [.int (4 * r), .int v17, .int b, .ref 151], (h.1, qm_up h.2.1 150 (b.toInt.toNat) 1, h.2.2.1, h.2.2.2))) rfl ?_
                    obtain ⟨v18, q_v18, e_v18⟩ := hk_mul (x := 4) (y := r) (a := 4) (b := r.toInt) rfl rfl (by omega) (by omega)
                    rw [q_v18]
                    refine qm_Ru.go 1 (c' := (83, [.ref 118, .int b, .int y, .int r, .int w, .int v5, .int v16, .float 0], [.int (v17 + v18), .int b, .ref 151], (h.1, qm_up h.2.1 150 (b.toInt.toNat) 1, h.2.2.1, h.2.2.2))) rfl ?_
                    obtain ⟨v19, q_v19, e_v19⟩ := hk_add (x := v17) (y := v18) (a := v17.toInt) (b := v18.toInt) rfl rfl (by omega) (by omega)
                    rw [q_v19]
                    refine hk_ias rfl (hH.1 151 (0, 30) rfl) (by omega) (by omega) ?_
                    refine qm_Ru.go 2 (c' := (87, [.ref 118, .int b, .int y, .int r, .int w, .int v5, .int v16, .float 0], [.int w, .ref 118], (h.1, qm_up (qm_up h.2.1 150 (b.toInt.toNat) 1) 151 (b.toInt.toNat) v19, h.2.2.1, h.2.2.2))) rfl ?_
                    refine hk_inv (o := 118) (r := []) (as := [.ref 118, .int w]) rfl rfl (hH.1 118 (17, 105) rfl) rfl rfl rfl rfl (hs_rship (h := (h.1, qm_up (qm_up h.2.1 150 (b.toInt.toNat) 1) 151 (b.toInt.toNat) v19, h.2.2.1, h.2.2.2)) h6 hH (hb_up (o := 151) (k := b.toInt.toNat) (x := v19) (hb_up (o := 150) (k := b.toInt.toNat) (x := 1) hB ⟨(show (0 : Int) ≤ 1 from by decide), (show (1 : Int) ≤ 2 from by decide)⟩) ⟨by show (0 : Int) ≤ v19.toInt; omega, by show v19.toInt ≤ (79 : Int); omega⟩) (ru_would hV) ⟨by show (0 : Int) ≤ w.toInt; omega, by show w.toInt ≤ (2 : Int); omega⟩ (by omega) (fun v22 I20 J21 c_v22 hB_I20 e_I20 => ?_))
                    have b_v22 : (-2147483648 : Int) ≤ v22.toInt ∧ v22.toInt ≤ 2147483647 := c_v22
                    refine qm_Ru.go 2 (c' := (93, [.ref 118, .int b, .int y, .int r, .int w, .int v5, .int v16, .int v22], [.ref 118], (h.1, I20, J21, h.2.2.2))) rfl ?_
                    refine hk_getr rfl (hH.1 118 (17, 105) rfl) rfl (hH.2 118 49 (some 150) rfl) ?_
                    refine qm_Ru.go 2 (c' := (99, [.ref 118, .int b, .int y, .int r, .int w, .int v5, .int v16, .int v22], [.int v5, .int b, .ref 150], (h.1, I20, J21, h.2.2.2))) rfl ?_
                    refine hk_ias rfl (hH.1 150 (0, 30) rfl) (by omega) (by omega) ?_
                    refine qm_Ru.go 1 (c' := (101, [.ref 118, .int b, .int y, .int r, .int w, .int v5, .int v16, .int v22], [.ref 118], (h.1, qm_up I20 150 (b.toInt.toNat) v5, J21, h.2.2.2))) rfl ?_
                    refine hk_getr rfl (hH.1 118 (17, 105) rfl) rfl (hH.2 118 50 (some 151) rfl) ?_
                    refine qm_Ru.go 2 (c' := (107, [.ref 118, .int b, .int y, .int r, .int w, .int v5, .int v16, .int v22], [.int v16, .int b, .ref 151], (h.1, qm_up I20 150 (b.toInt.toNat) v5, J21, h.2.2.2))) rfl ?_
                    refine hk_ias rfl (hH.1 151 (0, 30) rfl) (by omega) (by omega) ?_
                    refine qm_Ru.go 1 (c' := (110, [.ref 118, .int b, .int y, .int r, .int w, .int v5, .int v16, .int v22], [.int v22], (h.1, qm_up (qm_up I20 150 (b.toInt.toNat) v5) 151 (b.toInt.toNat) v16, J21, h.2.2.2))) rfl ?_
                    refine qm_Ru.rt (v := (some (.int v22))) (h' := (h.1, qm_up (qm_up I20 150 (b.toInt.toNat) v5) 151 (b.toInt.toNat) v16, J21, h.2.2.2)) rfl ?_
                    exact k (some (.int v22)) (qm_up (qm_up I20 150 (b.toInt.toNat) v5) 151 (b.toInt.toNat) v16) (J21) ⟨_, rfl, qa_in_full _⟩ (hb_up (o := 151) (k := b.toInt.toNat) (x := v16) (hb_up (o := 150) (k := b.toInt.toNat) (x := v5) hB_I20 ⟨by show (0 : Int) ≤ v5.toInt; omega, by show v5.toInt ≤ (2 : Int); omega⟩) ⟨by show (0 : Int) ≤ v16.toInt; omega, by show v16.toInt ≤ (79 : Int); omega⟩) (v_R_cg hV (would_back e_I20 q_v5 q_v16) rfl) (fun o ho i => (would_back e_I20 q_v5 q_v16) o (hk_ms rfl ho) i)
