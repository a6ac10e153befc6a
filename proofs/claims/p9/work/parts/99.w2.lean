/-! contracts by hand -/
theorem hq_try29 {L : Nat} {xs : Nat → Int32} {d : Nat} {Z : Option Value → qm_H → Prop} {h : qm_H} (h6 : 6 ≤ L) (hH : hk_H h) (hT : h.2.2.2 0 9 = some 111 ∧ h.2.2.2 28 2 = some 29) (hB : hk_B h.2.1) (hV : v_C h.2.1) {b y r : Int32} (k0 : ∀ (v : Int32) (J : Nat → Nat → Int64), -3 ≤ v.toInt → v.toInt ≤ -1 → Z (some (.int v)) (h.1, h.2.1, J, h.2.2.2)) (k1 : ∀ (t : Int32) (J : Nat → Nat → Int64), t_free h.2.1 y.toInt r.toInt t.toInt → t_had h.2.1 b.toInt → Z (some (.int t)) (h.1, h.2.1, J, h.2.2.2)) : qm_Ru (some (L, xs)) (d + 30) cd_87 (qm_ent 6 [.ref 28, .int b, .int y, .int r] h) Z := by
  refine qm_Ru.go 3 (c' := (3, [.ref 28, .int b, .int y, .int r, .float 0, .float 0], [.int r, .int y, .ref 28], h)) rfl ?_
  refine hk_inv (o := 28) (r := []) (as := [.ref 28, .int y, .int r]) rfl rfl (hH.1 28 (9, 8) rfl) rfl rfl rfl rfl ?_
  refine qm_Ru.go 2 (c' := (2, [.ref 28, .int y, .int r], [.int y, .ref 28], h)) rfl ?_
  refine hk_inv (o := 28) (r := []) (as := [.ref 28, .int y]) rfl rfl (hH.1 28 (9, 8) rfl) rfl rfl rfl rfl ?_
  refine qm_Ru.go 1 (c' := (1, [.ref 28, .int y], [.int y], h)) rfl ?_
  refine hk_zlt (ix := y.toInt) rfl rfl (fun z1 => ?_) (fun z1 => ?_)
  · refine qm_Ru.go 1 (c' := (20, [.ref 28, .int y], [.int 0], h)) rfl ?_
    refine qm_Ru.rt (v := (some (.int 0))) (h' := h) rfl ?_
    refine qm_Ru.go 2 (c' := (22, [.ref 28, .int y, .int r], [.int 0], h)) rfl ?_
    refine qm_Ru.rt (v := (some (.int 0))) (h' := h) rfl ?_
    refine qm_Ru.go 2 (c' := (18, [.ref 28, .int b, .int y, .int r, .float 0, .float 0], [.int (-1)], h)) rfl ?_
    refine qm_Ru.rt (v := (some (.int (-1)))) (h' := h) rfl ?_
    exact k0 (-1) h.2.2.1 (by decide) (by decide)
  · refine qm_Ru.go 2 (c' := (6, [.ref 28, .int y], [.ref 28, .int y], h)) rfl ?_
    refine hk_getr rfl (hH.1 28 (9, 8) rfl) rfl hT.2 ?_
    refine qm_Ru.go 0 (c' := (9, [.ref 28, .int y], [.ref 29, .int y], h)) rfl ?_
    obtain ⟨v2, q_v2⟩ : ∃ v, h.2.1 29 0 = v := ⟨_, rfl⟩
    have b_v2 : (2 : Int) ≤ v2.toInt ∧ v2.toInt ≤ 5 := by rw [← q_v2]; exact hB 29 0
    refine hk_geti (v := v2) rfl (hH.1 29 (11, 16) rfl) rfl q_v2 ?_
    refine qm_Ru.go 0 (c' := (12, [.ref 28, .int y], [.int v2, .int y], h)) rfl ?_
    refine hk_cge (ix := y.toInt) (iy := v2.toInt) rfl rfl rfl (fun z3 => ?_) (fun z3 => ?_)
    · refine qm_Ru.go 1 (c' := (20, [.ref 28, .int y], [.int 0], h)) rfl ?_
      refine qm_Ru.rt (v := (some (.int 0))) (h' := h) rfl ?_
      refine qm_Ru.go 2 (c' := (22, [.ref 28, .int y, .int r], [.int 0], h)) rfl ?_
      refine qm_Ru.rt (v := (some (.int 0))) (h' := h) rfl ?_
      refine qm_Ru.go 2 (c' := (18, [.ref 28, .int b, .int y, .int r, .float 0, .float 0], [.int (-1)], h)) rfl ?_
      refine qm_Ru.rt (v := (some (.int (-1)))) (h' := h) rfl ?_
      exact k0 (-1) h.2.2.1 (by decide) (by decide)
    · refine qm_Ru.go 2 (c' := (20, [.ref 28, .int y], [.int 1], h)) rfl ?_
      refine qm_Ru.rt (v := (some (.int 1))) (h' := h) rfl ?_
      refine qm_Ru.go 2 (c' := (9, [.ref 28, .int y, .int r], [.int r], h)) rfl ?_
      refine hk_zlt (ix := r.toInt) rfl rfl (fun z4 => ?_) (fun z4 => ?_)
      · refine qm_Ru.go 1 (c' := (22, [.ref 28, .int y, .int r], [.int 0], h)) rfl ?_
        refine qm_Ru.rt (v := (some (.int 0))) (h' := h) rfl ?_
        refine qm_Ru.go 2 (c' := (18, [.ref 28, .int b, .int y, .int r, .float 0, .float 0], [.int (-1)], h)) rfl ?_
        refine qm_Ru.rt (v := (some (.int (-1)))) (h' := h) rfl ?_
        exact k0 (-1) h.2.2.1 (by decide) (by decide)
      · refine qm_Ru.go 2 (c' := (14, [.ref 28, .int y, .int r], [.int 4, .int r], h)) rfl ?_
        refine hk_cge (ix := r.toInt) (iy := 4) rfl rfl rfl (fun z5 => ?_) (fun z5 => ?_)
        · refine qm_Ru.go 1 (c' := (22, [.ref 28, .int y, .int r], [.int 0], h)) rfl ?_
          refine qm_Ru.rt (v := (some (.int 0))) (h' := h) rfl ?_
          refine qm_Ru.go 2 (c' := (18, [.ref 28, .int b, .int y, .int r, .float 0, .float 0], [.int (-1)], h)) rfl ?_
          refine qm_Ru.rt (v := (some (.int (-1)))) (h' := h) rfl ?_
          exact k0 (-1) h.2.2.1 (by decide) (by decide)
        · refine qm_Ru.go 2 (c' := (22, [.ref 28, .int y, .int r], [.int 1], h)) rfl ?_
          refine qm_Ru.rt (v := (some (.int 1))) (h' := h) rfl ?_
          refine qm_Ru.go 3 (c' := (11, [.ref 28, .int b, .int y, .int r, .float 0, .float 0], [.int b, .ref 28], h)) rfl ?_
          refine hk_inv (o := 28) (r := []) (as := [.ref 28, .int b]) rfl rfl (hH.1 28 (9, 8) rfl) rfl rfl rfl rfl ?_
          refine qm_Ru.go 1 (c' := (1, [.ref 28, .int b], [.ref 28], h)) rfl ?_
          refine hk_getr rfl (hH.1 28 (9, 8) rfl) rfl (hH.2 28 0 (some 6) rfl) ?_
          refine qm_Ru.go 1 (c' := (5, [.ref 28, .int b], [.int b, .ref 6], h)) rfl ?_
          refine hk_inv (o := 6) (r := []) (as := [.ref 6, .int b]) rfl rfl (hH.1 6 (6, 9) rfl) rfl rfl rfl rfl ?_
          refine qm_Ru.go 2 (c' := (2, [.ref 6, .int b], [.int b, .ref 6], h)) rfl ?_
          refine hk_inv (o := 6) (r := []) (as := [.ref 6, .int b]) rfl rfl (hH.1 6 (6, 9) rfl) rfl rfl rfl rfl ?_
          refine qm_Ru.go 1 (c' := (1, [.ref 6, .int b], [.int b], h)) rfl ?_
          refine hk_zlt (ix := b.toInt) rfl rfl (fun z6 => ?_) (fun z6 => ?_)
          · refine qm_Ru.go 1 (c' := (17, [.ref 6, .int b], [.int 0], h)) rfl ?_
            refine qm_Ru.rt (v := (some (.int 0))) (h' := h) rfl ?_
            refine qm_Ru.go 2 (c' := (22, [.ref 6, .int b], [.int 0], h)) rfl ?_
            refine qm_Ru.rt (v := (some (.int 0))) (h' := h) rfl ?_
            refine qm_Ru.go 2 (c' := (12, [.ref 28, .int b], [.ref 28], h)) rfl ?_
            refine hk_getr rfl (hH.1 28 (9, 8) rfl) rfl (hH.2 28 0 (some 6) rfl) ?_
            refine qm_Ru.go 1 (c' := (16, [.ref 28, .int b], [.int b, .ref 6], h)) rfl ?_
            refine hk_inv (o := 6) (r := []) (as := [.ref 6, .int b]) rfl rfl (hH.1 6 (6, 9) rfl) rfl rfl rfl rfl ?_
            refine qm_Ru.go 2 (c' := (2, [.ref 6, .int b], [.int b, .ref 6], h)) rfl ?_
            refine hk_inv (o := 6) (r := []) (as := [.ref 6, .int b]) rfl rfl (hH.1 6 (6, 9) rfl) rfl rfl rfl rfl ?_
            refine qm_Ru.go 1 (c' := (1, [.ref 6, .int b], [.int b], h)) rfl ?_
            refine hk_zlt (ix := b.toInt) rfl rfl (fun z7 => ?_) (fun z7 => by exfalso; omega)
            refine qm_Ru.go 1 (c' := (17, [.ref 6, .int b], [.int 0], h)) rfl ?_
            refine qm_Ru.rt (v := (some (.int 0))) (h' := h) rfl ?_
            refine qm_Ru.go 2 (c' := (23, [.ref 6, .int b], [.int 0], h)) rfl ?_
            refine qm_Ru.rt (v := (some (.int 0))) (h' := h) rfl ?_
            refine qm_Ru.go 2 (c' := (47, [.ref 28, .int b], [.int 0], h)) rfl ?_
            refine qm_Ru.rt (v := (some (.int 0))) (h' := h) rfl ?_
            refine qm_Ru.go 2 (c' := (18, [.ref 28, .int b, .int y, .int r, .float 0, .float 0], [.int (-1)], h)) rfl ?_
            refine qm_Ru.rt (v := (some (.int (-1)))) (h' := h) rfl ?_
            exact k0 (-1) h.2.2.1 (by decide) (by decide)
          · refine qm_Ru.go 2 (c' := (6, [.ref 6, .int b], [.ref 6, .int b], h)) rfl ?_
            obtain ⟨v8, q_v8⟩ : ∃ v, h.2.1 6 0 = v := ⟨_, rfl⟩
            have b_v8 : (0 : Int) ≤ v8.toInt ∧ v8.toInt ≤ 30 := by rw [← q_v8]; exact hB 6 0
            refine hk_geti (v := v8) rfl (hH.1 6 (6, 9) rfl) rfl q_v8 ?_
            refine qm_Ru.go 0 (c' := (9, [.ref 6, .int b], [.int v8, .int b], h)) rfl ?_
            refine hk_cge (ix := b.toInt) (iy := v8.toInt) rfl rfl rfl (fun z9 => ?_) (fun z9 => ?_)
            · refine qm_Ru.go 1 (c' := (17, [.ref 6, .int b], [.int 0], h)) rfl ?_
              refine qm_Ru.rt (v := (some (.int 0))) (h' := h) rfl ?_
              refine qm_Ru.go 2 (c' := (22, [.ref 6, .int b], [.int 0], h)) rfl ?_
              refine qm_Ru.rt (v := (some (.int 0))) (h' := h) rfl ?_
              refine qm_Ru.go 2 (c' := (12, [.ref 28, .int b], [.ref 28], h)) rfl ?_
              refine hk_getr rfl (hH.1 28 (9, 8) rfl) rfl (hH.2 28 0 (some 6) rfl) ?_
              refine qm_Ru.go 1 (c' := (16, [.ref 28, .int b], [.int b, .ref 6], h)) rfl ?_
              refine hk_inv (o := 6) (r := []) (as := [.ref 6, .int b]) rfl rfl (hH.1 6 (6, 9) rfl) rfl rfl rfl rfl ?_
              refine qm_Ru.go 2 (c' := (2, [.ref 6, .int b], [.int b, .ref 6], h)) rfl ?_
              refine hk_inv (o := 6) (r := []) (as := [.ref 6, .int b]) rfl rfl (hH.1 6 (6, 9) rfl) rfl rfl rfl rfl ?_
              refine qm_Ru.go 1 (c' := (1, [.ref 6, .int b], [.int b], h)) rfl ?_
              refine hk_zlt (ix := b.toInt) rfl rfl (fun z10 => by exfalso; omega) (fun z10 => ?_)
              refine qm_Ru.go 2 (c' := (6, [.ref 6, .int b], [.ref 6, .int b], h)) rfl ?_
              refine hk_geti (v := v8) rfl (hH.1 6 (6, 9) rfl) rfl q_v8 ?_
              refine qm_Ru.go 0 (c' := (9, [.ref 6, .int b], [.int v8, .int b], h)) rfl ?_
              refine hk_cge (ix := b.toInt) (iy := v8.toInt) rfl rfl rfl (fun z11 => ?_) (fun z11 => ?_)
              · refine qm_Ru.go 1 (c' := (17, [.ref 6, .int b], [.int 0], h)) rfl ?_
                refine qm_Ru.rt (v := (some (.int 0))) (h' := h) rfl ?_
                refine qm_Ru.go 2 (c' := (23, [.ref 6, .int b], [.int 0], h)) rfl ?_
                refine qm_Ru.rt (v := (some (.int 0))) (h' := h) rfl ?_
                refine qm_Ru.go 2 (c' := (47, [.ref 28, .int b], [.int 0], h)) rfl ?_
                refine qm_Ru.rt (v := (some (.int 0))) (h' := h) rfl ?_
                refine qm_Ru.go 2 (c' := (18, [.ref 28, .int b, .int y, .int r, .float 0, .float 0], [.int (-1)], h)) rfl ?_
                refine qm_Ru.rt (v := (some (.int (-1)))) (h' := h) rfl ?_
                exact k0 (-1) h.2.2.1 (by decide) (by decide)
              · refine qm_Ru.go 2 (c' := (17, [.ref 6, .int b], [.int 1], h)) rfl ?_
                refine qm_Ru.rt (v := (some (.int 1))) (h' := h) rfl ?_
                refine qm_Ru.go 2 (c' := (9, [.ref 6, .int b], [.ref 6], h)) rfl ?_
                refine hk_getr rfl (hH.1 6 (6, 9) rfl) rfl (hH.2 6 5 (some 11) rfl) ?_
                refine qm_Ru.go 1 (c' := (13, [.ref 6, .int b], [.int b, .ref 11], h)) rfl ?_
                obtain ⟨v12, q_v12⟩ : ∃ v, h.2.1 11 (b.toInt.toNat) = v := ⟨_, rfl⟩
                have b_v12 : (0 : Int) ≤ v12.toInt ∧ v12.toInt ≤ 2 := by rw [← q_v12]; exact hB 11 (b.toInt.toNat)
                refine hk_ial (v := v12) rfl (hH.1 11 (0, 30) rfl) (by omega) (by omega) q_v12 ?_
                refine qm_Ru.go 1 (c' := (15, [.ref 6, .int b], [.int 1, .int v12], h)) rfl ?_
                refine hk_ceq (ix := v12.toInt) (iy := 1) rfl rfl rfl (fun z13 => ?_) (fun z13 => ?_)
                · refine qm_Ru.go 1 (c' := (23, [.ref 6, .int b], [.int 0], h)) rfl ?_
                  refine qm_Ru.rt (v := (some (.int 0))) (h' := h) rfl ?_
                  refine qm_Ru.go 2 (c' := (47, [.ref 28, .int b], [.int 0], h)) rfl ?_
                  refine qm_Ru.rt (v := (some (.int 0))) (h' := h) rfl ?_
                  refine qm_Ru.go 2 (c' := (18, [.ref 28, .int b, .int y, .int r, .float 0, .float 0], [.int (-1)], h)) rfl ?_
                  refine qm_Ru.rt (v := (some (.int (-1)))) (h' := h) rfl ?_
                  exact k0 (-1) h.2.2.1 (by decide) (by decide)
                · refine qm_Ru.go 2 (c' := (23, [.ref 6, .int b], [.int 1], h)) rfl ?_
                  refine qm_Ru.rt (v := (some (.int 1))) (h' := h) rfl ?_
                  refine qm_Ru.go 1 (c' := (22, [.ref 28, .int b], [], h)) rfl ?_
                  obtain ⟨v14, q_v14⟩ : ∃ v, h.2.1 12 (b.toInt.toNat) = v := ⟨_, rfl⟩
                  have b_v14 : (-1 : Int) ≤ v14.toInt ∧ v14.toInt ≤ 4 := by rw [← q_v14]; exact hB 12 (b.toInt.toNat)
                  have r_v14 : (0 : Int) ≤ v14.toInt ∧ v14.toInt ≤ 3 := by rw [← q_v14]; exact ((hV.1.1.2.2.2 (b.toInt.toNat)).2 (show (h.2.1 11 (b.toInt.toNat)).toInt = 2 from by rw [q_v12]; omega)).1
                  refine qm_Ru.go 1 (c' := (23, [.ref 28, .int b], [.ref 28], h)) rfl ?_
                  refine hk_getr rfl (hH.1 28 (9, 8) rfl) rfl (hH.2 28 1 (some 15) rfl) ?_
                  refine qm_Ru.go 1 (c' := (27, [.ref 28, .int b], [.ref 28, .ref 15], h)) rfl ?_
                  refine hk_getr rfl (hH.1 28 (9, 8) rfl) rfl (hH.2 28 0 (some 6) rfl) ?_
                  refine qm_Ru.go 0 (c' := (30, [.ref 28, .int b], [.ref 6, .ref 15], h)) rfl ?_
                  refine hk_getr rfl (hH.1 6 (6, 9) rfl) rfl (hH.2 6 6 (some 12) rfl) ?_
                  refine qm_Ru.go 1 (c' := (34, [.ref 28, .int b], [.int b, .ref 12, .ref 15], h)) rfl ?_
                  refine hk_ial (v := v14) rfl (hH.1 12 (0, 30) rfl) (by omega) (by omega) q_v14 ?_
                  refine qm_Ru.go 0 (c' := (35, [.ref 28, .int b], [.int v14, .ref 15], h)) rfl ?_
                  refine hk_inv (o := 15) (r := []) (as := [.ref 15, .int v14]) rfl rfl (hH.1 15 (15, 8) rfl) rfl rfl rfl rfl ?_
                  refine qm_Ru.go 1 (c' := (1, [.ref 15, .int v14], [.ref 15], h)) rfl ?_
                  refine hk_getr rfl (hH.1 15 (15, 8) rfl) rfl (hH.2 15 2 (some 17) rfl) ?_
                  refine qm_Ru.go 1 (c' := (5, [.ref 15, .int v14], [.int v14, .ref 17], h)) rfl ?_
                  obtain ⟨v15, q_v15⟩ : ∃ v, h.2.1 17 (v14.toInt.toNat) = v := ⟨_, rfl⟩
                  have b_v15 : (0 : Int) ≤ v15.toInt ∧ v15.toInt ≤ 4 := by rw [← q_v15]; exact hB 17 (v14.toInt.toNat)
                  refine hk_ial (v := v15) rfl (hH.1 17 (0, 4) rfl) (by omega) (by omega) q_v15 ?_
                  refine qm_Ru.go 0 (c' := (6, [.ref 15, .int v14], [.int v15], h)) rfl ?_
                  refine hk_zne (ix := v15.toInt) rfl rfl (fun z16 => ?_) (fun z16 => ?_)
                  · refine qm_Ru.go 1 (c' := (14, [.ref 15, .int v14], [.ref 15], h)) rfl ?_
                    refine hk_getr rfl (hH.1 15 (15, 8) rfl) rfl (hH.2 15 1 (some 16) rfl) ?_
                    refine qm_Ru.go 3 (c' := (20, [.ref 15, .int v14], [.int (v14 * 4), .ref 16], h)) rfl ?_
                    obtain ⟨v17, q_v17, e_v17⟩ := hk_mul (x := v14) (y := 4) (a := v14.toInt) (b := 4) rfl rfl (by omega) (by omega)
                    rw [q_v17]
                    refine qm_Ru.go 1 (c' := (21, [.ref 15, .int v14], [.ref 15, .int v17, .ref 16], h)) rfl ?_
                    refine hk_getr rfl (hH.1 15 (15, 8) rfl) rfl (hH.2 15 2 (some 17) rfl) ?_
                    refine qm_Ru.go 1 (c' := (25, [.ref 15, .int v14], [.int v14, .ref 17, .int v17, .ref 16], h)) rfl ?_
                    refine hk_ial (v := v15) rfl (hH.1 17 (0, 4) rfl) (by omega) (by omega) q_v15 ?_
                    refine qm_Ru.go 1 (c' := (27, [.ref 15, .int v14], [.int (v17 + v15), .ref 16], h)) rfl ?_
                    obtain ⟨v18, q_v18, e_v18⟩ := hk_add (x := v17) (y := v15) (a := v17.toInt) (b := v15.toInt) rfl rfl (by omega) (by omega)
                    rw [q_v18]
                    refine qm_Ru.go 2 (c' := (29, [.ref 15, .int v14], [.int (v18 - 1), .ref 16], h)) rfl ?_
                    obtain ⟨v19, q_v19, e_v19⟩ := hk_sub (x := v18) (y := 1) (a := v18.toInt) (b := 1) rfl rfl (by omega) (by omega)
                    rw [q_v19]
                    obtain ⟨v20, q_v20⟩ : ∃ v, h.2.1 16 (v19.toInt.toNat) = v := ⟨_, rfl⟩
                    have b_v20 : (0 : Int) ≤ v20.toInt ∧ v20.toInt ≤ 29 := by rw [← q_v20]; exact hB 16 (v19.toInt.toNat)
                    refine hk_ial (v := v20) rfl (hH.1 16 (0, 16) rfl) (by omega) (by omega) q_v20 ?_
                    refine qm_Ru.go 0 (c' := (30, [.ref 15, .int v14], [.int v20], h)) rfl ?_
                    refine qm_Ru.rt (v := (some (.int v20))) (h' := h) rfl ?_
                    refine qm_Ru.go 1 (c' := (39, [.ref 28, .int b], [.int b, .int v20], h)) rfl ?_
                    refine hk_cne (ix := v20.toInt) (iy := b.toInt) rfl rfl rfl (fun z21 => ?_) (fun z21 => ?_)
                    · refine qm_Ru.go 1 (c' := (47, [.ref 28, .int b], [.int 0], h)) rfl ?_
                      refine qm_Ru.rt (v := (some (.int 0))) (h' := h) rfl ?_
                      refine qm_Ru.go 2 (c' := (18, [.ref 28, .int b, .int y, .int r, .float 0, .float 0], [.int (-1)], h)) rfl ?_
                      refine qm_Ru.rt (v := (some (.int (-1)))) (h' := h) rfl ?_
                      exact k0 (-1) h.2.2.1 (by decide) (by decide)
                    · refine qm_Ru.go 2 (c' := (47, [.ref 28, .int b], [.int 1], h)) rfl ?_
                      refine qm_Ru.rt (v := (some (.int 1))) (h' := h) rfl ?_
                      refine qm_Ru.go 4 (c' := (22, [.ref 28, .int b, .int y, .int r, .float 0, .float 0], [.int r, .int y, .ref 28], h)) rfl ?_
                      refine hk_inv (o := 28) (r := []) (as := [.ref 28, .int y, .int r]) rfl rfl (hH.1 28 (9, 8) rfl) rfl rfl rfl rfl ?_
                      refine qm_Ru.go 2 (c' := (2, [.ref 28, .int y, .int r, .float 0], [.int y, .ref 28], h)) rfl ?_
                      refine hk_inv (o := 28) (r := []) (as := [.ref 28, .int y]) rfl rfl (hH.1 28 (9, 8) rfl) rfl rfl rfl rfl ?_
                      refine qm_Ru.go 2 (c' := (2, [.ref 28, .int y], [.int y, .ref 28], h)) rfl ?_
                      refine hk_inv (o := 28) (r := []) (as := [.ref 28, .int y]) rfl rfl (hH.1 28 (9, 8) rfl) rfl rfl rfl rfl ?_
                      refine qm_Ru.go 1 (c' := (1, [.ref 28, .int y], [.ref 28], h)) rfl ?_
                      obtain ⟨v22, q_v22⟩ : ∃ v, h.2.1 28 4 = v := ⟨_, rfl⟩
                      refine hk_geti (v := v22) rfl (hH.1 28 (9, 8) rfl) rfl q_v22 ?_
                      refine qm_Ru.go 2 (c' := (6, [.ref 28, .int y], [.int (v22 >>> (y &&& 31))], h)) rfl ?_
                      obtain ⟨v23, q_v23⟩ : ∃ v, (v22 >>> (y &&& 31)) = v := ⟨_, rfl⟩
                      rw [q_v23]
                      refine qm_Ru.go 2 (c' := (8, [.ref 28, .int y], [.int (v23 &&& 1)], h)) rfl ?_
                      obtain ⟨v24, q_v24⟩ : ∃ v, (v23 &&& 1) = v := ⟨_, rfl⟩
                      rw [q_v24]
                      refine qm_Ru.go 1 (c' := (9, [.ref 28, .int y], [.int 1, .int v24], h)) rfl ?_
                      refine hk_cne (ix := v24.toInt) (iy := 1) rfl rfl rfl (fun z25 => ?_) (fun z25 => ?_)
                      · refine qm_Ru.go 1 (c' := (17, [.ref 28, .int y], [.int 0], h)) rfl ?_
                        refine qm_Ru.rt (v := (some (.int 0))) (h' := h) rfl ?_
                        refine qm_Ru.go 2 (c' := (13, [.ref 28, .int y], [.int 0], h)) rfl ?_
                        refine qm_Ru.rt (v := (some (.int 0))) (h' := h) rfl ?_
                        refine qm_Ru.go 2 (c' := (7, [.ref 28, .int y, .int r, .int 0], [.ref 28], h)) rfl ?_
                        refine hk_getr rfl (hH.1 28 (9, 8) rfl) rfl (hH.2 28 3 (some 36) rfl) ?_
                        refine qm_Ru.go 3 (c' := (13, [.ref 28, .int y, .int r, .int 0], [.int 0, .int r, .int y, .ref 36], h)) rfl ?_
                        refine qm_Ru.call (j := 75) (as := [.int y, .int r, .int 0]) (c' := (16, [.ref 28, .int y, .int r, .int 0], [.ref 36], h)) rfl rfl rfl ?_
                        refine qm_Ru.go 3 (c' := (3, [.int y, .int r, .int 0], [.int (y * 4)], h)) rfl ?_
                        obtain ⟨v26, q_v26, e_v26⟩ := hk_mul (x := y) (y := 4) (a := y.toInt) (b := 4) rfl rfl (by omega) (by omega)
                        rw [q_v26]
                        refine qm_Ru.go 2 (c' := (5, [.int y, .int r, .int 0], [.int (v26 + r)], h)) rfl ?_
                        obtain ⟨v27, q_v27, e_v27⟩ := hk_add (x := v26) (y := r) (a := v26.toInt) (b := r.toInt) rfl rfl (by omega) (by omega)
                        rw [q_v27]
                        refine qm_Ru.go 2 (c' := (7, [.int y, .int r, .int 0], [.int (v27 * 4)], h)) rfl ?_
                        obtain ⟨v28, q_v28, e_v28⟩ := hk_mul (x := v27) (y := 4) (a := v27.toInt) (b := 4) rfl rfl (by omega) (by omega)
                        rw [q_v28]
                        refine qm_Ru.go 2 (c' := (9, [.int y, .int r, .int 0], [.int (v28 + 0)], h)) rfl ?_
                        obtain ⟨v29, q_v29, e_v29⟩ := hk_add (x := v28) (y := 0) (a := v28.toInt) (b := 0) rfl rfl (by omega) (by omega)
                        rw [q_v29]
                        refine qm_Ru.rt (v := (some (.int v29))) (h' := h) rfl ?_
                        refine qm_Ru.go 0 (c' := (16, [.ref 28, .int y, .int r, .int 0], [.int v29, .ref 36], h)) rfl ?_
                        obtain ⟨v30, q_v30⟩ : ∃ v, h.2.1 36 (v29.toInt.toNat) = v := ⟨_, rfl⟩
                        have b_v30 : (-1 : Int) ≤ v30.toInt ∧ v30.toInt ≤ 29 := by rw [← q_v30]; exact hB 36 (v29.toInt.toNat)
                        refine hk_ial (v := v30) rfl (hH.1 36 (0, 80) rfl) (by omega) (by omega) q_v30 ?_
                        refine qm_Ru.go 1 (c' := (18, [.ref 28, .int y, .int r, .int 0], [.int (-1), .int v30], h)) rfl ?_
                        refine hk_cne (ix := v30.toInt) (iy := (-1)) rfl rfl rfl (fun z31 => ?_) (fun z31 => ?_)
                        · refine qm_Ru.go 1 (c' := (24, [.ref 28, .int y, .int r, .int 0], [.ref 28], h)) rfl ?_
                          refine hk_getr rfl (hH.1 28 (9, 8) rfl) rfl (hH.2 28 3 (some 36) rfl) ?_
                          refine qm_Ru.go 5 (c' := (32, [.ref 28, .int y, .int r, .int 0], [.int 1, .int r, .int y, .ref 36], h)) rfl ?_
                          refine qm_Ru.call (j := 75) (as := [.int y, .int r, .int 1]) (c' := (35, [.ref 28, .int y, .int r, .int 0], [.ref 36], h)) rfl rfl rfl ?_
                          refine qm_Ru.go 3 (c' := (3, [.int y, .int r, .int 1], [.int (y * 4)], h)) rfl ?_
                          rw [q_v26]
                          refine qm_Ru.go 2 (c' := (5, [.int y, .int r, .int 1], [.int (v26 + r)], h)) rfl ?_
                          rw [q_v27]
                          refine qm_Ru.go 2 (c' := (7, [.int y, .int r, .int 1], [.int (v27 * 4)], h)) rfl ?_
                          rw [q_v28]
                          refine qm_Ru.go 2 (c' := (9, [.int y, .int r, .int 1], [.int (v28 + 1)], h)) rfl ?_
                          obtain ⟨v35, q_v35, e_v35⟩ := hk_add (x := v28) (y := 1) (a := v28.toInt) (b := 1) rfl rfl (by omega) (by omega)
                          rw [q_v35]
                          refine qm_Ru.rt (v := (some (.int v35))) (h' := h) rfl ?_
                          refine qm_Ru.go 0 (c' := (35, [.ref 28, .int y, .int r, .int 0], [.int v35, .ref 36], h)) rfl ?_
                          obtain ⟨v36, q_v36⟩ : ∃ v, h.2.1 36 (v35.toInt.toNat) = v := ⟨_, rfl⟩
                          have b_v36 : (-1 : Int) ≤ v36.toInt ∧ v36.toInt ≤ 29 := by rw [← q_v36]; exact hB 36 (v35.toInt.toNat)
                          refine hk_ial (v := v36) rfl (hH.1 36 (0, 80) rfl) (by omega) (by omega) q_v36 ?_
                          refine qm_Ru.go 1 (c' := (37, [.ref 28, .int y, .int r, .int 0], [.int (-1), .int v36], h)) rfl ?_
                          refine hk_cne (ix := v36.toInt) (iy := (-1)) rfl rfl rfl (fun z37 => ?_) (fun z37 => ?_)
                          · refine qm_Ru.go 1 (c' := (47, [.ref 28, .int y, .int r, .int 0], [.int (-1)], h)) rfl ?_
                            refine qm_Ru.rt (v := (some (.int (-1)))) (h' := h) rfl ?_
                            refine qm_Ru.go 5 (c' := (34, [.ref 28, .int b, .int y, .int r, .int (-1), .float 0], [.int (-1)], h)) rfl ?_
                            refine qm_Ru.rt (v := (some (.int (-1)))) (h' := h) rfl ?_
                            exact k0 (-1) h.2.2.1 (by decide) (by decide)
                          · refine qm_Ru.go 4 (c' := (47, [.ref 28, .int y, .int r, .int 0], [.int 1], h)) rfl ?_
                            refine qm_Ru.rt (v := (some (.int 1))) (h' := h) rfl ?_
                            refine qm_Ru.go 5 (c' := (36, [.ref 28, .int b, .int y, .int r, .int 1, .float 0], [.ref 28], h)) rfl ?_
                            refine hk_getr rfl (hH.1 28 (9, 8) rfl) rfl (hH.2 28 0 (some 6) rfl) ?_
                            refine qm_Ru.go 0 (c' := (39, [.ref 28, .int b, .int y, .int r, .int 1, .float 0], [.ref 6], h)) rfl ?_
                            refine hk_getr rfl (hH.1 6 (6, 9) rfl) rfl (hH.2 6 1 (some 7) rfl) ?_
                            refine qm_Ru.go 1 (c' := (43, [.ref 28, .int b, .int y, .int r, .int 1, .float 0], [.int b, .ref 7], h)) rfl ?_
                            obtain ⟨v38, q_v38⟩ : ∃ v, h.2.1 7 (b.toInt.toNat) = v := ⟨_, rfl⟩
                            have b_v38 : (0 : Int) ≤ v38.toInt ∧ v38.toInt ≤ 40 := by rw [← q_v38]; exact hB 7 (b.toInt.toNat)
                            refine hk_ial (v := v38) rfl (hH.1 7 (0, 30) rfl) (by omega) (by omega) q_v38 ?_
                            refine qm_Ru.go 3 (c' := (49, [.ref 28, .int b, .int y, .int r, .int 1, .int v38], [.ref 28, .int v38], h)) rfl ?_
                            refine hk_getr rfl (hH.1 28 (9, 8) rfl) rfl hT.2 ?_
                            refine qm_Ru.go 0 (c' := (52, [.ref 28, .int b, .int y, .int r, .int 1, .int v38], [.ref 29, .int v38], h)) rfl ?_
                            obtain ⟨v39, q_v39⟩ : ∃ v, h.2.1 29 4 = v := ⟨_, rfl⟩
                            refine hk_geti (v := v39) rfl (hH.1 29 (11, 16) rfl) rfl q_v39 ?_
                            refine qm_Ru.go 0 (c' := (55, [.ref 28, .int b, .int y, .int r, .int 1, .int v38], [.int v39, .int v38], h)) rfl ?_
                            refine hk_cle (ix := v38.toInt) (iy := v39.toInt) rfl rfl rfl (fun z40 => ?_) (fun z40 => ?_)
                            · refine qm_Ru.go 4 (c' := (66, [.ref 28, .int b, .int y, .int r, .int 1, .int v38], [.int v38, .int r, .int y, .ref 28], h)) rfl ?_
                              refine hk_inv (o := 28) (r := []) (as := [.ref 28, .int y, .int r, .int v38]) rfl rfl (hH.1 28 (9, 8) rfl) rfl rfl rfl rfl (hs_borne29 h6 hH hT hB (v_C_ru hV) ⟨by show (0 : Int) ≤ y.toInt; omega, by show y.toInt ≤ (4 : Int); omega⟩ ⟨by show (0 : Int) ≤ r.toInt; omega, by show r.toInt ≤ (3 : Int); omega⟩ (qa_in_full _) (by omega) (fun v41 I42 J43 c_v41 _ e_I42 => ?_))
                              have e_I42 : I42 = h.2.1 := funext fun o => funext fun i => e_I42 o rfl i
                              subst e_I42
                              have b_v41 : (0 : Int) ≤ v41.toInt ∧ v41.toInt ≤ 1 := c_v41
                              refine qm_Ru.go 0 (c' := (69, [.ref 28, .int b, .int y, .int r, .int 1, .int v38], [.int v41], (h.1, h.2.1, J43, h.2.2.2))) rfl ?_
                              refine hk_zne (ix := v41.toInt) rfl rfl (fun z44 => ?_) (fun z44 => ?_)
                              · refine qm_Ru.go 2 (c' := (90, [.ref 28, .int b, .int y, .int r, .int 1, .int v38], [.int 1], (h.1, h.2.1, J43, h.2.2.2))) rfl ?_
                                refine qm_Ru.rt (v := (some (.int 1))) (h' := (h.1, h.2.1, J43, h.2.2.2)) rfl ?_
                                exact k1 1 J43 (t_free1 (t := 1) (by omega) (by omega) (by decide) q_v36 (by omega) (by omega) q_v30 (by omega) (by omega)) (t_had2 (by omega) q_v8 (by omega) q_v12 (by omega) q_v14 q_v15 rfl (by omega) q_v20 (by omega) (by omega))
                              · refine qm_Ru.go 4 (c' := (77, [.ref 28, .int b, .int y, .int r, .int 1, .int v38], [.int v38, .int r, .int y, .ref 28], (h.1, h.2.1, J43, h.2.2.2))) rfl ?_
                                refine hk_inv (o := 28) (r := []) (as := [.ref 28, .int y, .int r, .int v38]) rfl rfl (hH.1 28 (9, 8) rfl) rfl rfl rfl rfl (hs_nowor29 h6 hH hT hB (v_C_ru hV) ⟨by show (0 : Int) ≤ y.toInt; omega, by show y.toInt ≤ (4 : Int); omega⟩ ⟨by show (0 : Int) ≤ r.toInt; omega, by show r.toInt ≤ (3 : Int); omega⟩ (qa_in_full _) (by omega) (fun v45 I46 J47 c_v45 _ e_I46 => ?_))
                                have e_I46 : I46 = h.2.1 := funext fun o => funext fun i => e_I46 o rfl i
                                subst e_I46
                                have b_v45 : (0 : Int) ≤ v45.toInt ∧ v45.toInt ≤ 1 := c_v45
                                refine qm_Ru.go 0 (c' := (80, [.ref 28, .int b, .int y, .int r, .int 1, .int v38], [.int v45], (h.1, h.2.1, J47, h.2.2.2))) rfl ?_
                                refine hk_zeq (ix := v45.toInt) rfl rfl (fun z48 => ?_) (fun z48 => ?_)
                                · refine qm_Ru.go 1 (c' := (90, [.ref 28, .int b, .int y, .int r, .int 1, .int v38], [.int (-3)], (h.1, h.2.1, J47, h.2.2.2))) rfl ?_
                                  refine qm_Ru.rt (v := (some (.int (-3)))) (h' := (h.1, h.2.1, J47, h.2.2.2)) rfl ?_
                                  exact k0 (-3) J47 (by decide) (by decide)
                                · refine qm_Ru.go 2 (c' := (90, [.ref 28, .int b, .int y, .int r, .int 1, .int v38], [.int 1], (h.1, h.2.1, J47, h.2.2.2))) rfl ?_
                                  refine qm_Ru.rt (v := (some (.int 1))) (h' := (h.1, h.2.1, J47, h.2.2.2)) rfl ?_
                                  exact k1 1 J47 (t_free1 (t := 1) (by omega) (by omega) (by decide) q_v36 (by omega) (by omega) q_v30 (by omega) (by omega)) (t_had2 (by omega) q_v8 (by omega) q_v12 (by omega) q_v14 q_v15 rfl (by omega) q_v20 (by omega) (by omega))
                            · refine qm_Ru.go 1 (c' := (60, [.ref 28, .int b, .int y, .int r, .int 1, .int v38], [.int (-2)], h)) rfl ?_
                              refine qm_Ru.rt (v := (some (.int (-2)))) (h' := h) rfl ?_
                              exact k0 (-2) h.2.2.1 (by decide) (by decide)
                        · refine qm_Ru.go 1 (c' := (22, [.ref 28, .int y, .int r, .int 0], [.int 0], h)) rfl ?_
                          refine qm_Ru.rt (v := (some (.int 0))) (h' := h) rfl ?_
                          refine qm_Ru.go 5 (c' := (36, [.ref 28, .int b, .int y, .int r, .int 0, .float 0], [.ref 28], h)) rfl ?_
                          refine hk_getr rfl (hH.1 28 (9, 8) rfl) rfl (hH.2 28 0 (some 6) rfl) ?_
                          refine qm_Ru.go 0 (c' := (39, [.ref 28, .int b, .int y, .int r, .int 0, .float 0], [.ref 6], h)) rfl ?_
                          refine hk_getr rfl (hH.1 6 (6, 9) rfl) rfl (hH.2 6 1 (some 7) rfl) ?_
                          refine qm_Ru.go 1 (c' := (43, [.ref 28, .int b, .int y, .int r, .int 0, .float 0], [.int b, .ref 7], h)) rfl ?_
                          obtain ⟨v49, q_v49⟩ : ∃ v, h.2.1 7 (b.toInt.toNat) = v := ⟨_, rfl⟩
                          have b_v49 : (0 : Int) ≤ v49.toInt ∧ v49.toInt ≤ 40 := by rw [← q_v49]; exact hB 7 (b.toInt.toNat)
                          refine hk_ial (v := v49) rfl (hH.1 7 (0, 30) rfl) (by omega) (by omega) q_v49 ?_
                          refine qm_Ru.go 3 (c' := (49, [.ref 28, .int b, .int y, .int r, .int 0, .int v49], [.ref 28, .int v49], h)) rfl ?_
                          refine hk_getr rfl (hH.1 28 (9, 8) rfl) rfl hT.2 ?_
                          refine qm_Ru.go 0 (c' := (52, [.ref 28, .int b, .int y, .int r, .int 0, .int v49], [.ref 29, .int v49], h)) rfl ?_
                          obtain ⟨v50, q_v50⟩ : ∃ v, h.2.1 29 4 = v := ⟨_, rfl⟩
                          refine hk_geti (v := v50) rfl (hH.1 29 (11, 16) rfl) rfl q_v50 ?_
                          refine qm_Ru.go 0 (c' := (55, [.ref 28, .int b, .int y, .int r, .int 0, .int v49], [.int v50, .int v49], h)) rfl ?_
                          refine hk_cle (ix := v49.toInt) (iy := v50.toInt) rfl rfl rfl (fun z51 => ?_) (fun z51 => ?_)
                          · refine qm_Ru.go 4 (c' := (66, [.ref 28, .int b, .int y, .int r, .int 0, .int v49], [.int v49, .int r, .int y, .ref 28], h)) rfl ?_
                            refine hk_inv (o := 28) (r := []) (as := [.ref 28, .int y, .int r, .int v49]) rfl rfl (hH.1 28 (9, 8) rfl) rfl rfl rfl rfl (hs_borne29 h6 hH hT hB (v_C_ru hV) ⟨by show (0 : Int) ≤ y.toInt; omega, by show y.toInt ≤ (4 : Int); omega⟩ ⟨by show (0 : Int) ≤ r.toInt; omega, by show r.toInt ≤ (3 : Int); omega⟩ (qa_in_full _) (by omega) (fun v52 I53 J54 c_v52 _ e_I53 => ?_))
                            have e_I53 : I53 = h.2.1 := funext fun o => funext fun i => e_I53 o rfl i
                            subst e_I53
                            have b_v52 : (0 : Int) ≤ v52.toInt ∧ v52.toInt ≤ 1 := c_v52
                            refine qm_Ru.go 0 (c' := (69, [.ref 28, .int b, .int y, .int r, .int 0, .int v49], [.int v52], (h.1, h.2.1, J54, h.2.2.2))) rfl ?_
                            refine hk_zne (ix := v52.toInt) rfl rfl (fun z55 => ?_) (fun z55 => ?_)
                            · refine qm_Ru.go 2 (c' := (90, [.ref 28, .int b, .int y, .int r, .int 0, .int v49], [.int 0], (h.1, h.2.1, J54, h.2.2.2))) rfl ?_
                              refine qm_Ru.rt (v := (some (.int 0))) (h' := (h.1, h.2.1, J54, h.2.2.2)) rfl ?_
                              exact k1 0 J54 (t_free0 (t := 0) (by omega) (by omega) (by decide) q_v30 (by omega) (by omega)) (t_had2 (by omega) q_v8 (by omega) q_v12 (by omega) q_v14 q_v15 rfl (by omega) q_v20 (by omega) (by omega))
                            · refine qm_Ru.go 4 (c' := (77, [.ref 28, .int b, .int y, .int r, .int 0, .int v49], [.int v49, .int r, .int y, .ref 28], (h.1, h.2.1, J54, h.2.2.2))) rfl ?_
                              refine hk_inv (o := 28) (r := []) (as := [.ref 28, .int y, .int r, .int v49]) rfl rfl (hH.1 28 (9, 8) rfl) rfl rfl rfl rfl (hs_nowor29 h6 hH hT hB (v_C_ru hV) ⟨by show (0 : Int) ≤ y.toInt; omega, by show y.toInt ≤ (4 : Int); omega⟩ ⟨by show (0 : Int) ≤ r.toInt; omega, by show r.toInt ≤ (3 : Int); omega⟩ (qa_in_full _) (by omega) (fun v56 I57 J58 c_v56 _ e_I57 => ?_))
                              have e_I57 : I57 = h.2.1 := funext fun o => funext fun i => e_I57 o rfl i
                              subst e_I57
                              have b_v56 : (0 : Int) ≤ v56.toInt ∧ v56.toInt ≤ 1 := c_v56
                              refine qm_Ru.go 0 (c' := (80, [.ref 28, .int b, .int y, .int r, .int 0, .int v49], [.int v56], (h.1, h.2.1, J58, h.2.2.2))) rfl ?_
                              refine hk_zeq (ix := v56.toInt) rfl rfl (fun z59 => ?_) (fun z59 => ?_)
                              · refine qm_Ru.go 1 (c' := (90, [.ref 28, .int b, .int y, .int r, .int 0, .int v49], [.int (-3)], (h.1, h.2.1, J58, h.2.2.2))) rfl ?_
                                refine qm_Ru.rt (v := (some (.int (-3)))) (h' := (h.1, h.2.1, J58, h.2.2.2)) rfl ?_
                                exact k0 (-3) J58 (by decide) (by decide)
                              · refine qm_Ru.go 2 (c' := (90, [.ref 28, .int b, .int y, .int r, .int 0, .int v49], [.int 0], (h.1, h.2.1, J58, h.2.2.2))) rfl ?_
                                refine qm_Ru.rt (v := (some (.int 0))) (h' := (h.1, h.2.1, J58, h.2.2.2)) rfl ?_
                                exact k1 0 J58 (t_free0 (t := 0) (by omega) (by omega) (by decide) q_v30 (by omega) (by omega)) (t_had2 (by omega) q_v8 (by omega) q_v12 (by omega) q_v14 q_v15 rfl (by omega) q_v20 (by omega) (by omega))
                          · refine qm_Ru.go 1 (c' := (60, [.ref 28, .int b, .int y, .int r, .int 0, .int v49], [.int (-2)], h)) rfl ?_
                            refine qm_Ru.rt (v := (some (.int (-2)))) (h' := h) rfl ?_
                            exact k0 (-2) h.2.2.1 (by decide) (by decide)
                      · refine qm_Ru.go 2 (c' := (17, [.ref 28, .int y], [.int 1], h)) rfl ?_
                        refine qm_Ru.rt (v := (some (.int 1))) (h' := h) rfl ?_
                        refine qm_Ru.go 3 (c' := (13, [.ref 28, .int y], [.int 2], h)) rfl ?_
                        refine qm_Ru.rt (v := (some (.int 2))) (h' := h) rfl ?_
                        refine qm_Ru.go 2 (c' := (7, [.ref 28, .int y, .int r, .int 2], [.ref 28], h)) rfl ?_
                        refine hk_getr rfl (hH.1 28 (9, 8) rfl) rfl (hH.2 28 3 (some 36) rfl) ?_
                        refine qm_Ru.go 3 (c' := (13, [.ref 28, .int y, .int r, .int 2], [.int 2, .int r, .int y, .ref 36], h)) rfl ?_
                        refine qm_Ru.call (j := 75) (as := [.int y, .int r, .int 2]) (c' := (16, [.ref 28, .int y, .int r, .int 2], [.ref 36], h)) rfl rfl rfl ?_
                        refine qm_Ru.go 3 (c' := (3, [.int y, .int r, .int 2], [.int (y * 4)], h)) rfl ?_
                        obtain ⟨v60, q_v60, e_v60⟩ := hk_mul (x := y) (y := 4) (a := y.toInt) (b := 4) rfl rfl (by omega) (by omega)
                        rw [q_v60]
                        refine qm_Ru.go 2 (c' := (5, [.int y, .int r, .int 2], [.int (v60 + r)], h)) rfl ?_
                        obtain ⟨v61, q_v61, e_v61⟩ := hk_add (x := v60) (y := r) (a := v60.toInt) (b := r.toInt) rfl rfl (by omega) (by omega)
                        rw [q_v61]
                        refine qm_Ru.go 2 (c' := (7, [.int y, .int r, .int 2], [.int (v61 * 4)], h)) rfl ?_
                        obtain ⟨v62, q_v62, e_v62⟩ := hk_mul (x := v61) (y := 4) (a := v61.toInt) (b := 4) rfl rfl (by omega) (by omega)
                        rw [q_v62]
                        refine qm_Ru.go 2 (c' := (9, [.int y, .int r, .int 2], [.int (v62 + 2)], h)) rfl ?_
                        obtain ⟨v63, q_v63, e_v63⟩ := hk_add (x := v62) (y := 2) (a := v62.toInt) (b := 2) rfl rfl (by omega) (by omega)
                        rw [q_v63]
                        refine qm_Ru.rt (v := (some (.int v63))) (h' := h) rfl ?_
                        refine qm_Ru.go 0 (c' := (16, [.ref 28, .int y, .int r, .int 2], [.int v63, .ref 36], h)) rfl ?_
                        obtain ⟨v64, q_v64⟩ : ∃ v, h.2.1 36 (v63.toInt.toNat) = v := ⟨_, rfl⟩
                        have b_v64 : (-1 : Int) ≤ v64.toInt ∧ v64.toInt ≤ 29 := by rw [← q_v64]; exact hB 36 (v63.toInt.toNat)
                        refine hk_ial (v := v64) rfl (hH.1 36 (0, 80) rfl) (by omega) (by omega) q_v64 ?_
                        refine qm_Ru.go 1 (c' := (18, [.ref 28, .int y, .int r, .int 2], [.int (-1), .int v64], h)) rfl ?_
                        refine hk_cne (ix := v64.toInt) (iy := (-1)) rfl rfl rfl (fun z65 => ?_) (fun z65 => ?_)
                        · refine qm_Ru.go 1 (c' := (24, [.ref 28, .int y, .int r, .int 2], [.ref 28], h)) rfl ?_
                          refine hk_getr rfl (hH.1 28 (9, 8) rfl) rfl (hH.2 28 3 (some 36) rfl) ?_
                          refine qm_Ru.go 5 (c' := (32, [.ref 28, .int y, .int r, .int 2], [.int 3, .int r, .int y, .ref 36], h)) rfl ?_
                          refine qm_Ru.call (j := 75) (as := [.int y, .int r, .int 3]) (c' := (35, [.ref 28, .int y, .int r, .int 2], [.ref 36], h)) rfl rfl rfl ?_
                          refine qm_Ru.go 3 (c' := (3, [.int y, .int r, .int 3], [.int (y * 4)], h)) rfl ?_
                          rw [q_v60]
                          refine qm_Ru.go 2 (c' := (5, [.int y, .int r, .int 3], [.int (v60 + r)], h)) rfl ?_
                          rw [q_v61]
                          refine qm_Ru.go 2 (c' := (7, [.int y, .int r, .int 3], [.int (v61 * 4)], h)) rfl ?_
                          rw [q_v62]
                          refine qm_Ru.go 2 (c' := (9, [.int y, .int r, .int 3], [.int (v62 + 3)], h)) rfl ?_
                          obtain ⟨v69, q_v69, e_v69⟩ := hk_add (x := v62) (y := 3) (a := v62.toInt) (b := 3) rfl rfl (by omega) (by omega)
                          rw [q_v69]
                          refine qm_Ru.rt (v := (some (.int v69))) (h' := h) rfl ?_
                          refine qm_Ru.go 0 (c' := (35, [.ref 28, .int y, .int r, .int 2], [.int v69, .ref 36], h)) rfl ?_
                          obtain ⟨v70, q_v70⟩ : ∃ v, h.2.1 36 (v69.toInt.toNat) = v := ⟨_, rfl⟩
                          have b_v70 : (-1 : Int) ≤ v70.toInt ∧ v70.toInt ≤ 29 := by rw [← q_v70]; exact hB 36 (v69.toInt.toNat)
                          refine hk_ial (v := v70) rfl (hH.1 36 (0, 80) rfl) (by omega) (by omega) q_v70 ?_
                          refine qm_Ru.go 1 (c' := (37, [.ref 28, .int y, .int r, .int 2], [.int (-1), .int v70], h)) rfl ?_
                          refine hk_cne (ix := v70.toInt) (iy := (-1)) rfl rfl rfl (fun z71 => ?_) (fun z71 => ?_)
                          · refine qm_Ru.go 1 (c' := (47, [.ref 28, .int y, .int r, .int 2], [.int (-1)], h)) rfl ?_
                            refine qm_Ru.rt (v := (some (.int (-1)))) (h' := h) rfl ?_
                            refine qm_Ru.go 5 (c' := (34, [.ref 28, .int b, .int y, .int r, .int (-1), .float 0], [.int (-1)], h)) rfl ?_
                            refine qm_Ru.rt (v := (some (.int (-1)))) (h' := h) rfl ?_
                            exact k0 (-1) h.2.2.1 (by decide) (by decide)
                          · refine qm_Ru.go 4 (c' := (47, [.ref 28, .int y, .int r, .int 2], [.int 3], h)) rfl ?_
                            refine qm_Ru.rt (v := (some (.int 3))) (h' := h) rfl ?_
                            refine qm_Ru.go 5 (c' := (36, [.ref 28, .int b, .int y, .int r, .int 3, .float 0], [.ref 28], h)) rfl ?_
                            refine hk_getr rfl (hH.1 28 (9, 8) rfl) rfl (hH.2 28 0 (some 6) rfl) ?_
                            refine qm_Ru.go 0 (c' := (39, [.ref 28, .int b, .int y, .int r, .int 3, .float 0], [.ref 6], h)) rfl ?_
                            refine hk_getr rfl (hH.1 6 (6, 9) rfl) rfl (hH.2 6 1 (some 7) rfl) ?_
                            refine qm_Ru.go 1 (c' := (43, [.ref 28, .int b, .int y, .int r, .int 3, .float 0], [.int b, .ref 7], h)) rfl ?_
                            obtain ⟨v72, q_v72⟩ : ∃ v, h.2.1 7 (b.toInt.toNat) = v := ⟨_, rfl⟩
                            have b_v72 : (0 : Int) ≤ v72.toInt ∧ v72.toInt ≤ 40 := by rw [← q_v72]; exact hB 7 (b.toInt.toNat)
                            refine hk_ial (v := v72) rfl (hH.1 7 (0, 30) rfl) (by omega) (by omega) q_v72 ?_
                            refine qm_Ru.go 3 (c' := (49, [.ref 28, .int b, .int y, .int r, .int 3, .int v72], [.ref 28, .int v72], h)) rfl ?_
                            refine hk_getr rfl (hH.1 28 (9, 8) rfl) rfl hT.2 ?_
                            refine qm_Ru.go 0 (c' := (52, [.ref 28, .int b, .int y, .int r, .int 3, .int v72], [.ref 29, .int v72], h)) rfl ?_
                            obtain ⟨v73, q_v73⟩ : ∃ v, h.2.1 29 4 = v := ⟨_, rfl⟩
                            refine hk_geti (v := v73) rfl (hH.1 29 (11, 16) rfl) rfl q_v73 ?_
                            refine qm_Ru.go 0 (c' := (55, [.ref 28, .int b, .int y, .int r, .int 3, .int v72], [.int v73, .int v72], h)) rfl ?_
                            refine hk_cle (ix := v72.toInt) (iy := v73.toInt) rfl rfl rfl (fun z74 => ?_) (fun z74 => ?_)
                            · refine qm_Ru.go 4 (c' := (66, [.ref 28, .int b, .int y, .int r, .int 3, .int v72], [.int v72, .int r, .int y, .ref 28], h)) rfl ?_
                              refine hk_inv (o := 28) (r := []) (as := [.ref 28, .int y, .int r, .int v72]) rfl rfl (hH.1 28 (9, 8) rfl) rfl rfl rfl rfl (hs_borne29 h6 hH hT hB (v_C_ru hV) ⟨by show (0 : Int) ≤ y.toInt; omega, by show y.toInt ≤ (4 : Int); omega⟩ ⟨by show (0 : Int) ≤ r.toInt; omega, by show r.toInt ≤ (3 : Int); omega⟩ (qa_in_full _) (by omega) (fun v75 I76 J77 c_v75 _ e_I76 => ?_))
                              have e_I76 : I76 = h.2.1 := funext fun o => funext fun i => e_I76 o rfl i
                              subst e_I76
                              have b_v75 : (0 : Int) ≤ v75.toInt ∧ v75.toInt ≤ 1 := c_v75
                              refine qm_Ru.go 0 (c' := (69, [.ref 28, .int b, .int y, .int r, .int 3, .int v72], [.int v75], (h.1, h.2.1, J77, h.2.2.2))) rfl ?_
                              refine hk_zne (ix := v75.toInt) rfl rfl (fun z78 => ?_) (fun z78 => ?_)
                              · refine qm_Ru.go 2 (c' := (90, [.ref 28, .int b, .int y, .int r, .int 3, .int v72], [.int 3], (h.1, h.2.1, J77, h.2.2.2))) rfl ?_
                                refine qm_Ru.rt (v := (some (.int 3))) (h' := (h.1, h.2.1, J77, h.2.2.2)) rfl ?_
                                exact k1 3 J77 (t_free1 (t := 3) (by omega) (by omega) (by decide) q_v70 (by omega) (by omega) q_v64 (by omega) (by omega)) (t_had2 (by omega) q_v8 (by omega) q_v12 (by omega) q_v14 q_v15 rfl (by omega) q_v20 (by omega) (by omega))
                              · refine qm_Ru.go 4 (c' := (77, [.ref 28, .int b, .int y, .int r, .int 3, .int v72], [.int v72, .int r, .int y, .ref 28], (h.1, h.2.1, J77, h.2.2.2))) rfl ?_
                                refine hk_inv (o := 28) (r := []) (as := [.ref 28, .int y, .int r, .int v72]) rfl rfl (hH.1 28 (9, 8) rfl) rfl rfl rfl rfl (hs_nowor29 h6 hH hT hB (v_C_ru hV) ⟨by show (0 : Int) ≤ y.toInt; omega, by show y.toInt ≤ (4 : Int); omega⟩ ⟨by show (0 : Int) ≤ r.toInt; omega, by show r.toInt ≤ (3 : Int); omega⟩ (qa_in_full _) (by omega) (fun v79 I80 J81 c_v79 _ e_I80 => ?_))
                                have e_I80 : I80 = h.2.1 := funext fun o => funext fun i => e_I80 o rfl i
                                subst e_I80
                                have b_v79 : (0 : Int) ≤ v79.toInt ∧ v79.toInt ≤ 1 := c_v79
                                refine qm_Ru.go 0 (c' := (80, [.ref 28, .int b, .int y, .int r, .int 3, .int v72], [.int v79], (h.1, h.2.1, J81, h.2.2.2))) rfl ?_
                                refine hk_zeq (ix := v79.toInt) rfl rfl (fun z82 => ?_) (fun z82 => ?_)
                                · refine qm_Ru.go 1 (c' := (90, [.ref 28, .int b, .int y, .int r, .int 3, .int v72], [.int (-3)], (h.1, h.2.1, J81, h.2.2.2))) rfl ?_
                                  refine qm_Ru.rt (v := (some (.int (-3)))) (h' := (h.1, h.2.1, J81, h.2.2.2)) rfl ?_
                                  exact k0 (-3) J81 (by decide) (by decide)
                                · refine qm_Ru.go 2 (c' := (90, [.ref 28, .int b, .int y, .int r, .int 3, .int v72], [.int 3], (h.1, h.2.1, J81, h.2.2.2))) rfl ?_
                                  refine qm_Ru.rt (v := (some (.int 3))) (h' := (h.1, h.2.1, J81, h.2.2.2)) rfl ?_
                                  exact k1 3 J81 (t_free1 (t := 3) (by omega) (by omega) (by decide) q_v70 (by omega) (by omega) q_v64 (by omega) (by omega)) (t_had2 (by omega) q_v8 (by omega) q_v12 (by omega) q_v14 q_v15 rfl (by omega) q_v20 (by omega) (by omega))
                            · refine qm_Ru.go 1 (c' := (60, [.ref 28, .int b, .int y, .int r, .int 3, .int v72], [.int (-2)], h)) rfl ?_
                              refine qm_Ru.rt (v := (some (.int (-2)))) (h' := h) rfl ?_
                              exact k0 (-2) h.2.2.1 (by decide) (by decide)
                        · refine qm_Ru.go 1 (c' := (22, [.ref 28, .int y, .int r, .int 2], [.int 2], h)) rfl ?_
                          refine qm_Ru.rt (v := (some (.int 2))) (h' := h) rfl ?_
                          refine qm_Ru.go 5 (c' := (36, [.ref 28, .int b, .int y, .int r, .int 2, .float 0], [.ref 28], h)) rfl ?_
                          refine hk_getr rfl (hH.1 28 (9, 8) rfl) rfl (hH.2 28 0 (some 6) rfl) ?_
                          refine qm_Ru.go 0 (c' := (39, [.ref 28, .int b, .int y, .int r, .int 2, .float 0], [.ref 6], h)) rfl ?_
                          refine hk_getr rfl (hH.1 6 (6, 9) rfl) rfl (hH.2 6 1 (some 7) rfl) ?_
                          refine qm_Ru.go 1 (c' := (43, [.ref 28, .int b, .int y, .int r, .int 2, .float 0], [.int b, .ref 7], h)) rfl ?_
                          obtain ⟨v83, q_v83⟩ : ∃ v, h.2.1 7 (b.toInt.toNat) = v := ⟨_, rfl⟩
                          have b_v83 : (0 : Int) ≤ v83.toInt ∧ v83.toInt ≤ 40 := by rw [← q_v83]; exact hB 7 (b.toInt.toNat)
                          refine hk_ial (v := v83) rfl (hH.1 7 (0, 30) rfl) (by omega) (by omega) q_v83 ?_
                          refine qm_Ru.go 3 (c' := (49, [.ref 28, .int b, .int y, .int r, .int 2, .int v83], [.ref 28, .int v83], h)) rfl ?_
                          refine hk_getr rfl (hH.1 28 (9, 8) rfl) rfl hT.2 ?_
                          refine qm_Ru.go 0 (c' := (52, [.ref 28, .int b, .int y, .int r, .int 2, .int v83], [.ref 29, .int v83], h)) rfl ?_
                          obtain ⟨v84, q_v84⟩ : ∃ v, h.2.1 29 4 = v := ⟨_, rfl⟩
                          refine hk_geti (v := v84) rfl (hH.1 29 (11, 16) rfl) rfl q_v84 ?_
                          refine qm_Ru.go 0 (c' := (55, [.ref 28, .int b, .int y, .int r, .int 2, .int v83], [.int v84, .int v83], h)) rfl ?_
                          refine hk_cle (ix := v83.toInt) (iy := v84.toInt) rfl rfl rfl (fun z85 => ?_) (fun z85 => ?_)
                          · refine qm_Ru.go 4 (c' := (66, [.ref 28, .int b, .int y, .int r, .int 2, .int v83], [.int v83, .int r, .int y, .ref 28], h)) rfl ?_
                            refine hk_inv (o := 28) (r := []) (as := [.ref 28, .int y, .int r, .int v83]) rfl rfl (hH.1 28 (9, 8) rfl) rfl rfl rfl rfl (hs_borne29 h6 hH hT hB (v_C_ru hV) ⟨by show (0 : Int) ≤ y.toInt; omega, by show y.toInt ≤ (4 : Int); omega⟩ ⟨by show (0 : Int) ≤ r.toInt; omega, by show r.toInt ≤ (3 : Int); omega⟩ (qa_in_full _) (by omega) (fun v86 I87 J88 c_v86 _ e_I87 => ?_))
                            have e_I87 : I87 = h.2.1 := funext fun o => funext fun i => e_I87 o rfl i
                            subst e_I87
                            have b_v86 : (0 : Int) ≤ v86.toInt ∧ v86.toInt ≤ 1 := c_v86
                            refine qm_Ru.go 0 (c' := (69, [.ref 28, .int b, .int y, .int r, .int 2, .int v83], [.int v86], (h.1, h.2.1, J88, h.2.2.2))) rfl ?_
                            refine hk_zne (ix := v86.toInt) rfl rfl (fun z89 => ?_) (fun z89 => ?_)
                            · refine qm_Ru.go 2 (c' := (90, [.ref 28, .int b, .int y, .int r, .int 2, .int v83], [.int 2], (h.1, h.2.1, J88, h.2.2.2))) rfl ?_
                              refine qm_Ru.rt (v := (some (.int 2))) (h' := (h.1, h.2.1, J88, h.2.2.2)) rfl ?_
                              exact k1 2 J88 (t_free0 (t := 2) (by omega) (by omega) (by decide) q_v64 (by omega) (by omega)) (t_had2 (by omega) q_v8 (by omega) q_v12 (by omega) q_v14 q_v15 rfl (by omega) q_v20 (by omega) (by omega))
                            · refine qm_Ru.go 4 (c' := (77, [.ref 28, .int b, .int y, .int r, .int 2, .int v83], [.int v83, .int r, .int y, .ref 28], (h.1, h.2.1, J88, h.2.2.2))) rfl ?_
                              refine hk_inv (o := 28) (r := []) (as := [.ref 28, .int y, .int r, .int v83]) rfl rfl (hH.1 28 (9, 8) rfl) rfl rfl rfl rfl (hs_nowor29 h6 hH hT hB (v_C_ru hV) ⟨by show (0 : Int) ≤ y.toInt; omega, by show y.toInt ≤ (4 : Int); omega⟩ ⟨by show (0 : Int) ≤ r.toInt; omega, by show r.toInt ≤ (3 : Int); omega⟩ (qa_in_full _) (by omega) (fun v90 I91 J92 c_v90 _ e_I91 => ?_))
                              have e_I91 : I91 = h.2.1 := funext fun o => funext fun i => e_I91 o rfl i
                              subst e_I91
                              have b_v90 : (0 : Int) ≤ v90.toInt ∧ v90.toInt ≤ 1 := c_v90
                              refine qm_Ru.go 0 (c' := (80, [.ref 28, .int b, .int y, .int r, .int 2, .int v83], [.int v90], (h.1, h.2.1, J92, h.2.2.2))) rfl ?_
                              refine hk_zeq (ix := v90.toInt) rfl rfl (fun z93 => ?_) (fun z93 => ?_)
                              · refine qm_Ru.go 1 (c' := (90, [.ref 28, .int b, .int y, .int r, .int 2, .int v83], [.int (-3)], (h.1, h.2.1, J92, h.2.2.2))) rfl ?_
                                refine qm_Ru.rt (v := (some (.int (-3)))) (h' := (h.1, h.2.1, J92, h.2.2.2)) rfl ?_
                                exact k0 (-3) J92 (by decide) (by decide)
                              · refine qm_Ru.go 2 (c' := (90, [.ref 28, .int b, .int y, .int r, .int 2, .int v83], [.int 2], (h.1, h.2.1, J92, h.2.2.2))) rfl ?_
                                refine qm_Ru.rt (v := (some (.int 2))) (h' := (h.1, h.2.1, J92, h.2.2.2)) rfl ?_
                                exact k1 2 J92 (t_free0 (t := 2) (by omega) (by omega) (by decide) q_v64 (by omega) (by omega)) (t_had2 (by omega) q_v8 (by omega) q_v12 (by omega) q_v14 q_v15 rfl (by omega) q_v20 (by omega) (by omega))
                          · refine qm_Ru.go 1 (c' := (60, [.ref 28, .int b, .int y, .int r, .int 2, .int v83], [.int (-2)], h)) rfl ?_
                            refine qm_Ru.rt (v := (some (.int (-2)))) (h' := h) rfl ?_
                            exact k0 (-2) h.2.2.1 (by decide) (by decide)
                  · refine qm_Ru.go 2 (c' := (30, [.ref 15, .int v14], [.int (-1)], h)) rfl ?_
                    refine qm_Ru.rt (v := (some (.int (-1)))) (h' := h) rfl ?_
                    refine qm_Ru.go 1 (c' := (39, [.ref 28, .int b], [.int b, .int (-1)], h)) rfl ?_
                    refine hk_cne (ix := (-1)) (iy := b.toInt) rfl rfl rfl (fun z94 => ?_) (fun z94 => by exfalso; omega)
                    refine qm_Ru.go 1 (c' := (47, [.ref 28, .int b], [.int 0], h)) rfl ?_
                    refine qm_Ru.rt (v := (some (.int 0))) (h' := h) rfl ?_
                    refine qm_Ru.go 2 (c' := (18, [.ref 28, .int b, .int y, .int r, .float 0, .float 0], [.int (-1)], h)) rfl ?_
                    refine qm_Ru.rt (v := (some (.int (-1)))) (h' := h) rfl ?_
                    exact k0 (-1) h.2.2.1 (by decide) (by decide)
            · refine qm_Ru.go 2 (c' := (17, [.ref 6, .int b], [.int 1], h)) rfl ?_
              refine qm_Ru.rt (v := (some (.int 1))) (h' := h) rfl ?_
              refine qm_Ru.go 2 (c' := (9, [.ref 6, .int b], [.ref 6], h)) rfl ?_
              refine hk_getr rfl (hH.1 6 (6, 9) rfl) rfl (hH.2 6 5 (some 11) rfl) ?_
              refine qm_Ru.go 1 (c' := (13, [.ref 6, .int b], [.int b, .ref 11], h)) rfl ?_
              obtain ⟨v95, q_v95⟩ : ∃ v, h.2.1 11 (b.toInt.toNat) = v := ⟨_, rfl⟩
              have b_v95 : (0 : Int) ≤ v95.toInt ∧ v95.toInt ≤ 2 := by rw [← q_v95]; exact hB 11 (b.toInt.toNat)
              refine hk_ial (v := v95) rfl (hH.1 11 (0, 30) rfl) (by omega) (by omega) q_v95 ?_
              refine qm_Ru.go 0 (c' := (14, [.ref 6, .int b], [.int v95], h)) rfl ?_
              refine hk_zne (ix := v95.toInt) rfl rfl (fun z96 => ?_) (fun z96 => ?_)
              · refine qm_Ru.go 1 (c' := (22, [.ref 6, .int b], [.int 0], h)) rfl ?_
                refine qm_Ru.rt (v := (some (.int 0))) (h' := h) rfl ?_
                refine qm_Ru.go 2 (c' := (12, [.ref 28, .int b], [.ref 28], h)) rfl ?_
                refine hk_getr rfl (hH.1 28 (9, 8) rfl) rfl (hH.2 28 0 (some 6) rfl) ?_
                refine qm_Ru.go 1 (c' := (16, [.ref 28, .int b], [.int b, .ref 6], h)) rfl ?_
                refine hk_inv (o := 6) (r := []) (as := [.ref 6, .int b]) rfl rfl (hH.1 6 (6, 9) rfl) rfl rfl rfl rfl ?_
                refine qm_Ru.go 2 (c' := (2, [.ref 6, .int b], [.int b, .ref 6], h)) rfl ?_
                refine hk_inv (o := 6) (r := []) (as := [.ref 6, .int b]) rfl rfl (hH.1 6 (6, 9) rfl) rfl rfl rfl rfl ?_
                refine qm_Ru.go 1 (c' := (1, [.ref 6, .int b], [.int b], h)) rfl ?_
                refine hk_zlt (ix := b.toInt) rfl rfl (fun z97 => by exfalso; omega) (fun z97 => ?_)
                refine qm_Ru.go 2 (c' := (6, [.ref 6, .int b], [.ref 6, .int b], h)) rfl ?_
                refine hk_geti (v := v8) rfl (hH.1 6 (6, 9) rfl) rfl q_v8 ?_
                refine qm_Ru.go 0 (c' := (9, [.ref 6, .int b], [.int v8, .int b], h)) rfl ?_
                refine hk_cge (ix := b.toInt) (iy := v8.toInt) rfl rfl rfl (fun z98 => ?_) (fun z98 => ?_)
                · refine qm_Ru.go 1 (c' := (17, [.ref 6, .int b], [.int 0], h)) rfl ?_
                  refine qm_Ru.rt (v := (some (.int 0))) (h' := h) rfl ?_
                  refine qm_Ru.go 2 (c' := (23, [.ref 6, .int b], [.int 0], h)) rfl ?_
                  refine qm_Ru.rt (v := (some (.int 0))) (h' := h) rfl ?_
                  refine qm_Ru.go 2 (c' := (47, [.ref 28, .int b], [.int 0], h)) rfl ?_
                  refine qm_Ru.rt (v := (some (.int 0))) (h' := h) rfl ?_
                  refine qm_Ru.go 2 (c' := (18, [.ref 28, .int b, .int y, .int r, .float 0, .float 0], [.int (-1)], h)) rfl ?_
                  refine qm_Ru.rt (v := (some (.int (-1)))) (h' := h) rfl ?_
                  exact k0 (-1) h.2.2.1 (by decide) (by decide)
                · refine qm_Ru.go 2 (c' := (17, [.ref 6, .int b], [.int 1], h)) rfl ?_
                  refine qm_Ru.rt (v := (some (.int 1))) (h' := h) rfl ?_
                  refine qm_Ru.go 2 (c' := (9, [.ref 6, .int b], [.ref 6], h)) rfl ?_
                  refine hk_getr rfl (hH.1 6 (6, 9) rfl) rfl (hH.2 6 5 (some 11) rfl) ?_
                  refine qm_Ru.go 1 (c' := (13, [.ref 6, .int b], [.int b, .ref 11], h)) rfl ?_
                  refine hk_ial (v := v95) rfl (hH.1 11 (0, 30) rfl) (by omega) (by omega) q_v95 ?_
                  refine qm_Ru.go 1 (c' := (15, [.ref 6, .int b], [.int 1, .int v95], h)) rfl ?_
                  refine hk_ceq (ix := v95.toInt) (iy := 1) rfl rfl rfl (fun z99 => ?_) (fun z99 => ?_)
                  · refine qm_Ru.go 1 (c' := (23, [.ref 6, .int b], [.int 0], h)) rfl ?_
                    refine qm_Ru.rt (v := (some (.int 0))) (h' := h) rfl ?_
                    refine qm_Ru.go 2 (c' := (47, [.ref 28, .int b], [.int 0], h)) rfl ?_
                    refine qm_Ru.rt (v := (some (.int 0))) (h' := h) rfl ?_
                    refine qm_Ru.go 2 (c' := (18, [.ref 28, .int b, .int y, .int r, .float 0, .float 0], [.int (-1)], h)) rfl ?_
                    refine qm_Ru.rt (v := (some (.int (-1)))) (h' := h) rfl ?_
                    exact k0 (-1) h.2.2.1 (by decide) (by decide)
                  · refine qm_Ru.go 2 (c' := (23, [.ref 6, .int b], [.int 1], h)) rfl ?_
                    refine qm_Ru.rt (v := (some (.int 1))) (h' := h) rfl ?_
                    refine qm_Ru.go 1 (c' := (22, [.ref 28, .int b], [], h)) rfl ?_
                    obtain ⟨v100, q_v100⟩ : ∃ v, h.2.1 12 (b.toInt.toNat) = v := ⟨_, rfl⟩
                    have b_v100 : (-1 : Int) ≤ v100.toInt ∧ v100.toInt ≤ 4 := by rw [← q_v100]; exact hB 12 (b.toInt.toNat)
                    have r_v100 : (0 : Int) ≤ v100.toInt ∧ v100.toInt ≤ 3 := by rw [← q_v100]; exact ((hV.1.1.2.2.2 (b.toInt.toNat)).2 (show (h.2.1 11 (b.toInt.toNat)).toInt = 2 from by rw [q_v95]; omega)).1
                    refine qm_Ru.go 1 (c' := (23, [.ref 28, .int b], [.ref 28], h)) rfl ?_
                    refine hk_getr rfl (hH.1 28 (9, 8) rfl) rfl (hH.2 28 1 (some 15) rfl) ?_
                    refine qm_Ru.go 1 (c' := (27, [.ref 28, .int b], [.ref 28, .ref 15], h)) rfl ?_
                    refine hk_getr rfl (hH.1 28 (9, 8) rfl) rfl (hH.2 28 0 (some 6) rfl) ?_
                    refine qm_Ru.go 0 (c' := (30, [.ref 28, .int b], [.ref 6, .ref 15], h)) rfl ?_
                    refine hk_getr rfl (hH.1 6 (6, 9) rfl) rfl (hH.2 6 6 (some 12) rfl) ?_
                    refine qm_Ru.go 1 (c' := (34, [.ref 28, .int b], [.int b, .ref 12, .ref 15], h)) rfl ?_
                    refine hk_ial (v := v100) rfl (hH.1 12 (0, 30) rfl) (by omega) (by omega) q_v100 ?_
                    refine qm_Ru.go 0 (c' := (35, [.ref 28, .int b], [.int v100, .ref 15], h)) rfl ?_
                    refine hk_inv (o := 15) (r := []) (as := [.ref 15, .int v100]) rfl rfl (hH.1 15 (15, 8) rfl) rfl rfl rfl rfl ?_
                    refine qm_Ru.go 1 (c' := (1, [.ref 15, .int v100], [.ref 15], h)) rfl ?_
                    refine hk_getr rfl (hH.1 15 (15, 8) rfl) rfl (hH.2 15 2 (some 17) rfl) ?_
                    refine qm_Ru.go 1 (c' := (5, [.ref 15, .int v100], [.int v100, .ref 17], h)) rfl ?_
                    obtain ⟨v101, q_v101⟩ : ∃ v, h.2.1 17 (v100.toInt.toNat) = v := ⟨_, rfl⟩
                    have b_v101 : (0 : Int) ≤ v101.toInt ∧ v101.toInt ≤ 4 := by rw [← q_v101]; exact hB 17 (v100.toInt.toNat)
                    refine hk_ial (v := v101) rfl (hH.1 17 (0, 4) rfl) (by omega) (by omega) q_v101 ?_
                    refine qm_Ru.go 0 (c' := (6, [.ref 15, .int v100], [.int v101], h)) rfl ?_
                    refine hk_zne (ix := v101.toInt) rfl rfl (fun z102 => ?_) (fun z102 => ?_)
                    · refine qm_Ru.go 1 (c' := (14, [.ref 15, .int v100], [.ref 15], h)) rfl ?_
                      refine hk_getr rfl (hH.1 15 (15, 8) rfl) rfl (hH.2 15 1 (some 16) rfl) ?_
                      refine qm_Ru.go 3 (c' := (20, [.ref 15, .int v100], [.int (v100 * 4), .ref 16], h)) rfl ?_
                      obtain ⟨v103, q_v103, e_v103⟩ := hk_mul (x := v100) (y := 4) (a := v100.toInt) (b := 4) rfl rfl (by omega) (by omega)
                      rw [q_v103]
                      refine qm_Ru.go 1 (c' := (21, [.ref 15, .int v100], [.ref 15, .int v103, .ref 16], h)) rfl ?_
                      refine hk_getr rfl (hH.1 15 (15, 8) rfl) rfl (hH.2 15 2 (some 17) rfl) ?_
                      refine qm_Ru.go 1 (c' := (25, [.ref 15, .int v100], [.int v100, .ref 17, .int v103, .ref 16], h)) rfl ?_
                      refine hk_ial (v := v101) rfl (hH.1 17 (0, 4) rfl) (by omega) (by omega) q_v101 ?_
                      refine qm_Ru.go 1 (c' := (27, [.ref 15, .int v100], [.int (v103 + v101), .ref 16], h)) rfl ?_
                      obtain ⟨v104, q_v104, e_v104⟩ := hk_add (x := v103) (y := v101) (a := v103.toInt) (b := v101.toInt) rfl rfl (by omega) (by omega)
                      rw [q_v104]
                      refine qm_Ru.go 2 (c' := (29, [.ref 15, .int v100], [.int (v104 - 1), .ref 16], h)) rfl ?_
                      obtain ⟨v105, q_v105, e_v105⟩ := hk_sub (x := v104) (y := 1) (a := v104.toInt) (b := 1) rfl rfl (by omega) (by omega)
                      rw [q_v105]
                      obtain ⟨v106, q_v106⟩ : ∃ v, h.2.1 16 (v105.toInt.toNat) = v := ⟨_, rfl⟩
                      have b_v106 : (0 : Int) ≤ v106.toInt ∧ v106.toInt ≤ 29 := by rw [← q_v106]; exact hB 16 (v105.toInt.toNat)
                      refine hk_ial (v := v106) rfl (hH.1 16 (0, 16) rfl) (by omega) (by omega) q_v106 ?_
                      refine qm_Ru.go 0 (c' := (30, [.ref 15, .int v100], [.int v106], h)) rfl ?_
                      refine qm_Ru.rt (v := (some (.int v106))) (h' := h) rfl ?_
                      refine qm_Ru.go 1 (c' := (39, [.ref 28, .int b], [.int b, .int v106], h)) rfl ?_
                      refine hk_cne (ix := v106.toInt) (iy := b.toInt) rfl rfl rfl (fun z107 => ?_) (fun z107 => ?_)
                      · refine qm_Ru.go 1 (c' := (47, [.ref 28, .int b], [.int 0], h)) rfl ?_
                        refine qm_Ru.rt (v := (some (.int 0))) (h' := h) rfl ?_
                        refine qm_Ru.go 2 (c' := (18, [.ref 28, .int b, .int y, .int r, .float 0, .float 0], [.int (-1)], h)) rfl ?_
                        refine qm_Ru.rt (v := (some (.int (-1)))) (h' := h) rfl ?_
                        exact k0 (-1) h.2.2.1 (by decide) (by decide)
                      · refine qm_Ru.go 2 (c' := (47, [.ref 28, .int b], [.int 1], h)) rfl ?_
                        refine qm_Ru.rt (v := (some (.int 1))) (h' := h) rfl ?_
                        refine qm_Ru.go 4 (c' := (22, [.ref 28, .int b, .int y, .int r, .float 0, .float 0], [.int r, .int y, .ref 28], h)) rfl ?_
                        refine hk_inv (o := 28) (r := []) (as := [.ref 28, .int y, .int r]) rfl rfl (hH.1 28 (9, 8) rfl) rfl rfl rfl rfl ?_
                        refine qm_Ru.go 2 (c' := (2, [.ref 28, .int y, .int r, .float 0], [.int y, .ref 28], h)) rfl ?_
                        refine hk_inv (o := 28) (r := []) (as := [.ref 28, .int y]) rfl rfl (hH.1 28 (9, 8) rfl) rfl rfl rfl rfl ?_
                        refine qm_Ru.go 2 (c' := (2, [.ref 28, .int y], [.int y, .ref 28], h)) rfl ?_
                        refine hk_inv (o := 28) (r := []) (as := [.ref 28, .int y]) rfl rfl (hH.1 28 (9, 8) rfl) rfl rfl rfl rfl ?_
                        refine qm_Ru.go 1 (c' := (1, [.ref 28, .int y], [.ref 28], h)) rfl ?_
                        obtain ⟨v108, q_v108⟩ : ∃ v, h.2.1 28 4 = v := ⟨_, rfl⟩
                        refine hk_geti (v := v108) rfl (hH.1 28 (9, 8) rfl) rfl q_v108 ?_
                        refine qm_Ru.go 2 (c' := (6, [.ref 28, .int y], [.int (v108 >>> (y &&& 31))], h)) rfl ?_
                        obtain ⟨v109, q_v109⟩ : ∃ v, (v108 >>> (y &&& 31)) = v := ⟨_, rfl⟩
                        rw [q_v109]
                        refine qm_Ru.go 2 (c' := (8, [.ref 28, .int y], [.int (v109 &&& 1)], h)) rfl ?_
                        obtain ⟨v110, q_v110⟩ : ∃ v, (v109 &&& 1) = v := ⟨_, rfl⟩
                        rw [q_v110]
                        refine qm_Ru.go 1 (c' := (9, [.ref 28, .int y], [.int 1, .int v110], h)) rfl ?_
                        refine hk_cne (ix := v110.toInt) (iy := 1) rfl rfl rfl (fun z111 => ?_) (fun z111 => ?_)
                        · refine qm_Ru.go 1 (c' := (17, [.ref 28, .int y], [.int 0], h)) rfl ?_
                          refine qm_Ru.rt (v := (some (.int 0))) (h' := h) rfl ?_
                          refine qm_Ru.go 2 (c' := (13, [.ref 28, .int y], [.int 0], h)) rfl ?_
                          refine qm_Ru.rt (v := (some (.int 0))) (h' := h) rfl ?_
                          refine qm_Ru.go 2 (c' := (7, [.ref 28, .int y, .int r, .int 0], [.ref 28], h)) rfl ?_
                          refine hk_getr rfl (hH.1 28 (9, 8) rfl) rfl (hH.2 28 3 (some 36) rfl) ?_
                          refine qm_Ru.go 3 (c' := (13, [.ref 28, .int y, .int r, .int 0], [.int 0, .int r, .int y, .ref 36], h)) rfl ?_
                          refine qm_Ru.call (j := 75) (as := [.int y, .int r, .int 0]) (c' := (16, [.ref 28, .int y, .int r, .int 0], [.ref 36], h)) rfl rfl rfl ?_
                          refine qm_Ru.go 3 (c' := (3, [.int y, .int r, .int 0], [.int (y * 4)], h)) rfl ?_
                          obtain ⟨v112, q_v112, e_v112⟩ := hk_mul (x := y) (y := 4) (a := y.toInt) (b := 4) rfl rfl (by omega) (by omega)
                          rw [q_v112]
                          refine qm_Ru.go 2 (c' := (5, [.int y, .int r, .int 0], [.int (v112 + r)], h)) rfl ?_
                          obtain ⟨v113, q_v113, e_v113⟩ := hk_add (x := v112) (y := r) (a := v112.toInt) (b := r.toInt) rfl rfl (by omega) (by omega)
                          rw [q_v113]
                          refine qm_Ru.go 2 (c' := (7, [.int y, .int r, .int 0], [.int (v113 * 4)], h)) rfl ?_
                          obtain ⟨v114, q_v114, e_v114⟩ := hk_mul (x := v113) (y := 4) (a := v113.toInt) (b := 4) rfl rfl (by omega) (by omega)
                          rw [q_v114]
                          refine qm_Ru.go 2 (c' := (9, [.int y, .int r, .int 0], [.int (v114 + 0)], h)) rfl ?_
                          obtain ⟨v115, q_v115, e_v115⟩ := hk_add (x := v114) (y := 0) (a := v114.toInt) (b := 0) rfl rfl (by omega) (by omega)
                          rw [q_v115]
                          refine qm_Ru.rt (v := (some (.int v115))) (h' := h) rfl ?_
                          refine qm_Ru.go 0 (c' := (16, [.ref 28, .int y, .int r, .int 0], [.int v115, .ref 36], h)) rfl ?_
                          obtain ⟨v116, q_v116⟩ : ∃ v, h.2.1 36 (v115.toInt.toNat) = v := ⟨_, rfl⟩
                          have b_v116 : (-1 : Int) ≤ v116.toInt ∧ v116.toInt ≤ 29 := by rw [← q_v116]; exact hB 36 (v115.toInt.toNat)
                          refine hk_ial (v := v116) rfl (hH.1 36 (0, 80) rfl) (by omega) (by omega) q_v116 ?_
                          refine qm_Ru.go 1 (c' := (18, [.ref 28, .int y, .int r, .int 0], [.int (-1), .int v116], h)) rfl ?_
                          refine hk_cne (ix := v116.toInt) (iy := (-1)) rfl rfl rfl (fun z117 => ?_) (fun z117 => ?_)
                          · refine qm_Ru.go 1 (c' := (24, [.ref 28, .int y, .int r, .int 0], [.ref 28], h)) rfl ?_
                            refine hk_getr rfl (hH.1 28 (9, 8) rfl) rfl (hH.2 28 3 (some 36) rfl) ?_
                            refine qm_Ru.go 5 (c' := (32, [.ref 28, .int y, .int r, .int 0], [.int 1, .int r, .int y, .ref 36], h)) rfl ?_
                            refine qm_Ru.call (j := 75) (as := [.int y, .int r, .int 1]) (c' := (35, [.ref 28, .int y, .int r, .int 0], [.ref 36], h)) rfl rfl rfl ?_
                            refine qm_Ru.go 3 (c' := (3, [.int y, .int r, .int 1], [.int (y * 4)], h)) rfl ?_
                            rw [q_v112]
                            refine qm_Ru.go 2 (c' := (5, [.int y, .int r, .int 1], [.int (v112 + r)], h)) rfl ?_
                            rw [q_v113]
                            refine qm_Ru.go 2 (c' := (7, [.int y, .int r, .int 1], [.int (v113 * 4)], h)) rfl ?_
                            rw [q_v114]
                            refine qm_Ru.go 2 (c' := (9, [.int y, .int r, .int 1], [.int (v114 + 1)], h)) rfl ?_
                            obtain ⟨v121, q_v121, e_v121⟩ := hk_add (x := v114) (y := 1) (a := v114.toInt) (b := 1) rfl rfl (by omega) (by omega)
                            rw [q_v121]
                            refine qm_Ru.rt (v := (some (.int v121))) (h' := h) rfl ?_
                            refine qm_Ru.go 0 (c' := (35, [.ref 28, .int y, .int r, .int 0], [.int v121, .ref 36], h)) rfl ?_
                            obtain ⟨v122, q_v122⟩ : ∃ v, h.2.1 36 (v121.toInt.toNat) = v := ⟨_, rfl⟩
                            have b_v122 : (-1 : Int) ≤ v122.toInt ∧ v122.toInt ≤ 29 := by rw [← q_v122]; exact hB 36 (v121.toInt.toNat)
                            refine hk_ial (v := v122) rfl (hH.1 36 (0, 80) rfl) (by omega) (by omega) q_v122 ?_
                            refine qm_Ru.go 1 (c' := (37, [.ref 28, .int y, .int r, .int 0], [.int (-1), .int v122], h)) rfl ?_
                            refine hk_cne (ix := v122.toInt) (iy := (-1)) rfl rfl rfl (fun z123 => ?_) (fun z123 => ?_)
                            · refine qm_Ru.go 1 (c' := (47, [.ref 28, .int y, .int r, .int 0], [.int (-1)], h)) rfl ?_
                              refine qm_Ru.rt (v := (some (.int (-1)))) (h' := h) rfl ?_
                              refine qm_Ru.go 5 (c' := (34, [.ref 28, .int b, .int y, .int r, .int (-1), .float 0], [.int (-1)], h)) rfl ?_
                              refine qm_Ru.rt (v := (some (.int (-1)))) (h' := h) rfl ?_
                              exact k0 (-1) h.2.2.1 (by decide) (by decide)
                            · refine qm_Ru.go 4 (c' := (47, [.ref 28, .int y, .int r, .int 0], [.int 1], h)) rfl ?_
                              refine qm_Ru.rt (v := (some (.int 1))) (h' := h) rfl ?_
                              refine qm_Ru.go 5 (c' := (36, [.ref 28, .int b, .int y, .int r, .int 1, .float 0], [.ref 28], h)) rfl ?_
                              refine hk_getr rfl (hH.1 28 (9, 8) rfl) rfl (hH.2 28 0 (some 6) rfl) ?_
                              refine qm_Ru.go 0 (c' := (39, [.ref 28, .int b, .int y, .int r, .int 1, .float 0], [.ref 6], h)) rfl ?_
                              refine hk_getr rfl (hH.1 6 (6, 9) rfl) rfl (hH.2 6 1 (some 7) rfl) ?_
                              refine qm_Ru.go 1 (c' := (43, [.ref 28, .int b, .int y, .int r, .int 1, .float 0], [.int b, .ref 7], h)) rfl ?_
                              obtain ⟨v124, q_v124⟩ : ∃ v, h.2.1 7 (b.toInt.toNat) = v := ⟨_, rfl⟩
                              have b_v124 : (0 : Int) ≤ v124.toInt ∧ v124.toInt ≤ 40 := by rw [← q_v124]; exact hB 7 (b.toInt.toNat)
                              refine hk_ial (v := v124) rfl (hH.1 7 (0, 30) rfl) (by omega) (by omega) q_v124 ?_
                              refine qm_Ru.go 3 (c' := (49, [.ref 28, .int b, .int y, .int r, .int 1, .int v124], [.ref 28, .int v124], h)) rfl ?_
                              refine hk_getr rfl (hH.1 28 (9, 8) rfl) rfl hT.2 ?_
                              refine qm_Ru.go 0 (c' := (52, [.ref 28, .int b, .int y, .int r, .int 1, .int v124], [.ref 29, .int v124], h)) rfl ?_
                              obtain ⟨v125, q_v125⟩ : ∃ v, h.2.1 29 4 = v := ⟨_, rfl⟩
                              refine hk_geti (v := v125) rfl (hH.1 29 (11, 16) rfl) rfl q_v125 ?_
                              refine qm_Ru.go 0 (c' := (55, [.ref 28, .int b, .int y, .int r, .int 1, .int v124], [.int v125, .int v124], h)) rfl ?_
                              refine hk_cle (ix := v124.toInt) (iy := v125.toInt) rfl rfl rfl (fun z126 => ?_) (fun z126 => ?_)
                              · refine qm_Ru.go 4 (c' := (66, [.ref 28, .int b, .int y, .int r, .int 1, .int v124], [.int v124, .int r, .int y, .ref 28], h)) rfl ?_
                                refine hk_inv (o := 28) (r := []) (as := [.ref 28, .int y, .int r, .int v124]) rfl rfl (hH.1 28 (9, 8) rfl) rfl rfl rfl rfl (hs_borne29 h6 hH hT hB (v_C_ru hV) ⟨by show (0 : Int) ≤ y.toInt; omega, by show y.toInt ≤ (4 : Int); omega⟩ ⟨by show (0 : Int) ≤ r.toInt; omega, by show r.toInt ≤ (3 : Int); omega⟩ (qa_in_full _) (by omega) (fun v127 I128 J129 c_v127 _ e_I128 => ?_))
                                have e_I128 : I128 = h.2.1 := funext fun o => funext fun i => e_I128 o rfl i
                                subst e_I128
                                have b_v127 : (0 : Int) ≤ v127.toInt ∧ v127.toInt ≤ 1 := c_v127
                                refine qm_Ru.go 0 (c' := (69, [.ref 28, .int b, .int y, .int r, .int 1, .int v124], [.int v127], (h.1, h.2.1, J129, h.2.2.2))) rfl ?_
                                refine hk_zne (ix := v127.toInt) rfl rfl (fun z130 => ?_) (fun z130 => ?_)
                                · refine qm_Ru.go 2 (c' := (90, [.ref 28, .int b, .int y, .int r, .int 1, .int v124], [.int 1], (h.1, h.2.1, J129, h.2.2.2))) rfl ?_
                                  refine qm_Ru.rt (v := (some (.int 1))) (h' := (h.1, h.2.1, J129, h.2.2.2)) rfl ?_
                                  exact k1 1 J129 (t_free1 (t := 1) (by omega) (by omega) (by decide) q_v122 (by omega) (by omega) q_v116 (by omega) (by omega)) (t_had2 (by omega) q_v8 (by omega) q_v95 (by omega) q_v100 q_v101 rfl (by omega) q_v106 (by omega) (by omega))
                                · refine qm_Ru.go 4 (c' := (77, [.ref 28, .int b, .int y, .int r, .int 1, .int v124], [.int v124, .int r, .int y, .ref 28], (h.1, h.2.1, J129, h.2.2.2))) rfl ?_
                                  refine hk_inv (o := 28) (r := []) (as := [.ref 28, .int y, .int r, .int v124]) rfl rfl (hH.1 28 (9, 8) rfl) rfl rfl rfl rfl (hs_nowor29 h6 hH hT hB (v_C_ru hV) ⟨by show (0 : Int) ≤ y.toInt; omega, by show y.toInt ≤ (4 : Int); omega⟩ ⟨by show (0 : Int) ≤ r.toInt; omega, by show r.toInt ≤ (3 : Int); omega⟩ (qa_in_full _) (by omega) (fun v131 I132 J133 c_v131 _ e_I132 => ?_))
                                  have e_I132 : I132 = h.2.1 := funext fun o => funext fun i => e_I132 o rfl i
                                  subst e_I132
                                  have b_v131 : (0 : Int) ≤ v131.toInt ∧ v131.toInt ≤ 1 := c_v131
                                  refine qm_Ru.go 0 (c' := (80, [.ref 28, .int b, .int y, .int r, .int 1, .int v124], [.int v131], (h.1, h.2.1, J133, h.2.2.2))) rfl ?_
                                  refine hk_zeq (ix := v131.toInt) rfl rfl (fun z134 => ?_) (fun z134 => ?_)
                                  · refine qm_Ru.go 1 (c' := (90, [.ref 28, .int b, .int y, .int r, .int 1, .int v124], [.int (-3)], (h.1, h.2.1, J133, h.2.2.2))) rfl ?_
                                    refine qm_Ru.rt (v := (some (.int (-3)))) (h' := (h.1, h.2.1, J133, h.2.2.2)) rfl ?_
                                    exact k0 (-3) J133 (by decide) (by decide)
                                  · refine qm_Ru.go 2 (c' := (90, [.ref 28, .int b, .int y, .int r, .int 1, .int v124], [.int 1], (h.1, h.2.1, J133, h.2.2.2))) rfl ?_
                                    refine qm_Ru.rt (v := (some (.int 1))) (h' := (h.1, h.2.1, J133, h.2.2.2)) rfl ?_
                                    exact k1 1 J133 (t_free1 (t := 1) (by omega) (by omega) (by decide) q_v122 (by omega) (by omega) q_v116 (by omega) (by omega)) (t_had2 (by omega) q_v8 (by omega) q_v95 (by omega) q_v100 q_v101 rfl (by omega) q_v106 (by omega) (by omega))
                              · refine qm_Ru.go 1 (c' := (60, [.ref 28, .int b, .int y, .int r, .int 1, .int v124], [.int (-2)], h)) rfl ?_
                                refine qm_Ru.rt (v := (some (.int (-2)))) (h' := h) rfl ?_
                                exact k0 (-2) h.2.2.1 (by decide) (by decide)
                          · refine qm_Ru.go 1 (c' := (22, [.ref 28, .int y, .int r, .int 0], [.int 0], h)) rfl ?_
                            refine qm_Ru.rt (v := (some (.int 0))) (h' := h) rfl ?_
                            refine qm_Ru.go 5 (c' := (36, [.ref 28, .int b, .int y, .int r, .int 0, .float 0], [.ref 28], h)) rfl ?_
                            refine hk_getr rfl (hH.1 28 (9, 8) rfl) rfl (hH.2 28 0 (some 6) rfl) ?_
                            refine qm_Ru.go 0 (c' := (39, [.ref 28, .int b, .int y, .int r, .int 0, .float 0], [.ref 6], h)) rfl ?_
                            refine hk_getr rfl (hH.1 6 (6, 9) rfl) rfl (hH.2 6 1 (some 7) rfl) ?_
                            refine qm_Ru.go 1 (c' := (43, [.ref 28, .int b, .int y, .int r, .int 0, .float 0], [.int b, .ref 7], h)) rfl ?_
                            obtain ⟨v135, q_v135⟩ : ∃ v, h.2.1 7 (b.toInt.toNat) = v := ⟨_, rfl⟩
                            have b_v135 : (0 : Int) ≤ v135.toInt ∧ v135.toInt ≤ 40 := by rw [← q_v135]; exact hB 7 (b.toInt.toNat)
                            refine hk_ial (v := v135) rfl (hH.1 7 (0, 30) rfl) (by omega) (by omega) q_v135 ?_
                            refine qm_Ru.go 3 (c' := (49, [.ref 28, .int b, .int y, .int r, .int 0, .int v135], [.ref 28, .int v135], h)) rfl ?_
                            refine hk_getr rfl (hH.1 28 (9, 8) rfl) rfl hT.2 ?_
                            refine qm_Ru.go 0 (c' := (52, [.ref 28, .int b, .int y, .int r, .int 0, .int v135], [.ref 29, .int v135], h)) rfl ?_
                            obtain ⟨v136, q_v136⟩ : ∃ v, h.2.1 29 4 = v := ⟨_, rfl⟩
                            refine hk_geti (v := v136) rfl (hH.1 29 (11, 16) rfl) rfl q_v136 ?_
                            refine qm_Ru.go 0 (c' := (55, [.ref 28, .int b, .int y, .int r, .int 0, .int v135], [.int v136, .int v135], h)) rfl ?_
                            refine hk_cle (ix := v135.toInt) (iy := v136.toInt) rfl rfl rfl (fun z137 => ?_) (fun z137 => ?_)
                            · refine qm_Ru.go 4 (c' := (66, [.ref 28, .int b, .int y, .int r, .int 0, .int v135], [.int v135, .int r, .int y, .ref 28], h)) rfl ?_
                              refine hk_inv (o := 28) (r := []) (as := [.ref 28, .int y, .int r, .int v135]) rfl rfl (hH.1 28 (9, 8) rfl) rfl rfl rfl rfl (hs_borne29 h6 hH hT hB (v_C_ru hV) ⟨by show (0 : Int) ≤ y.toInt; omega, by show y.toInt ≤ (4 : Int); omega⟩ ⟨by show (0 : Int) ≤ r.toInt; omega, by show r.toInt ≤ (3 : Int); omega⟩ (qa_in_full _) (by omega) (fun v138 I139 J140 c_v138 _ e_I139 => ?_))
                              have e_I139 : I139 = h.2.1 := funext fun o => funext fun i => e_I139 o rfl i
                              subst e_I139
                              have b_v138 : (0 : Int) ≤ v138.toInt ∧ v138.toInt ≤ 1 := c_v138
                              refine qm_Ru.go 0 (c' := (69, [.ref 28, .int b, .int y, .int r, .int 0, .int v135], [.int v138], (h.1, h.2.1, J140, h.2.2.2))) rfl ?_
                              refine hk_zne (ix := v138.toInt) rfl rfl (fun z141 => ?_) (fun z141 => ?_)
                              · refine qm_Ru.go 2 (c' := (90, [.ref 28, .int b, .int y, .int r, .int 0, .int v135], [.int 0], (h.1, h.2.1, J140, h.2.2.2))) rfl ?_
                                refine qm_Ru.rt (v := (some (.int 0))) (h' := (h.1, h.2.1, J140, h.2.2.2)) rfl ?_
                                exact k1 0 J140 (t_free0 (t := 0) (by omega) (by omega) (by decide) q_v116 (by omega) (by omega)) (t_had2 (by omega) q_v8 (by omega) q_v95 (by omega) q_v100 q_v101 rfl (by omega) q_v106 (by omega) (by omega))
                              · refine qm_Ru.go 4 (c' := (77, [.ref 28, .int b, .int y, .int r, .int 0, .int v135], [.int v135, .int r, .int y, .ref 28], (h.1, h.2.1, J140, h.2.2.2))) rfl ?_
                                refine hk_inv (o := 28) (r := []) (as := [.ref 28, .int y, .int r, .int v135]) rfl rfl (hH.1 28 (9, 8) rfl) rfl rfl rfl rfl (hs_nowor29 h6 hH hT hB (v_C_ru hV) ⟨by show (0 : Int) ≤ y.toInt; omega, by show y.toInt ≤ (4 : Int); omega⟩ ⟨by show (0 : Int) ≤ r.toInt; omega, by show r.toInt ≤ (3 : Int); omega⟩ (qa_in_full _) (by omega) (fun v142 I143 J144 c_v142 _ e_I143 => ?_))
                                have e_I143 : I143 = h.2.1 := funext fun o => funext fun i => e_I143 o rfl i
                                subst e_I143
                                have b_v142 : (0 : Int) ≤ v142.toInt ∧ v142.toInt ≤ 1 := c_v142
                                refine qm_Ru.go 0 (c' := (80, [.ref 28, .int b, .int y, .int r, .int 0, .int v135], [.int v142], (h.1, h.2.1, J144, h.2.2.2))) rfl ?_
                                refine hk_zeq (ix := v142.toInt) rfl rfl (fun z145 => ?_) (fun z145 => ?_)
                                · refine qm_Ru.go 1 (c' := (90, [.ref 28, .int b, .int y, .int r, .int 0, .int v135], [.int (-3)], (h.1, h.2.1, J144, h.2.2.2))) rfl ?_
                                  refine qm_Ru.rt (v := (some (.int (-3)))) (h' := (h.1, h.2.1, J144, h.2.2.2)) rfl ?_
                                  exact k0 (-3) J144 (by decide) (by decide)
                                · refine qm_Ru.go 2 (c' := (90, [.ref 28, .int b, .int y, .int r, .int 0, .int v135], [.int 0], (h.1, h.2.1, J144, h.2.2.2))) rfl ?_
                                  refine qm_Ru.rt (v := (some (.int 0))) (h' := (h.1, h.2.1, J144, h.2.2.2)) rfl ?_
                                  exact k1 0 J144 (t_free0 (t := 0) (by omega) (by omega) (by decide) q_v116 (by omega) (by omega)) (t_had2 (by omega) q_v8 (by omega) q_v95 (by omega) q_v100 q_v101 rfl (by omega) q_v106 (by omega) (by omega))
                            · refine qm_Ru.go 1 (c' := (60, [.ref 28, .int b, .int y, .int r, .int 0, .int v135], [.int (-2)], h)) rfl ?_
                              refine qm_Ru.rt (v := (some (.int (-2)))) (h' := h) rfl ?_
                              exact k0 (-2) h.2.2.1 (by decide) (by decide)
                        · refine qm_Ru.go 2 (c' := (17, [.ref 28, .int y], [.int 1], h)) rfl ?_
                          refine qm_Ru.rt (v := (some (.int 1))) (h' := h) rfl ?_
                          refine qm_Ru.go 3 (c' := (13, [.ref 28, .int y], [.int 2], h)) rfl ?_
                          refine qm_Ru.rt (v := (some (.int 2))) (h' := h) rfl ?_
                          refine qm_Ru.go 2 (c' := (7, [.ref 28, .int y, .int r, .int 2], [.ref 28], h)) rfl ?_
                          refine hk_getr rfl (hH.1 28 (9, 8) rfl) rfl (hH.2 28 3 (some 36) rfl) ?_
                          refine qm_Ru.go 3 (c' := (13, [.ref 28, .int y, .int r, .int 2], [.int 2, .int r, .int y, .ref 36], h)) rfl ?_
                          refine qm_Ru.call (j := 75) (as := [.int y, .int r, .int 2]) (c' := (16, [.ref 28, .int y, .int r, .int 2], [.ref 36], h)) rfl rfl rfl ?_
                          refine qm_Ru.go 3 (c' := (3, [.int y, .int r, .int 2], [.int (y * 4)], h)) rfl ?_
                          obtain ⟨v146, q_v146, e_v146⟩ := hk_mul (x := y) (y := 4) (a := y.toInt) (b := 4) rfl rfl (by omega) (by omega)
                          rw [q_v146]
                          refine qm_Ru.go 2 (c' := (5, [.int y, .int r, .int 2], [.int (v146 + r)], h)) rfl ?_
                          obtain ⟨v147, q_v147, e_v147⟩ := hk_add (x := v146) (y := r) (a := v146.toInt) (b := r.toInt) rfl rfl (by omega) (by omega)
                          rw [q_v147]
                          refine qm_Ru.go 2 (c' := (7, [.int y, .int r, .int 2], [.int (v147 * 4)], h)) rfl ?_
                          obtain ⟨v148, q_v148, e_v148⟩ := hk_mul (x := v147) (y := 4) (a := v147.toInt) (b := 4) rfl rfl (by omega) (by omega)
                          rw [q_v148]
                          refine qm_Ru.go 2 (c' := (9, [.int y, .int r, .int 2], [.int (v148 + 2)], h)) rfl ?_
                          obtain ⟨v149, q_v149, e_v149⟩ := hk_add (x := v148) (y := 2) (a := v148.toInt) (b := 2) rfl rfl (by omega) (by omega)
                          rw [q_v149]
                          refine qm_Ru.rt (v := (some (.int v149))) (h' := h) rfl ?_
                          refine qm_Ru.go 0 (c' := (16, [.ref 28, .int y, .int r, .int 2], [.int v149, .ref 36], h)) rfl ?_
                          obtain ⟨v150, q_v150⟩ : ∃ v, h.2.1 36 (v149.toInt.toNat) = v := ⟨_, rfl⟩
                          have b_v150 : (-1 : Int) ≤ v150.toInt ∧ v150.toInt ≤ 29 := by rw [← q_v150]; exact hB 36 (v149.toInt.toNat)
                          refine hk_ial (v := v150) rfl (hH.1 36 (0, 80) rfl) (by omega) (by omega) q_v150 ?_
                          refine qm_Ru.go 1 (c' := (18, [.ref 28, .int y, .int r, .int 2], [.int (-1), .int v150], h)) rfl ?_
                          refine hk_cne (ix := v150.toInt) (iy := (-1)) rfl rfl rfl (fun z151 => ?_) (fun z151 => ?_)
                          · refine qm_Ru.go 1 (c' := (24, [.ref 28, .int y, .int r, .int 2], [.ref 28], h)) rfl ?_
                            refine hk_getr rfl (hH.1 28 (9, 8) rfl) rfl (hH.2 28 3 (some 36) rfl) ?_
                            refine qm_Ru.go 5 (c' := (32, [.ref 28, .int y, .int r, .int 2], [.int 3, .int r, .int y, .ref 36], h)) rfl ?_
                            refine qm_Ru.call (j := 75) (as := [.int y, .int r, .int 3]) (c' := (35, [.ref 28, .int y, .int r, .int 2], [.ref 36], h)) rfl rfl rfl ?_
                            refine qm_Ru.go 3 (c' := (3, [.int y, .int r, .int 3], [.int (y * 4)], h)) rfl ?_
                            rw [q_v146]
                            refine qm_Ru.go 2 (c' := (5, [.int y, .int r, .int 3], [.int (v146 + r)], h)) rfl ?_
                            rw [q_v147]
                            refine qm_Ru.go 2 (c' := (7, [.int y, .int r, .int 3], [.int (v147 * 4)], h)) rfl ?_
                            rw [q_v148]
                            refine qm_Ru.go 2 (c' := (9, [.int y, .int r, .int 3], [.int (v148 + 3)], h)) rfl ?_
                            obtain ⟨v155, q_v155, e_v155⟩ := hk_add (x := v148) (y := 3) (a := v148.toInt) (b := 3) rfl rfl (by omega) (by omega)
                            rw [q_v155]
                            refine qm_Ru.rt (v := (some (.int v155))) (h' := h) rfl ?_
                            refine qm_Ru.go 0 (c' := (35, [.ref 28, .int y, .int r, .int 2], [.int v155, .ref 36], h)) rfl ?_
                            obtain ⟨v156, q_v156⟩ : ∃ v, h.2.1 36 (v155.toInt.toNat) = v := ⟨_, rfl⟩
                            have b_v156 : (-1 : Int) ≤ v156.toInt ∧ v156.toInt ≤ 29 := by rw [← q_v156]; exact hB 36 (v155.toInt.toNat)
                            refine hk_ial (v := v156) rfl (hH.1 36 (0, 80) rfl) (by omega) (by omega) q_v156 ?_
                            refine qm_Ru.go 1 (c' := (37, [.ref 28, .int y, .int r, .int 2], [.int (-1), .int v156], h)) rfl ?_
                            refine hk_cne (ix := v156.toInt) (iy := (-1)) rfl rfl rfl (fun z157 => ?_) (fun z157 => ?_)
                            · refine qm_Ru.go 1 (c' := (47, [.ref 28, .int y, .int r, .int 2], [.int (-1)], h)) rfl ?_
                              refine qm_Ru.rt (v := (some (.int (-1)))) (h' := h) rfl ?_
                              refine qm_Ru.go 5 (c' := (34, [.ref 28, .int b, .int y, .int r, .int (-1), .float 0], [.int (-1)], h)) rfl ?_
                              refine qm_Ru.rt (v := (some (.int (-1)))) (h' := h) rfl ?_
                              exact k0 (-1) h.2.2.1 (by decide) (by decide)
                            · refine qm_Ru.go 4 (c' := (47, [.ref 28, .int y, .int r, .int 2], [.int 3], h)) rfl ?_
                              refine qm_Ru.rt (v := (some (.int 3))) (h' := h) rfl ?_
                              refine qm_Ru.go 5 (c' := (36, [.ref 28, .int b, .int y, .int r, .int 3, .float 0], [.ref 28], h)) rfl ?_
                              refine hk_getr rfl (hH.1 28 (9, 8) rfl) rfl (hH.2 28 0 (some 6) rfl) ?_
                              refine qm_Ru.go 0 (c' := (39, [.ref 28, .int b, .int y, .int r, .int 3, .float 0], [.ref 6], h)) rfl ?_
                              refine hk_getr rfl (hH.1 6 (6, 9) rfl) rfl (hH.2 6 1 (some 7) rfl) ?_
                              refine qm_Ru.go 1 (c' := (43, [.ref 28, .int b, .int y, .int r, .int 3, .float 0], [.int b, .ref 7], h)) rfl ?_
                              obtain ⟨v158, q_v158⟩ : ∃ v, h.2.1 7 (b.toInt.toNat) = v := ⟨_, rfl⟩
                              have b_v158 : (0 : Int) ≤ v158.toInt ∧ v158.toInt ≤ 40 := by rw [← q_v158]; exact hB 7 (b.toInt.toNat)
                              refine hk_ial (v := v158) rfl (hH.1 7 (0, 30) rfl) (by omega) (by omega) q_v158 ?_
                              refine qm_Ru.go 3 (c' := (49, [.ref 28, .int b, .int y, .int r, .int 3, .int v158], [.ref 28, .int v158], h)) rfl ?_
                              refine hk_getr rfl (hH.1 28 (9, 8) rfl) rfl hT.2 ?_
                              refine qm_Ru.go 0 (c' := (52, [.ref 28, .int b, .int y, .int r, .int 3, .int v158], [.ref 29, .int v158], h)) rfl ?_
                              obtain ⟨v159, q_v159⟩ : ∃ v, h.2.1 29 4 = v := ⟨_, rfl⟩
                              refine hk_geti (v := v159) rfl (hH.1 29 (11, 16) rfl) rfl q_v159 ?_
                              refine qm_Ru.go 0 (c' := (55, [.ref 28, .int b, .int y, .int r, .int 3, .int v158], [.int v159, .int v158], h)) rfl ?_
                              refine hk_cle (ix := v158.toInt) (iy := v159.toInt) rfl rfl rfl (fun z160 => ?_) (fun z160 => ?_)
                              · refine qm_Ru.go 4 (c' := (66, [.ref 28, .int b, .int y, .int r, .int 3, .int v158], [.int v158, .int r, .int y, .ref 28], h)) rfl ?_
                                refine hk_inv (o := 28) (r := []) (as := [.ref 28, .int y, .int r, .int v158]) rfl rfl (hH.1 28 (9, 8) rfl) rfl rfl rfl rfl (hs_borne29 h6 hH hT hB (v_C_ru hV) ⟨by show (0 : Int) ≤ y.toInt; omega, by show y.toInt ≤ (4 : Int); omega⟩ ⟨by show (0 : Int) ≤ r.toInt; omega, by show r.toInt ≤ (3 : Int); omega⟩ (qa_in_full _) (by omega) (fun v161 I162 J163 c_v161 _ e_I162 => ?_))
                                have e_I162 : I162 = h.2.1 := funext fun o => funext fun i => e_I162 o rfl i
                                subst e_I162
                                have b_v161 : (0 : Int) ≤ v161.toInt ∧ v161.toInt ≤ 1 := c_v161
                                refine qm_Ru.go 0 (c' := (69, [.ref 28, .int b, .int y, .int r, .int 3, .int v158], [.int v161], (h.1, h.2.1, J163, h.2.2.2))) rfl ?_
                                refine hk_zne (ix := v161.toInt) rfl rfl (fun z164 => ?_) (fun z164 => ?_)
                                · refine qm_Ru.go 2 (c' := (90, [.ref 28, .int b, .int y, .int r, .int 3, .int v158], [.int 3], (h.1, h.2.1, J163, h.2.2.2))) rfl ?_
                                  refine qm_Ru.rt (v := (some (.int 3))) (h' := (h.1, h.2.1, J163, h.2.2.2)) rfl ?_
                                  exact k1 3 J163 (t_free1 (t := 3) (by omega) (by omega) (by decide) q_v156 (by omega) (by omega) q_v150 (by omega) (by omega)) (t_had2 (by omega) q_v8 (by omega) q_v95 (by omega) q_v100 q_v101 rfl (by omega) q_v106 (by omega) (by omega))
                                · refine qm_Ru.go 4 (c' := (77, [.ref 28, .int b, .int y, .int r, .int 3, .int v158], [.int v158, .int r, .int y, .ref 28], (h.1, h.2.1, J163, h.2.2.2))) rfl ?_
                                  refine hk_inv (o := 28) (r := []) (as := [.ref 28, .int y, .int r, .int v158]) rfl rfl (hH.1 28 (9, 8) rfl) rfl rfl rfl rfl (hs_nowor29 h6 hH hT hB (v_C_ru hV) ⟨by show (0 : Int) ≤ y.toInt; omega, by show y.toInt ≤ (4 : Int); omega⟩ ⟨by show (0 : Int) ≤ r.toInt; omega, by show r.toInt ≤ (3 : Int); omega⟩ (qa_in_full _) (by omega) (fun v165 I166 J167 c_v165 _ e_I166 => ?_))
                                  have e_I166 : I166 = h.2.1 := funext fun o => funext fun i => e_I166 o rfl i
                                  subst e_I166
                                  have b_v165 : (0 : Int) ≤ v165.toInt ∧ v165.toInt ≤ 1 := c_v165
                                  refine qm_Ru.go 0 (c' := (80, [.ref 28, .int b, .int y, .int r, .int 3, .int v158], [.int v165], (h.1, h.2.1, J167, h.2.2.2))) rfl ?_
                                  refine hk_zeq (ix := v165.toInt) rfl rfl (fun z168 => ?_) (fun z168 => ?_)
                                  · refine qm_Ru.go 1 (c' := (90, [.ref 28, .int b, .int y, .int r, .int 3, .int v158], [.int (-3)], (h.1, h.2.1, J167, h.2.2.2))) rfl ?_
                                    refine qm_Ru.rt (v := (some (.int (-3)))) (h' := (h.1, h.2.1, J167, h.2.2.2)) rfl ?_
                                    exact k0 (-3) J167 (by decide) (by decide)
                                  · refine qm_Ru.go 2 (c' := (90, [.ref 28, .int b, .int y, .int r, .int 3, .int v158], [.int 3], (h.1, h.2.1, J167, h.2.2.2))) rfl ?_
                                    refine qm_Ru.rt (v := (some (.int 3))) (h' := (h.1, h.2.1, J167, h.2.2.2)) rfl ?_
                                    exact k1 3 J167 (t_free1 (t := 3) (by omega) (by omega) (by decide) q_v156 (by omega) (by omega) q_v150 (by omega) (by omega)) (t_had2 (by omega) q_v8 (by omega) q_v95 (by omega) q_v100 q_v101 rfl (by omega) q_v106 (by omega) (by omega))
                              · refine qm_Ru.go 1 (c' := (60, [.ref 28, .int b, .int y, .int r, .int 3, .int v158], [.int (-2)], h)) rfl ?_
                                refine qm_Ru.rt (v := (some (.int (-2)))) (h' := h) rfl ?_
                                exact k0 (-2) h.2.2.1 (by decide) (by decide)
                          · refine qm_Ru.go 1 (c' := (22, [.ref 28, .int y, .int r, .int 2], [.int 2], h)) rfl ?_
                            refine qm_Ru.rt (v := (some (.int 2))) (h' := h) rfl ?_
                            refine qm_Ru.go 5 (c' := (36, [.ref 28, .int b, .int y, .int r, .int 2, .float 0], [.ref 28], h)) rfl ?_
                            refine hk_getr rfl (hH.1 28 (9, 8) rfl) rfl (hH.2 28 0 (some 6) rfl) ?_
                            refine qm_Ru.go 0 (c' := (39, [.ref 28, .int b, .int y, .int r, .int 2, .float 0], [.ref 6], h)) rfl ?_
                            refine hk_getr rfl (hH.1 6 (6, 9) rfl) rfl (hH.2 6 1 (some 7) rfl) ?_
                            refine qm_Ru.go 1 (c' := (43, [.ref 28, .int b, .int y, .int r, .int 2, .float 0], [.int b, .ref 7], h)) rfl ?_
                            obtain ⟨v169, q_v169⟩ : ∃ v, h.2.1 7 (b.toInt.toNat) = v := ⟨_, rfl⟩
                            have b_v169 : (0 : Int) ≤ v169.toInt ∧ v169.toInt ≤ 40 := by rw [← q_v169]; exact hB 7 (b.toInt.toNat)
                            refine hk_ial (v := v169) rfl (hH.1 7 (0, 30) rfl) (by omega) (by omega) q_v169 ?_
                            refine qm_Ru.go 3 (c' := (49, [.ref 28, .int b, .int y, .int r, .int 2, .int v169], [.ref 28, .int v169], h)) rfl ?_
                            refine hk_getr rfl (hH.1 28 (9, 8) rfl) rfl hT.2 ?_
                            refine qm_Ru.go 0 (c' := (52, [.ref 28, .int b, .int y, .int r, .int 2, .int v169], [.ref 29, .int v169], h)) rfl ?_
                            obtain ⟨v170, q_v170⟩ : ∃ v, h.2.1 29 4 = v := ⟨_, rfl⟩
                            refine hk_geti (v := v170) rfl (hH.1 29 (11, 16) rfl) rfl q_v170 ?_
                            refine qm_Ru.go 0 (c' := (55, [.ref 28, .int b, .int y, .int r, .int 2, .int v169], [.int v170, .int v169], h)) rfl ?_
                            refine hk_cle (ix := v169.toInt) (iy := v170.toInt) rfl rfl rfl (fun z171 => ?_) (fun z171 => ?_)
                            · refine qm_Ru.go 4 (c' := (66, [.ref 28, .int b, .int y, .int r, .int 2, .int v169], [.int v169, .int r, .int y, .ref 28], h)) rfl ?_
                              refine hk_inv (o := 28) (r := []) (as := [.ref 28, .int y, .int r, .int v169]) rfl rfl (hH.1 28 (9, 8) rfl) rfl rfl rfl rfl (hs_borne29 h6 hH hT hB (v_C_ru hV) ⟨by show (0 : Int) ≤ y.toInt; omega, by show y.toInt ≤ (4 : Int); omega⟩ ⟨by show (0 : Int) ≤ r.toInt; omega, by show r.toInt ≤ (3 : Int); omega⟩ (qa_in_full _) (by omega) (fun v172 I173 J174 c_v172 _ e_I173 => ?_))
                              have e_I173 : I173 = h.2.1 := funext fun o => funext fun i => e_I173 o rfl i
                              subst e_I173
                              have b_v172 : (0 : Int) ≤ v172.toInt ∧ v172.toInt ≤ 1 := c_v172
                              refine qm_Ru.go 0 (c' := (69, [.ref 28, .int b, .int y, .int r, .int 2, .int v169], [.int v172], (h.1, h.2.1, J174, h.2.2.2))) rfl ?_
                              refine hk_zne (ix := v172.toInt) rfl rfl (fun z175 => ?_) (fun z175 => ?_)
                              · refine qm_Ru.go 2 (c' := (90, [.ref 28, .int b, .int y, .int r, .int 2, .int v169], [.int 2], (h.1, h.2.1, J174, h.2.2.2))) rfl ?_
                                refine qm_Ru.rt (v := (some (.int 2))) (h' := (h.1, h.2.1, J174, h.2.2.2)) rfl ?_
                                exact k1 2 J174 (t_free0 (t := 2) (by omega) (by omega) (by decide) q_v150 (by omega) (by omega)) (t_had2 (by omega) q_v8 (by omega) q_v95 (by omega) q_v100 q_v101 rfl (by omega) q_v106 (by omega) (by omega))
                              · refine qm_Ru.go 4 (c' := (77, [.ref 28, .int b, .int y, .int r, .int 2, .int v169], [.int v169, .int r, .int y, .ref 28], (h.1, h.2.1, J174, h.2.2.2))) rfl ?_
                                refine hk_inv (o := 28) (r := []) (as := [.ref 28, .int y, .int r, .int v169]) rfl rfl (hH.1 28 (9, 8) rfl) rfl rfl rfl rfl (hs_nowor29 h6 hH hT hB (v_C_ru hV) ⟨by show (0 : Int) ≤ y.toInt; omega, by show y.toInt ≤ (4 : Int); omega⟩ ⟨by show (0 : Int) ≤ r.toInt; omega, by show r.toInt ≤ (3 : Int); omega⟩ (qa_in_full _) (by omega) (fun v176 I177 J178 c_v176 _ e_I177 => ?_))
                                have e_I177 : I177 = h.2.1 := funext fun o => funext fun i => e_I177 o rfl i
                                subst e_I177
                                have b_v176 : (0 : Int) ≤ v176.toInt ∧ v176.toInt ≤ 1 := c_v176
                                refine qm_Ru.go 0 (c' := (80, [.ref 28, .int b, .int y, .int r, .int 2, .int v169], [.int v176], (h.1, h.2.1, J178, h.2.2.2))) rfl ?_
                                refine hk_zeq (ix := v176.toInt) rfl rfl (fun z179 => ?_) (fun z179 => ?_)
                                · refine qm_Ru.go 1 (c' := (90, [.ref 28, .int b, .int y, .int r, .int 2, .int v169], [.int (-3)], (h.1, h.2.1, J178, h.2.2.2))) rfl ?_
                                  refine qm_Ru.rt (v := (some (.int (-3)))) (h' := (h.1, h.2.1, J178, h.2.2.2)) rfl ?_
                                  exact k0 (-3) J178 (by decide) (by decide)
                                · refine qm_Ru.go 2 (c' := (90, [.ref 28, .int b, .int y, .int r, .int 2, .int v169], [.int 2], (h.1, h.2.1, J178, h.2.2.2))) rfl ?_
                                  refine qm_Ru.rt (v := (some (.int 2))) (h' := (h.1, h.2.1, J178, h.2.2.2)) rfl ?_
                                  exact k1 2 J178 (t_free0 (t := 2) (by omega) (by omega) (by decide) q_v150 (by omega) (by omega)) (t_had2 (by omega) q_v8 (by omega) q_v95 (by omega) q_v100 q_v101 rfl (by omega) q_v106 (by omega) (by omega))
                            · refine qm_Ru.go 1 (c' := (60, [.ref 28, .int b, .int y, .int r, .int 2, .int v169], [.int (-2)], h)) rfl ?_
                              refine qm_Ru.rt (v := (some (.int (-2)))) (h' := h) rfl ?_
                              exact k0 (-2) h.2.2.1 (by decide) (by decide)
                    · refine qm_Ru.go 2 (c' := (30, [.ref 15, .int v100], [.int (-1)], h)) rfl ?_
                      refine qm_Ru.rt (v := (some (.int (-1)))) (h' := h) rfl ?_
                      refine qm_Ru.go 1 (c' := (39, [.ref 28, .int b], [.int b, .int (-1)], h)) rfl ?_
                      refine hk_cne (ix := (-1)) (iy := b.toInt) rfl rfl rfl (fun z180 => ?_) (fun z180 => by exfalso; omega)
                      refine qm_Ru.go 1 (c' := (47, [.ref 28, .int b], [.int 0], h)) rfl ?_
                      refine qm_Ru.rt (v := (some (.int 0))) (h' := h) rfl ?_
                      refine qm_Ru.go 2 (c' := (18, [.ref 28, .int b, .int y, .int r, .float 0, .float 0], [.int (-1)], h)) rfl ?_
                      refine qm_Ru.rt (v := (some (.int (-1)))) (h' := h) rfl ?_
                      exact k0 (-1) h.2.2.1 (by decide) (by decide)
              · refine qm_Ru.go 2 (c' := (22, [.ref 6, .int b], [.int 1], h)) rfl ?_
                refine qm_Ru.rt (v := (some (.int 1))) (h' := h) rfl ?_
                refine qm_Ru.go 3 (c' := (47, [.ref 28, .int b], [.int 1], h)) rfl ?_
                refine qm_Ru.rt (v := (some (.int 1))) (h' := h) rfl ?_
                refine qm_Ru.go 4 (c' := (22, [.ref 28, .int b, .int y, .int r, .float 0, .float 0], [.int r, .int y, .ref 28], h)) rfl ?_
                refine hk_inv (o := 28) (r := []) (as := [.ref 28, .int y, .int r]) rfl rfl (hH.1 28 (9, 8) rfl) rfl rfl rfl rfl ?_
                refine qm_Ru.go 2 (c' := (2, [.ref 28, .int y, .int r, .float 0], [.int y, .ref 28], h)) rfl ?_
                refine hk_inv (o := 28) (r := []) (as := [.ref 28, .int y]) rfl rfl (hH.1 28 (9, 8) rfl) rfl rfl rfl rfl ?_
                refine qm_Ru.go 2 (c' := (2, [.ref 28, .int y], [.int y, .ref 28], h)) rfl ?_
                refine hk_inv (o := 28) (r := []) (as := [.ref 28, .int y]) rfl rfl (hH.1 28 (9, 8) rfl) rfl rfl rfl rfl ?_
                refine qm_Ru.go 1 (c' := (1, [.ref 28, .int y], [.ref 28], h)) rfl ?_
                obtain ⟨v181, q_v181⟩ : ∃ v, h.2.1 28 4 = v := ⟨_, rfl⟩
                refine hk_geti (v := v181) rfl (hH.1 28 (9, 8) rfl) rfl q_v181 ?_
                refine qm_Ru.go 2 (c' := (6, [.ref 28, .int y], [.int (v181 >>> (y &&& 31))], h)) rfl ?_
                obtain ⟨v182, q_v182⟩ : ∃ v, (v181 >>> (y &&& 31)) = v := ⟨_, rfl⟩
                rw [q_v182]
                refine qm_Ru.go 2 (c' := (8, [.ref 28, .int y], [.int (v182 &&& 1)], h)) rfl ?_
                obtain ⟨v183, q_v183⟩ : ∃ v, (v182 &&& 1) = v := ⟨_, rfl⟩
                rw [q_v183]
                refine qm_Ru.go 1 (c' := (9, [.ref 28, .int y], [.int 1, .int v183], h)) rfl ?_
                refine hk_cne (ix := v183.toInt) (iy := 1) rfl rfl rfl (fun z184 => ?_) (fun z184 => ?_)
                · refine qm_Ru.go 1 (c' := (17, [.ref 28, .int y], [.int 0], h)) rfl ?_
                  refine qm_Ru.rt (v := (some (.int 0))) (h' := h) rfl ?_
                  refine qm_Ru.go 2 (c' := (13, [.ref 28, .int y], [.int 0], h)) rfl ?_
                  refine qm_Ru.rt (v := (some (.int 0))) (h' := h) rfl ?_
                  refine qm_Ru.go 2 (c' := (7, [.ref 28, .int y, .int r, .int 0], [.ref 28], h)) rfl ?_
                  refine hk_getr rfl (hH.1 28 (9, 8) rfl) rfl (hH.2 28 3 (some 36) rfl) ?_
                  refine qm_Ru.go 3 (c' := (13, [.ref 28, .int y, .int r, .int 0], [.int 0, .int r, .int y, .ref 36], h)) rfl ?_
                  refine qm_Ru.call (j := 75) (as := [.int y, .int r, .int 0]) (c' := (16, [.ref 28, .int y, .int r, .int 0], [.ref 36], h)) rfl rfl rfl ?_
                  refine qm_Ru.go 3 (c' := (3, [.int y, .int r, .int 0], [.int (y * 4)], h)) rfl ?_
                  obtain ⟨v185, q_v185, e_v185⟩ := hk_mul (x := y) (y := 4) (a := y.toInt) (b := 4) rfl rfl (by omega) (by omega)
                  rw [q_v185]
                  refine qm_Ru.go 2 (c' := (5, [.int y, .int r, .int 0], [.int (v185 + r)], h)) rfl ?_
                  obtain ⟨v186, q_v186, e_v186⟩ := hk_add (x := v185) (y := r) (a := v185.toInt) (b := r.toInt) rfl rfl (by omega) (by omega)
                  rw [q_v186]
                  refine qm_Ru.go 2 (c' := (7, [.int y, .int r, .int 0], [.int (v186 * 4)], h)) rfl ?_
                  obtain ⟨v187, q_v187, e_v187⟩ := hk_mul (x := v186) (y := 4) (a := v186.toInt) (b := 4) rfl rfl (by omega) (by omega)
                  rw [q_v187]
                  refine qm_Ru.go 2 (c' := (9, [.int y, .int r, .int 0], [.int (v187 + 0)], h)) rfl ?_
                  obtain ⟨v188, q_v188, e_v188⟩ := hk_add (x := v187) (y := 0) (a := v187.toInt) (b := 0) rfl rfl (by omega) (by omega)
                  rw [q_v188]
                  refine qm_Ru.rt (v := (some (.int v188))) (h' := h) rfl ?_
                  refine qm_Ru.go 0 (c' := (16, [.ref 28, .int y, .int r, .int 0], [.int v188, .ref 36], h)) rfl ?_
                  obtain ⟨v189, q_v189⟩ : ∃ v, h.2.1 36 (v188.toInt.toNat) = v := ⟨_, rfl⟩
                  have b_v189 : (-1 : Int) ≤ v189.toInt ∧ v189.toInt ≤ 29 := by rw [← q_v189]; exact hB 36 (v188.toInt.toNat)
                  refine hk_ial (v := v189) rfl (hH.1 36 (0, 80) rfl) (by omega) (by omega) q_v189 ?_
                  refine qm_Ru.go 1 (c' := (18, [.ref 28, .int y, .int r, .int 0], [.int (-1), .int v189], h)) rfl ?_
                  refine hk_cne (ix := v189.toInt) (iy := (-1)) rfl rfl rfl (fun z190 => ?_) (fun z190 => ?_)
                  · refine qm_Ru.go 1 (c' := (24, [.ref 28, .int y, .int r, .int 0], [.ref 28], h)) rfl ?_
                    refine hk_getr rfl (hH.1 28 (9, 8) rfl) rfl (hH.2 28 3 (some 36) rfl) ?_
                    refine qm_Ru.go 5 (c' := (32, [.ref 28, .int y, .int r, .int 0], [.int 1, .int r, .int y, .ref 36], h)) rfl ?_
                    refine qm_Ru.call (j := 75) (as := [.int y, .int r, .int 1]) (c' := (35, [.ref 28, .int y, .int r, .int 0], [.ref 36], h)) rfl rfl rfl ?_
                    refine qm_Ru.go 3 (c' := (3, [.int y, .int r, .int 1], [.int (y * 4)], h)) rfl ?_
                    rw [q_v185]
                    refine qm_Ru.go 2 (c' := (5, [.int y, .int r, .int 1], [.int (v185 + r)], h)) rfl ?_
                    rw [q_v186]
                    refine qm_Ru.go 2 (c' := (7, [.int y, .int r, .int 1], [.int (v186 * 4)], h)) rfl ?_
                    rw [q_v187]
                    refine qm_Ru.go 2 (c' := (9, [.int y, .int r, .int 1], [.int (v187 + 1)], h)) rfl ?_
                    obtain ⟨v194, q_v194, e_v194⟩ := hk_add (x := v187) (y := 1) (a := v187.toInt) (b := 1) rfl rfl (by omega) (by omega)
                    rw [q_v194]
                    refine qm_Ru.rt (v := (some (.int v194))) (h' := h) rfl ?_
                    refine qm_Ru.go 0 (c' := (35, [.ref 28, .int y, .int r, .int 0], [.int v194, .ref 36], h)) rfl ?_
                    obtain ⟨v195, q_v195⟩ : ∃ v, h.2.1 36 (v194.toInt.toNat) = v := ⟨_, rfl⟩
                    have b_v195 : (-1 : Int) ≤ v195.toInt ∧ v195.toInt ≤ 29 := by rw [← q_v195]; exact hB 36 (v194.toInt.toNat)
                    refine hk_ial (v := v195) rfl (hH.1 36 (0, 80) rfl) (by omega) (by omega) q_v195 ?_
                    refine qm_Ru.go 1 (c' := (37, [.ref 28, .int y, .int r, .int 0], [.int (-1), .int v195], h)) rfl ?_
                    refine hk_cne (ix := v195.toInt) (iy := (-1)) rfl rfl rfl (fun z196 => ?_) (fun z196 => ?_)
                    · refine qm_Ru.go 1 (c' := (47, [.ref 28, .int y, .int r, .int 0], [.int (-1)], h)) rfl ?_
                      refine qm_Ru.rt (v := (some (.int (-1)))) (h' := h) rfl ?_
                      refine qm_Ru.go 5 (c' := (34, [.ref 28, .int b, .int y, .int r, .int (-1), .float 0], [.int (-1)], h)) rfl ?_
                      refine qm_Ru.rt (v := (some (.int (-1)))) (h' := h) rfl ?_
                      exact k0 (-1) h.2.2.1 (by decide) (by decide)
                    · refine qm_Ru.go 4 (c' := (47, [.ref 28, .int y, .int r, .int 0], [.int 1], h)) rfl ?_
                      refine qm_Ru.rt (v := (some (.int 1))) (h' := h) rfl ?_
                      refine qm_Ru.go 5 (c' := (36, [.ref 28, .int b, .int y, .int r, .int 1, .float 0], [.ref 28], h)) rfl ?_
                      refine hk_getr rfl (hH.1 28 (9, 8) rfl) rfl (hH.2 28 0 (some 6) rfl) ?_
                      refine qm_Ru.go 0 (c' := (39, [.ref 28, .int b, .int y, .int r, .int 1, .float 0], [.ref 6], h)) rfl ?_
                      refine hk_getr rfl (hH.1 6 (6, 9) rfl) rfl (hH.2 6 1 (some 7) rfl) ?_
                      refine qm_Ru.go 1 (c' := (43, [.ref 28, .int b, .int y, .int r, .int 1, .float 0], [.int b, .ref 7], h)) rfl ?_
                      obtain ⟨v197, q_v197⟩ : ∃ v, h.2.1 7 (b.toInt.toNat) = v := ⟨_, rfl⟩
                      have b_v197 : (0 : Int) ≤ v197.toInt ∧ v197.toInt ≤ 40 := by rw [← q_v197]; exact hB 7 (b.toInt.toNat)
                      refine hk_ial (v := v197) rfl (hH.1 7 (0, 30) rfl) (by omega) (by omega) q_v197 ?_
                      refine qm_Ru.go 3 (c' := (49, [.ref 28, .int b, .int y, .int r, .int 1, .int v197], [.ref 28, .int v197], h)) rfl ?_
                      refine hk_getr rfl (hH.1 28 (9, 8) rfl) rfl hT.2 ?_
                      refine qm_Ru.go 0 (c' := (52, [.ref 28, .int b, .int y, .int r, .int 1, .int v197], [.ref 29, .int v197], h)) rfl ?_
                      obtain ⟨v198, q_v198⟩ : ∃ v, h.2.1 29 4 = v := ⟨_, rfl⟩
                      refine hk_geti (v := v198) rfl (hH.1 29 (11, 16) rfl) rfl q_v198 ?_
                      refine qm_Ru.go 0 (c' := (55, [.ref 28, .int b, .int y, .int r, .int 1, .int v197], [.int v198, .int v197], h)) rfl ?_
                      refine hk_cle (ix := v197.toInt) (iy := v198.toInt) rfl rfl rfl (fun z199 => ?_) (fun z199 => ?_)
                      · refine qm_Ru.go 4 (c' := (66, [.ref 28, .int b, .int y, .int r, .int 1, .int v197], [.int v197, .int r, .int y, .ref 28], h)) rfl ?_
                        refine hk_inv (o := 28) (r := []) (as := [.ref 28, .int y, .int r, .int v197]) rfl rfl (hH.1 28 (9, 8) rfl) rfl rfl rfl rfl (hs_borne29 h6 hH hT hB (v_C_ru hV) ⟨by show (0 : Int) ≤ y.toInt; omega, by show y.toInt ≤ (4 : Int); omega⟩ ⟨by show (0 : Int) ≤ r.toInt; omega, by show r.toInt ≤ (3 : Int); omega⟩ (qa_in_full _) (by omega) (fun v200 I201 J202 c_v200 _ e_I201 => ?_))
                        have e_I201 : I201 = h.2.1 := funext fun o => funext fun i => e_I201 o rfl i
                        subst e_I201
                        have b_v200 : (0 : Int) ≤ v200.toInt ∧ v200.toInt ≤ 1 := c_v200
                        refine qm_Ru.go 0 (c' := (69, [.ref 28, .int b, .int y, .int r, .int 1, .int v197], [.int v200], (h.1, h.2.1, J202, h.2.2.2))) rfl ?_
                        refine hk_zne (ix := v200.toInt) rfl rfl (fun z203 => ?_) (fun z203 => ?_)
                        · refine qm_Ru.go 2 (c' := (90, [.ref 28, .int b, .int y, .int r, .int 1, .int v197], [.int 1], (h.1, h.2.1, J202, h.2.2.2))) rfl ?_
                          refine qm_Ru.rt (v := (some (.int 1))) (h' := (h.1, h.2.1, J202, h.2.2.2)) rfl ?_
                          exact k1 1 J202 (t_free1 (t := 1) (by omega) (by omega) (by decide) q_v195 (by omega) (by omega) q_v189 (by omega) (by omega)) (t_had0 (by omega) q_v8 (by omega) q_v95 (by omega))
                        · refine qm_Ru.go 4 (c' := (77, [.ref 28, .int b, .int y, .int r, .int 1, .int v197], [.int v197, .int r, .int y, .ref 28], (h.1, h.2.1, J202, h.2.2.2))) rfl ?_
                          refine hk_inv (o := 28) (r := []) (as := [.ref 28, .int y, .int r, .int v197]) rfl rfl (hH.1 28 (9, 8) rfl) rfl rfl rfl rfl (hs_nowor29 h6 hH hT hB (v_C_ru hV) ⟨by show (0 : Int) ≤ y.toInt; omega, by show y.toInt ≤ (4 : Int); omega⟩ ⟨by show (0 : Int) ≤ r.toInt; omega, by show r.toInt ≤ (3 : Int); omega⟩ (qa_in_full _) (by omega) (fun v204 I205 J206 c_v204 _ e_I205 => ?_))
                          have e_I205 : I205 = h.2.1 := funext fun o => funext fun i => e_I205 o rfl i
                          subst e_I205
                          have b_v204 : (0 : Int) ≤ v204.toInt ∧ v204.toInt ≤ 1 := c_v204
                          refine qm_Ru.go 0 (c' := (80, [.ref 28, .int b, .int y, .int r, .int 1, .int v197], [.int v204], (h.1, h.2.1, J206, h.2.2.2))) rfl ?_
                          refine hk_zeq (ix := v204.toInt) rfl rfl (fun z207 => ?_) (fun z207 => ?_)
                          · refine qm_Ru.go 1 (c' := (90, [.ref 28, .int b, .int y, .int r, .int 1, .int v197], [.int (-3)], (h.1, h.2.1, J206, h.2.2.2))) rfl ?_
                            refine qm_Ru.rt (v := (some (.int (-3)))) (h' := (h.1, h.2.1, J206, h.2.2.2)) rfl ?_
                            exact k0 (-3) J206 (by decide) (by decide)
                          · refine qm_Ru.go 2 (c' := (90, [.ref 28, .int b, .int y, .int r, .int 1, .int v197], [.int 1], (h.1, h.2.1, J206, h.2.2.2))) rfl ?_
                            refine qm_Ru.rt (v := (some (.int 1))) (h' := (h.1, h.2.1, J206, h.2.2.2)) rfl ?_
                            exact k1 1 J206 (t_free1 (t := 1) (by omega) (by omega) (by decide) q_v195 (by omega) (by omega) q_v189 (by omega) (by omega)) (t_had0 (by omega) q_v8 (by omega) q_v95 (by omega))
                      · refine qm_Ru.go 1 (c' := (60, [.ref 28, .int b, .int y, .int r, .int 1, .int v197], [.int (-2)], h)) rfl ?_
                        refine qm_Ru.rt (v := (some (.int (-2)))) (h' := h) rfl ?_
                        exact k0 (-2) h.2.2.1 (by decide) (by decide)
                  · refine qm_Ru.go 1 (c' := (22, [.ref 28, .int y, .int r, .int 0], [.int 0], h)) rfl ?_
                    refine qm_Ru.rt (v := (some (.int 0))) (h' := h) rfl ?_
                    refine qm_Ru.go 5 (c' := (36, [.ref 28, .int b, .int y, .int r, .int 0, .float 0], [.ref 28], h)) rfl ?_
                    refine hk_getr rfl (hH.1 28 (9, 8) rfl) rfl (hH.2 28 0 (some 6) rfl) ?_
                    refine qm_Ru.go 0 (c' := (39, [.ref 28, .int b, .int y, .int r, .int 0, .float 0], [.ref 6], h)) rfl ?_
                    refine hk_getr rfl (hH.1 6 (6, 9) rfl) rfl (hH.2 6 1 (some 7) rfl) ?_
                    refine qm_Ru.go 1 (c' := (43, [.ref 28, .int b, .int y, .int r, .int 0, .float 0], [.int b, .ref 7], h)) rfl ?_
                    obtain ⟨v208, q_v208⟩ : ∃ v, h.2.1 7 (b.toInt.toNat) = v := ⟨_, rfl⟩
                    have b_v208 : (0 : Int) ≤ v208.toInt ∧ v208.toInt ≤ 40 := by rw [← q_v208]; exact hB 7 (b.toInt.toNat)
                    refine hk_ial (v := v208) rfl (hH.1 7 (0, 30) rfl) (by omega) (by omega) q_v208 ?_
                    refine qm_Ru.go 3 (c' := (49, [.ref 28, .int b, .int y, .int r, .int 0, .int v208], [.ref 28, .int v208], h)) rfl ?_
                    refine hk_getr rfl (hH.1 28 (9, 8) rfl) rfl hT.2 ?_
                    refine qm_Ru.go 0 (c' := (52, [.ref 28, .int b, .int y, .int r, .int 0, .int v208], [.ref 29, .int v208], h)) rfl ?_
                    obtain ⟨v209, q_v209⟩ : ∃ v, h.2.1 29 4 = v := ⟨_, rfl⟩
                    refine hk_geti (v := v209) rfl (hH.1 29 (11, 16) rfl) rfl q_v209 ?_
                    refine qm_Ru.go 0 (c' := (55, [.ref 28, .int b, .int y, .int r, .int 0, .int v208], [.int v209, .int v208], h)) rfl ?_
                    refine hk_cle (ix := v208.toInt) (iy := v209.toInt) rfl rfl rfl (fun z210 => ?_) (fun z210 => ?_)
                    · refine qm_Ru.go 4 (c' := (66, [.ref 28, .int b, .int y, .int r, .int 0, .int v208], [.int v208, .int r, .int y, .ref 28], h)) rfl ?_
                      refine hk_inv (o := 28) (r := []) (as := [.ref 28, .int y, .int r, .int v208]) rfl rfl (hH.1 28 (9, 8) rfl) rfl rfl rfl rfl (hs_borne29 h6 hH hT hB (v_C_ru hV) ⟨by show (0 : Int) ≤ y.toInt; omega, by show y.toInt ≤ (4 : Int); omega⟩ ⟨by show (0 : Int) ≤ r.toInt; omega, by show r.toInt ≤ (3 : Int); omega⟩ (qa_in_full _) (by omega) (fun v211 I212 J213 c_v211 _ e_I212 => ?_))
                      have e_I212 : I212 = h.2.1 := funext fun o => funext fun i => e_I212 o rfl i
                      subst e_I212
                      have b_v211 : (0 : Int) ≤ v211.toInt ∧ v211.toInt ≤ 1 := c_v211
                      refine qm_Ru.go 0 (c' := (69, [.ref 28, .int b, .int y, .int r, .int 0, .int v208], [.int v211], (h.1, h.2.1, J213, h.2.2.2))) rfl ?_
                      refine hk_zne (ix := v211.toInt) rfl rfl (fun z214 => ?_) (fun z214 => ?_)
                      · refine qm_Ru.go 2 (c' := (90, [.ref 28, .int b, .int y, .int r, .int 0, .int v208], [.int 0], (h.1, h.2.1, J213, h.2.2.2))) rfl ?_
                        refine qm_Ru.rt (v := (some (.int 0))) (h' := (h.1, h.2.1, J213, h.2.2.2)) rfl ?_
                        exact k1 0 J213 (t_free0 (t := 0) (by omega) (by omega) (by decide) q_v189 (by omega) (by omega)) (t_had0 (by omega) q_v8 (by omega) q_v95 (by omega))
                      · refine qm_Ru.go 4 (c' := (77, [.ref 28, .int b, .int y, .int r, .int 0, .int v208], [.int v208, .int r, .int y, .ref 28], (h.1, h.2.1, J213, h.2.2.2))) rfl ?_
                        refine hk_inv (o := 28) (r := []) (as := [.ref 28, .int y, .int r, .int v208]) rfl rfl (hH.1 28 (9, 8) rfl) rfl rfl rfl rfl (hs_nowor29 h6 hH hT hB (v_C_ru hV) ⟨by show (0 : Int) ≤ y.toInt; omega, by show y.toInt ≤ (4 : Int); omega⟩ ⟨by show (0 : Int) ≤ r.toInt; omega, by show r.toInt ≤ (3 : Int); omega⟩ (qa_in_full _) (by omega) (fun v215 I216 J217 c_v215 _ e_I216 => ?_))
                        have e_I216 : I216 = h.2.1 := funext fun o => funext fun i => e_I216 o rfl i
                        subst e_I216
                        have b_v215 : (0 : Int) ≤ v215.toInt ∧ v215.toInt ≤ 1 := c_v215
                        refine qm_Ru.go 0 (c' := (80, [.ref 28, .int b, .int y, .int r, .int 0, .int v208], [.int v215], (h.1, h.2.1, J217, h.2.2.2))) rfl ?_
                        refine hk_zeq (ix := v215.toInt) rfl rfl (fun z218 => ?_) (fun z218 => ?_)
                        · refine qm_Ru.go 1 (c' := (90, [.ref 28, .int b, .int y, .int r, .int 0, .int v208], [.int (-3)], (h.1, h.2.1, J217, h.2.2.2))) rfl ?_
                          refine qm_Ru.rt (v := (some (.int (-3)))) (h' := (h.1, h.2.1, J217, h.2.2.2)) rfl ?_
                          exact k0 (-3) J217 (by decide) (by decide)
                        · refine qm_Ru.go 2 (c' := (90, [.ref 28, .int b, .int y, .int r, .int 0, .int v208], [.int 0], (h.1, h.2.1, J217, h.2.2.2))) rfl ?_
                          refine qm_Ru.rt (v := (some (.int 0))) (h' := (h.1, h.2.1, J217, h.2.2.2)) rfl ?_
                          exact k1 0 J217 (t_free0 (t := 0) (by omega) (by omega) (by decide) q_v189 (by omega) (by omega)) (t_had0 (by omega) q_v8 (by omega) q_v95 (by omega))
                    · refine qm_Ru.go 1 (c' := (60, [.ref 28, .int b, .int y, .int r, .int 0, .int v208], [.int (-2)], h)) rfl ?_
                      refine qm_Ru.rt (v := (some (.int (-2)))) (h' := h) rfl ?_
                      exact k0 (-2) h.2.2.1 (by decide) (by decide)
                · refine qm_Ru.go 2 (c' := (17, [.ref 28, .int y], [.int 1], h)) rfl ?_
                  refine qm_Ru.rt (v := (some (.int 1))) (h' := h) rfl ?_
                  refine qm_Ru.go 3 (c' := (13, [.ref 28, .int y], [.int 2], h)) rfl ?_
                  refine qm_Ru.rt (v := (some (.int 2))) (h' := h) rfl ?_
                  refine qm_Ru.go 2 (c' := (7, [.ref 28, .int y, .int r, .int 2], [.ref 28], h)) rfl ?_
                  refine hk_getr rfl (hH.1 28 (9, 8) rfl) rfl (hH.2 28 3 (some 36) rfl) ?_
                  refine qm_Ru.go 3 (c' := (13, [.ref 28, .int y, .int r, .int 2], [.int 2, .int r, .int y, .ref 36], h)) rfl ?_
                  refine qm_Ru.call (j := 75) (as := [.int y, .int r, .int 2]) (c' := (16, [.ref 28, .int y, .int r, .int 2], [.ref 36], h)) rfl rfl rfl ?_
                  refine qm_Ru.go 3 (c' := (3, [.int y, .int r, .int 2], [.int (y * 4)], h)) rfl ?_
                  obtain ⟨v219, q_v219, e_v219⟩ := hk_mul (x := y) (y := 4) (a := y.toInt) (b := 4) rfl rfl (by omega) (by omega)
                  rw [q_v219]
                  refine qm_Ru.go 2 (c' := (5, [.int y, .int r, .int 2], [.int (v219 + r)], h)) rfl ?_
                  obtain ⟨v220, q_v220, e_v220⟩ := hk_add (x := v219) (y := r) (a := v219.toInt) (b := r.toInt) rfl rfl (by omega) (by omega)
                  rw [q_v220]
                  refine qm_Ru.go 2 (c' := (7, [.int y, .int r, .int 2], [.int (v220 * 4)], h)) rfl ?_
                  obtain ⟨v221, q_v221, e_v221⟩ := hk_mul (x := v220) (y := 4) (a := v220.toInt) (b := 4) rfl rfl (by omega) (by omega)
                  rw [q_v221]
                  refine qm_Ru.go 2 (c' := (9, [.int y, .int r, .int 2], [.int (v221 + 2)], h)) rfl ?_
                  obtain ⟨v222, q_v222, e_v222⟩ := hk_add (x := v221) (y := 2) (a := v221.toInt) (b := 2) rfl rfl (by omega) (by omega)
                  rw [q_v222]
                  refine qm_Ru.rt (v := (some (.int v222))) (h' := h) rfl ?_
                  refine qm_Ru.go 0 (c' := (16, [.ref 28, .int y, .int r, .int 2], [.int v222, .ref 36], h)) rfl ?_
                  obtain ⟨v223, q_v223⟩ : ∃ v, h.2.1 36 (v222.toInt.toNat) = v := ⟨_, rfl⟩
                  have b_v223 : (-1 : Int) ≤ v223.toInt ∧ v223.toInt ≤ 29 := by rw [← q_v223]; exact hB 36 (v222.toInt.toNat)
                  refine hk_ial (v := v223) rfl (hH.1 36 (0, 80) rfl) (by omega) (by omega) q_v223 ?_
                  refine qm_Ru.go 1 (c' := (18, [.ref 28, .int y, .int r, .int 2], [.int (-1), .int v223], h)) rfl ?_
                  refine hk_cne (ix := v223.toInt) (iy := (-1)) rfl rfl rfl (fun z224 => ?_) (fun z224 => ?_)
                  · refine qm_Ru.go 1 (c' := (24, [.ref 28, .int y, .int r, .int 2], [.ref 28], h)) rfl ?_
                    refine hk_getr rfl (hH.1 28 (9, 8) rfl) rfl (hH.2 28 3 (some 36) rfl) ?_
                    refine qm_Ru.go 5 (c' := (32, [.ref 28, .int y, .int r, .int 2], [.int 3, .int r, .int y, .ref 36], h)) rfl ?_
                    refine qm_Ru.call (j := 75) (as := [.int y, .int r, .int 3]) (c' := (35, [.ref 28, .int y, .int r, .int 2], [.ref 36], h)) rfl rfl rfl ?_
                    refine qm_Ru.go 3 (c' := (3, [.int y, .int r, .int 3], [.int (y * 4)], h)) rfl ?_
                    rw [q_v219]
                    refine qm_Ru.go 2 (c' := (5, [.int y, .int r, .int 3], [.int (v219 + r)], h)) rfl ?_
                    rw [q_v220]
                    refine qm_Ru.go 2 (c' := (7, [.int y, .int r, .int 3], [.int (v220 * 4)], h)) rfl ?_
                    rw [q_v221]
                    refine qm_Ru.go 2 (c' := (9, [.int y, .int r, .int 3], [.int (v221 + 3)], h)) rfl ?_
                    obtain ⟨v228, q_v228, e_v228⟩ := hk_add (x := v221) (y := 3) (a := v221.toInt) (b := 3) rfl rfl (by omega) (by omega)
                    rw [q_v228]
                    refine qm_Ru.rt (v := (some (.int v228))) (h' := h) rfl ?_
                    refine qm_Ru.go 0 (c' := (35, [.ref 28, .int y, .int r, .int 2], [.int v228, .ref 36], h)) rfl ?_
                    obtain ⟨v229, q_v229⟩ : ∃ v, h.2.1 36 (v228.toInt.toNat) = v := ⟨_, rfl⟩
                    have b_v229 : (-1 : Int) ≤ v229.toInt ∧ v229.toInt ≤ 29 := by rw [← q_v229]; exact hB 36 (v228.toInt.toNat)
                    refine hk_ial (v := v229) rfl (hH.1 36 (0, 80) rfl) (by omega) (by omega) q_v229 ?_
                    refine qm_Ru.go 1 (c' := (37, [.ref 28, .int y, .int r, .int 2], [.int (-1), .int v229], h)) rfl ?_
                    refine hk_cne (ix := v229.toInt) (iy := (-1)) rfl rfl rfl (fun z230 => ?_) (fun z230 => ?_)
                    · refine qm_Ru.go 1 (c' := (47, [.ref 28, .int y, .int r, .int 2], [.int (-1)], h)) rfl ?_
                      refine qm_Ru.rt (v := (some (.int (-1)))) (h' := h) rfl ?_
                      refine qm_Ru.go 5 (c' := (34, [.ref 28, .int b, .int y, .int r, .int (-1), .float 0], [.int (-1)], h)) rfl ?_
                      refine qm_Ru.rt (v := (some (.int (-1)))) (h' := h) rfl ?_
                      exact k0 (-1) h.2.2.1 (by decide) (by decide)
                    · refine qm_Ru.go 4 (c' := (47, [.ref 28, .int y, .int r, .int 2], [.int 3], h)) rfl ?_
                      refine qm_Ru.rt (v := (some (.int 3))) (h' := h) rfl ?_
                      refine qm_Ru.go 5 (c' := (36, [.ref 28, .int b, .int y, .int r, .int 3, .float 0], [.ref 28], h)) rfl ?_
                      refine hk_getr rfl (hH.1 28 (9, 8) rfl) rfl (hH.2 28 0 (some 6) rfl) ?_
                      refine qm_Ru.go 0 (c' := (39, [.ref 28, .int b, .int y, .int r, .int 3, .float 0], [.ref 6], h)) rfl ?_
                      refine hk_getr rfl (hH.1 6 (6, 9) rfl) rfl (hH.2 6 1 (some 7) rfl) ?_
                      refine qm_Ru.go 1 (c' := (43, [.ref 28, .int b, .int y, .int r, .int 3, .float 0], [.int b, .ref 7], h)) rfl ?_
                      obtain ⟨v231, q_v231⟩ : ∃ v, h.2.1 7 (b.toInt.toNat) = v := ⟨_, rfl⟩
                      have b_v231 : (0 : Int) ≤ v231.toInt ∧ v231.toInt ≤ 40 := by rw [← q_v231]; exact hB 7 (b.toInt.toNat)
                      refine hk_ial (v := v231) rfl (hH.1 7 (0, 30) rfl) (by omega) (by omega) q_v231 ?_
                      refine qm_Ru.go 3 (c' := (49, [.ref 28, .int b, .int y, .int r, .int 3, .int v231], [.ref 28, .int v231], h)) rfl ?_
                      refine hk_getr rfl (hH.1 28 (9, 8) rfl) rfl hT.2 ?_
                      refine qm_Ru.go 0 (c' := (52, [.ref 28, .int b, .int y, .int r, .int 3, .int v231], [.ref 29, .int v231], h)) rfl ?_
                      obtain ⟨v232, q_v232⟩ : ∃ v, h.2.1 29 4 = v := ⟨_, rfl⟩
                      refine hk_geti (v := v232) rfl (hH.1 29 (11, 16) rfl) rfl q_v232 ?_
                      refine qm_Ru.go 0 (c' := (55, [.ref 28, .int b, .int y, .int r, .int 3, .int v231], [.int v232, .int v231], h)) rfl ?_
                      refine hk_cle (ix := v231.toInt) (iy := v232.toInt) rfl rfl rfl (fun z233 => ?_) (fun z233 => ?_)
                      · refine qm_Ru.go 4 (c' := (66, [.ref 28, .int b, .int y, .int r, .int 3, .int v231], [.int v231, .int r, .int y, .ref 28], h)) rfl ?_
                        refine hk_inv (o := 28) (r := []) (as := [.ref 28, .int y, .int r, .int v231]) rfl rfl (hH.1 28 (9, 8) rfl) rfl rfl rfl rfl (hs_borne29 h6 hH hT hB (v_C_ru hV) ⟨by show (0 : Int) ≤ y.toInt; omega, by show y.toInt ≤ (4 : Int); omega⟩ ⟨by show (0 : Int) ≤ r.toInt; omega, by show r.toInt ≤ (3 : Int); omega⟩ (qa_in_full _) (by omega) (fun v234 I235 J236 c_v234 _ e_I235 => ?_))
                        have e_I235 : I235 = h.2.1 := funext fun o => funext fun i => e_I235 o rfl i
                        subst e_I235
                        have b_v234 : (0 : Int) ≤ v234.toInt ∧ v234.toInt ≤ 1 := c_v234
                        refine qm_Ru.go 0 (c' := (69, [.ref 28, .int b, .int y, .int r, .int 3, .int v231], [.int v234], (h.1, h.2.1, J236, h.2.2.2))) rfl ?_
                        refine hk_zne (ix := v234.toInt) rfl rfl (fun z237 => ?_) (fun z237 => ?_)
                        · refine qm_Ru.go 2 (c' := (90, [.ref 28, .int b, .int y, .int r, .int 3, .int v231], [.int 3], (h.1, h.2.1, J236, h.2.2.2))) rfl ?_
                          refine qm_Ru.rt (v := (some (.int 3))) (h' := (h.1, h.2.1, J236, h.2.2.2)) rfl ?_
                          exact k1 3 J236 (t_free1 (t := 3) (by omega) (by omega) (by decide) q_v229 (by omega) (by omega) q_v223 (by omega) (by omega)) (t_had0 (by omega) q_v8 (by omega) q_v95 (by omega))
                        · refine qm_Ru.go 4 (c' := (77, [.ref 28, .int b, .int y, .int r, .int 3, .int v231], [.int v231, .int r, .int y, .ref 28], (h.1, h.2.1, J236, h.2.2.2))) rfl ?_
                          refine hk_inv (o := 28) (r := []) (as := [.ref 28, .int y, .int r, .int v231]) rfl rfl (hH.1 28 (9, 8) rfl) rfl rfl rfl rfl (hs_nowor29 h6 hH hT hB (v_C_ru hV) ⟨by show (0 : Int) ≤ y.toInt; omega, by show y.toInt ≤ (4 : Int); omega⟩ ⟨by show (0 : Int) ≤ r.toInt; omega, by show r.toInt ≤ (3 : Int); omega⟩ (qa_in_full _) (by omega) (fun v238 I239 J240 c_v238 _ e_I239 => ?_))
                          have e_I239 : I239 = h.2.1 := funext fun o => funext fun i => e_I239 o rfl i
                          subst e_I239
                          have b_v238 : (0 : Int) ≤ v238.toInt ∧ v238.toInt ≤ 1 := c_v238
                          refine qm_Ru.go 0 (c' := (80, [.ref 28, .int b, .int y, .int r, .int 3, .int v231], [.int v238], (h.1, h.2.1, J240, h.2.2.2))) rfl ?_
                          refine hk_zeq (ix := v238.toInt) rfl rfl (fun z241 => ?_) (fun z241 => ?_)
                          · refine qm_Ru.go 1 (c' := (90, [.ref 28, .int b, .int y, .int r, .int 3, .int v231], [.int (-3)], (h.1, h.2.1, J240, h.2.2.2))) rfl ?_
                            refine qm_Ru.rt (v := (some (.int (-3)))) (h' := (h.1, h.2.1, J240, h.2.2.2)) rfl ?_
                            exact k0 (-3) J240 (by decide) (by decide)
                          · refine qm_Ru.go 2 (c' := (90, [.ref 28, .int b, .int y, .int r, .int 3, .int v231], [.int 3], (h.1, h.2.1, J240, h.2.2.2))) rfl ?_
                            refine qm_Ru.rt (v := (some (.int 3))) (h' := (h.1, h.2.1, J240, h.2.2.2)) rfl ?_
                            exact k1 3 J240 (t_free1 (t := 3) (by omega) (by omega) (by decide) q_v229 (by omega) (by omega) q_v223 (by omega) (by omega)) (t_had0 (by omega) q_v8 (by omega) q_v95 (by omega))
                      · refine qm_Ru.go 1 (c' := (60, [.ref 28, .int b, .int y, .int r, .int 3, .int v231], [.int (-2)], h)) rfl ?_
                        refine qm_Ru.rt (v := (some (.int (-2)))) (h' := h) rfl ?_
                        exact k0 (-2) h.2.2.1 (by decide) (by decide)
                  · refine qm_Ru.go 1 (c' := (22, [.ref 28, .int y, .int r, .int 2], [.int 2], h)) rfl ?_
                    refine qm_Ru.rt (v := (some (.int 2))) (h' := h) rfl ?_
                    refine qm_Ru.go 5 (c' := (36, [.ref 28, .int b, .int y, .int r, .int 2, .float 0], [.ref 28], h)) rfl ?_
                    refine hk_getr rfl (hH.1 28 (9, 8) rfl) rfl (hH.2 28 0 (some 6) rfl) ?_
                    refine qm_Ru.go 0 (c' := (39, [.ref 28, .int b, .int y, .int r, .int 2, .float 0], [.ref 6], h)) rfl ?_
                    refine hk_getr rfl (hH.1 6 (6, 9) rfl) rfl (hH.2 6 1 (some 7) rfl) ?_
                    refine qm_Ru.go 1 (c' := (43, [.ref 28, .int b, .int y, .int r, .int 2, .float 0], [.int b, .ref 7], h)) rfl ?_
                    obtain ⟨v242, q_v242⟩ : ∃ v, h.2.1 7 (b.toInt.toNat) = v := ⟨_, rfl⟩
                    have b_v242 : (0 : Int) ≤ v242.toInt ∧ v242.toInt ≤ 40 := by rw [← q_v242]; exact hB 7 (b.toInt.toNat)
                    refine hk_ial (v := v242) rfl (hH.1 7 (0, 30) rfl) (by omega) (by omega) q_v242 ?_
                    refine qm_Ru.go 3 (c' := (49, [.ref 28, .int b, .int y, .int r, .int 2, .int v242], [.ref 28, .int v242], h)) rfl ?_
                    refine hk_getr rfl (hH.1 28 (9, 8) rfl) rfl hT.2 ?_
                    refine qm_Ru.go 0 (c' := (52, [.ref 28, .int b, .int y, .int r, .int 2, .int v242], [.ref 29, .int v242], h)) rfl ?_
                    obtain ⟨v243, q_v243⟩ : ∃ v, h.2.1 29 4 = v := ⟨_, rfl⟩
                    refine hk_geti (v := v243) rfl (hH.1 29 (11, 16) rfl) rfl q_v243 ?_
                    refine qm_Ru.go 0 (c' := (55, [.ref 28, .int b, .int y, .int r, .int 2, .int v242], [.int v243, .int v242], h)) rfl ?_
                    refine hk_cle (ix := v242.toInt) (iy := v243.toInt) rfl rfl rfl (fun z244 => ?_) (fun z244 => ?_)
                    · refine qm_Ru.go 4 (c' := (66, [.ref 28, .int b, .int y, .int r, .int 2, .int v242], [.int v242, .int r, .int y, .ref 28], h)) rfl ?_
                      refine hk_inv (o := 28) (r := []) (as := [.ref 28, .int y, .int r, .int v242]) rfl rfl (hH.1 28 (9, 8) rfl) rfl rfl rfl rfl (hs_borne29 h6 hH hT hB (v_C_ru hV) ⟨by show (0 : Int) ≤ y.toInt; omega, by show y.toInt ≤ (4 : Int); omega⟩ ⟨by show (0 : Int) ≤ r.toInt; omega, by show r.toInt ≤ (3 : Int); omega⟩ (qa_in_full _) (by omega) (fun v245 I246 J247 c_v245 _ e_I246 => ?_))
                      have e_I246 : I246 = h.2.1 := funext fun o => funext fun i => e_I246 o rfl i
                      subst e_I246
                      have b_v245 : (0 : Int) ≤ v245.toInt ∧ v245.toInt ≤ 1 := c_v245
                      refine qm_Ru.go 0 (c' := (69, [.ref 28, .int b, .int y, .int r, .int 2, .int v242], [.int v245], (h.1, h.2.1, J247, h.2.2.2))) rfl ?_
                      refine hk_zne (ix := v245.toInt) rfl rfl (fun z248 => ?_) (fun z248 => ?_)
                      · refine qm_Ru.go 2 (c' := (90, [.ref 28, .int b, .int y, .int r, .int 2, .int v242], [.int 2], (h.1, h.2.1, J247, h.2.2.2))) rfl ?_
                        refine qm_Ru.rt (v := (some (.int 2))) (h' := (h.1, h.2.1, J247, h.2.2.2)) rfl ?_
                        exact k1 2 J247 (t_free0 (t := 2) (by omega) (by omega) (by decide) q_v223 (by omega) (by omega)) (t_had0 (by omega) q_v8 (by omega) q_v95 (by omega))
                      · refine qm_Ru.go 4 (c' := (77, [.ref 28, .int b, .int y, .int r, .int 2, .int v242], [.int v242, .int r, .int y, .ref 28], (h.1, h.2.1, J247, h.2.2.2))) rfl ?_
                        refine hk_inv (o := 28) (r := []) (as := [.ref 28, .int y, .int r, .int v242]) rfl rfl (hH.1 28 (9, 8) rfl) rfl rfl rfl rfl (hs_nowor29 h6 hH hT hB (v_C_ru hV) ⟨by show (0 : Int) ≤ y.toInt; omega, by show y.toInt ≤ (4 : Int); omega⟩ ⟨by show (0 : Int) ≤ r.toInt; omega, by show r.toInt ≤ (3 : Int); omega⟩ (qa_in_full _) (by omega) (fun v249 I250 J251 c_v249 _ e_I250 => ?_))
                        have e_I250 : I250 = h.2.1 := funext fun o => funext fun i => e_I250 o rfl i
                        subst e_I250
                        have b_v249 : (0 : Int) ≤ v249.toInt ∧ v249.toInt ≤ 1 := c_v249
                        refine qm_Ru.go 0 (c' := (80, [.ref 28, .int b, .int y, .int r, .int 2, .int v242], [.int v249], (h.1, h.2.1, J251, h.2.2.2))) rfl ?_
                        refine hk_zeq (ix := v249.toInt) rfl rfl (fun z252 => ?_) (fun z252 => ?_)
                        · refine qm_Ru.go 1 (c' := (90, [.ref 28, .int b, .int y, .int r, .int 2, .int v242], [.int (-3)], (h.1, h.2.1, J251, h.2.2.2))) rfl ?_
                          refine qm_Ru.rt (v := (some (.int (-3)))) (h' := (h.1, h.2.1, J251, h.2.2.2)) rfl ?_
                          exact k0 (-3) J251 (by decide) (by decide)
                        · refine qm_Ru.go 2 (c' := (90, [.ref 28, .int b, .int y, .int r, .int 2, .int v242], [.int 2], (h.1, h.2.1, J251, h.2.2.2))) rfl ?_
                          refine qm_Ru.rt (v := (some (.int 2))) (h' := (h.1, h.2.1, J251, h.2.2.2)) rfl ?_
                          exact k1 2 J251 (t_free0 (t := 2) (by omega) (by omega) (by decide) q_v223 (by omega) (by omega)) (t_had0 (by omega) q_v8 (by omega) q_v95 (by omega))
                    · refine qm_Ru.go 1 (c' := (60, [.ref 28, .int b, .int y, .int r, .int 2, .int v242], [.int (-2)], h)) rfl ?_
                      refine qm_Ru.rt (v := (some (.int (-2)))) (h' := h) rfl ?_
                      exact k0 (-2) h.2.2.1 (by decide) (by decide)
theorem hq_try111 {L : Nat} {xs : Nat → Int32} {d : Nat} {Z : Option Value → qm_H → Prop} {h : qm_H} (h6 : 6 ≤ L) (hH : hk_H h) (hT : h.2.2.2 0 9 = some 29 ∧ h.2.2.2 28 2 = some 111) (hB : hk_B h.2.1) (hV : v_C h.2.1) {b y r : Int32} (k0 : ∀ (v : Int32) (J : Nat → Nat → Int64), -3 ≤ v.toInt → v.toInt ≤ -1 → Z (some (.int v)) (h.1, h.2.1, J, h.2.2.2)) (k1 : ∀ (t : Int32) (J : Nat → Nat → Int64), t_free h.2.1 y.toInt r.toInt t.toInt → t_had h.2.1 b.toInt → Z (some (.int t)) (h.1, h.2.1, J, h.2.2.2)) : qm_Ru (some (L, xs)) (d + 30) cd_87 (qm_ent 6 [.ref 28, .int b, .int y, .int r] h) Z := by
  refine qm_Ru.go 3 (c' := (3, [.ref 28, .int b, .int y, .int r, .float 0, .float 0], [.int r, .int y, .ref 28], h)) rfl ?_
  refine hk_inv (o := 28) (r := []) (as := [.ref 28, .int y, .int r]) rfl rfl (hH.1 28 (9, 8) rfl) rfl rfl rfl rfl ?_
  refine qm_Ru.go 2 (c' := (2, [.ref 28, .int y, .int r], [.int y, .ref 28], h)) rfl ?_
  refine hk_inv (o := 28) (r := []) (as := [.ref 28, .int y]) rfl rfl (hH.1 28 (9, 8) rfl) rfl rfl rfl rfl ?_
  refine qm_Ru.go 1 (c' := (1, [.ref 28, .int y], [.int y], h)) rfl ?_
  refine hk_zlt (ix := y.toInt) rfl rfl (fun z1 => ?_) (fun z1 => ?_)
  · refine qm_Ru.go 1 (c' := (20, [.ref 28, .int y], [.int 0], h)) rfl ?_
    refine qm_Ru.rt (v := (some (.int 0))) (h' := h) rfl ?_
    refine qm_Ru.go 2 (c' := (22, [.ref 28, .int y, .int r], [.int 0], h)) rfl ?_
    refine qm_Ru.rt (v := (some (.int 0))) (h' := h) rfl ?_
    refine qm_Ru.go 2 (c' := (18, [.ref 28, .int b, .int y, .int r, .float 0, .float 0], [.int (-1)], h)) rfl ?_
    refine qm_Ru.rt (v := (some (.int (-1)))) (h' := h) rfl ?_
    exact k0 (-1) h.2.2.1 (by decide) (by decide)
  · refine qm_Ru.go 2 (c' := (6, [.ref 28, .int y], [.ref 28, .int y], h)) rfl ?_
    refine hk_getr rfl (hH.1 28 (9, 8) rfl) rfl hT.2 ?_
    refine qm_Ru.go 0 (c' := (9, [.ref 28, .int y], [.ref 111, .int y], h)) rfl ?_
    obtain ⟨v2, q_v2⟩ : ∃ v, h.2.1 111 0 = v := ⟨_, rfl⟩
    have b_v2 : (2 : Int) ≤ v2.toInt ∧ v2.toInt ≤ 5 := by rw [← q_v2]; exact hB 111 0
    refine hk_geti (v := v2) rfl (hH.1 111 (11, 16) rfl) rfl q_v2 ?_
    refine qm_Ru.go 0 (c' := (12, [.ref 28, .int y], [.int v2, .int y], h)) rfl ?_
    refine hk_cge (ix := y.toInt) (iy := v2.toInt) rfl rfl rfl (fun z3 => ?_) (fun z3 => ?_)
    · refine qm_Ru.go 1 (c' := (20, [.ref 28, .int y], [.int 0], h)) rfl ?_
      refine qm_Ru.rt (v := (some (.int 0))) (h' := h) rfl ?_
      refine qm_Ru.go 2 (c' := (22, [.ref 28, .int y, .int r], [.int 0], h)) rfl ?_
      refine qm_Ru.rt (v := (some (.int 0))) (h' := h) rfl ?_
      refine qm_Ru.go 2 (c' := (18, [.ref 28, .int b, .int y, .int r, .float 0, .float 0], [.int (-1)], h)) rfl ?_
      refine qm_Ru.rt (v := (some (.int (-1)))) (h' := h) rfl ?_
      exact k0 (-1) h.2.2.1 (by decide) (by decide)
    · refine qm_Ru.go 2 (c' := (20, [.ref 28, .int y], [.int 1], h)) rfl ?_
      refine qm_Ru.rt (v := (some (.int 1))) (h' := h) rfl ?_
      refine qm_Ru.go 2 (c' := (9, [.ref 28, .int y, .int r], [.int r], h)) rfl ?_
      refine hk_zlt (ix := r.toInt) rfl rfl (fun z4 => ?_) (fun z4 => ?_)
      · refine qm_Ru.go 1 (c' := (22, [.ref 28, .int y, .int r], [.int 0], h)) rfl ?_
        refine qm_Ru.rt (v := (some (.int 0))) (h' := h) rfl ?_
        refine qm_Ru.go 2 (c' := (18, [.ref 28, .int b, .int y, .int r, .float 0, .float 0], [.int (-1)], h)) rfl ?_
        refine qm_Ru.rt (v := (some (.int (-1)))) (h' := h) rfl ?_
        exact k0 (-1) h.2.2.1 (by decide) (by decide)
      · refine qm_Ru.go 2 (c' := (14, [.ref 28, .int y, .int r], [.int 4, .int r], h)) rfl ?_
        refine hk_cge (ix := r.toInt) (iy := 4) rfl rfl rfl (fun z5 => ?_) (fun z5 => ?_)
        · refine qm_Ru.go 1 (c' := (22, [.ref 28, .int y, .int r], [.int 0], h)) rfl ?_
          refine qm_Ru.rt (v := (some (.int 0))) (h' := h) rfl ?_
          refine qm_Ru.go 2 (c' := (18, [.ref 28, .int b, .int y, .int r, .float 0, .float 0], [.int (-1)], h)) rfl ?_
          refine qm_Ru.rt (v := (some (.int (-1)))) (h' := h) rfl ?_
          exact k0 (-1) h.2.2.1 (by decide) (by decide)
        · refine qm_Ru.go 2 (c' := (22, [.ref 28, .int y, .int r], [.int 1], h)) rfl ?_
          refine qm_Ru.rt (v := (some (.int 1))) (h' := h) rfl ?_
          refine qm_Ru.go 3 (c' := (11, [.ref 28, .int b, .int y, .int r, .float 0, .float 0], [.int b, .ref 28], h)) rfl ?_
          refine hk_inv (o := 28) (r := []) (as := [.ref 28, .int b]) rfl rfl (hH.1 28 (9, 8) rfl) rfl rfl rfl rfl ?_
          refine qm_Ru.go 1 (c' := (1, [.ref 28, .int b], [.ref 28], h)) rfl ?_
          refine hk_getr rfl (hH.1 28 (9, 8) rfl) rfl (hH.2 28 0 (some 6) rfl) ?_
          refine qm_Ru.go 1 (c' := (5, [.ref 28, .int b], [.int b, .ref 6], h)) rfl ?_
          refine hk_inv (o := 6) (r := []) (as := [.ref 6, .int b]) rfl rfl (hH.1 6 (6, 9) rfl) rfl rfl rfl rfl ?_
          refine qm_Ru.go 2 (c' := (2, [.ref 6, .int b], [.int b, .ref 6], h)) rfl ?_
          refine hk_inv (o := 6) (r := []) (as := [.ref 6, .int b]) rfl rfl (hH.1 6 (6, 9) rfl) rfl rfl rfl rfl ?_
          refine qm_Ru.go 1 (c' := (1, [.ref 6, .int b], [.int b], h)) rfl ?_
          refine hk_zlt (ix := b.toInt) rfl rfl (fun z6 => ?_) (fun z6 => ?_)
          · refine qm_Ru.go 1 (c' := (17, [.ref 6, .int b], [.int 0], h)) rfl ?_
            refine qm_Ru.rt (v := (some (.int 0))) (h' := h) rfl ?_
            refine qm_Ru.go 2 (c' := (22, [.ref 6, .int b], [.int 0], h)) rfl ?_
            refine qm_Ru.rt (v := (some (.int 0))) (h' := h) rfl ?_
            refine qm_Ru.go 2 (c' := (12, [.ref 28, .int b], [.ref 28], h)) rfl ?_
            refine hk_getr rfl (hH.1 28 (9, 8) rfl) rfl (hH.2 28 0 (some 6) rfl) ?_
            refine qm_Ru.go 1 (c' := (16, [.ref 28, .int b], [.int b, .ref 6], h)) rfl ?_
            refine hk_inv (o := 6) (r := []) (as := [.ref 6, .int b]) rfl rfl (hH.1 6 (6, 9) rfl) rfl rfl rfl rfl ?_
            refine qm_Ru.go 2 (c' := (2, [.ref 6, .int b], [.int b, .ref 6], h)) rfl ?_
            refine hk_inv (o := 6) (r := []) (as := [.ref 6, .int b]) rfl rfl (hH.1 6 (6, 9) rfl) rfl rfl rfl rfl ?_
            refine qm_Ru.go 1 (c' := (1, [.ref 6, .int b], [.int b], h)) rfl ?_
            refine hk_zlt (ix := b.toInt) rfl rfl (fun z7 => ?_) (fun z7 => by exfalso; omega)
            refine qm_Ru.go 1 (c' := (17, [.ref 6, .int b], [.int 0], h)) rfl ?_
            refine qm_Ru.rt (v := (some (.int 0))) (h' := h) rfl ?_
            refine qm_Ru.go 2 (c' := (23, [.ref 6, .int b], [.int 0], h)) rfl ?_
            refine qm_Ru.rt (v := (some (.int 0))) (h' := h) rfl ?_
            refine qm_Ru.go 2 (c' := (47, [.ref 28, .int b], [.int 0], h)) rfl ?_
            refine qm_Ru.rt (v := (some (.int 0))) (h' := h) rfl ?_
            refine qm_Ru.go 2 (c' := (18, [.ref 28, .int b, .int y, .int r, .float 0, .float 0], [.int (-1)], h)) rfl ?_
            refine qm_Ru.rt (v := (some (.int (-1)))) (h' := h) rfl ?_
            exact k0 (-1) h.2.2.1 (by decide) (by decide)
          · refine qm_Ru.go 2 (c' := (6, [.ref 6, .int b], [.ref 6, .int b], h)) rfl ?_
            obtain ⟨v8, q_v8⟩ : ∃ v, h.2.1 6 0 = v := ⟨_, rfl⟩
            have b_v8 : (0 : Int) ≤ v8.toInt ∧ v8.toInt ≤ 30 := by rw [← q_v8]; exact hB 6 0
            refine hk_geti (v := v8) rfl (hH.1 6 (6, 9) rfl) rfl q_v8 ?_
            refine qm_Ru.go 0 (c' := (9, [.ref 6, .int b], [.int v8, .int b], h)) rfl ?_
            refine hk_cge (ix := b.toInt) (iy := v8.toInt) rfl rfl rfl (fun z9 => ?_) (fun z9 => ?_)
            · refine qm_Ru.go 1 (c' := (17, [.ref 6, .int b], [.int 0], h)) rfl ?_
              refine qm_Ru.rt (v := (some (.int 0))) (h' := h) rfl ?_
              refine qm_Ru.go 2 (c' := (22, [.ref 6, .int b], [.int 0], h)) rfl ?_
              refine qm_Ru.rt (v := (some (.int 0))) (h' := h) rfl ?_
              refine qm_Ru.go 2 (c' := (12, [.ref 28, .int b], [.ref 28], h)) rfl ?_
              refine hk_getr rfl (hH.1 28 (9, 8) rfl) rfl (hH.2 28 0 (some 6) rfl) ?_
              refine qm_Ru.go 1 (c' := (16, [.ref 28, .int b], [.int b, .ref 6], h)) rfl ?_
              refine hk_inv (o := 6) (r := []) (as := [.ref 6, .int b]) rfl rfl (hH.1 6 (6, 9) rfl) rfl rfl rfl rfl ?_
              refine qm_Ru.go 2 (c' := (2, [.ref 6, .int b], [.int b, .ref 6], h)) rfl ?_
              refine hk_inv (o := 6) (r := []) (as := [.ref 6, .int b]) rfl rfl (hH.1 6 (6, 9) rfl) rfl rfl rfl rfl ?_
              refine qm_Ru.go 1 (c' := (1, [.ref 6, .int b], [.int b], h)) rfl ?_
              refine hk_zlt (ix := b.toInt) rfl rfl (fun z10 => by exfalso; omega) (fun z10 => ?_)
              refine qm_Ru.go 2 (c' := (6, [.ref 6, .int b], [.ref 6, .int b], h)) rfl ?_
              refine hk_geti (v := v8) rfl (hH.1 6 (6, 9) rfl) rfl q_v8 ?_
              refine qm_Ru.go 0 (c' := (9, [.ref 6, .int b], [.int v8, .int b], h)) rfl ?_
              refine hk_cge (ix := b.toInt) (iy := v8.toInt) rfl rfl rfl (fun z11 => ?_) (fun z11 => ?_)
              · refine qm_Ru.go 1 (c' := (17, [.ref 6, .int b], [.int 0], h)) rfl ?_
                refine qm_Ru.rt (v := (some (.int 0))) (h' := h) rfl ?_
                refine qm_Ru.go 2 (c' := (23, [.ref 6, .int b], [.int 0], h)) rfl ?_
                refine qm_Ru.rt (v := (some (.int 0))) (h' := h) rfl ?_
                refine qm_Ru.go 2 (c' := (47, [.ref 28, .int b], [.int 0], h)) rfl ?_
                refine qm_Ru.rt (v := (some (.int 0))) (h' := h) rfl ?_
                refine qm_Ru.go 2 (c' := (18, [.ref 28, .int b, .int y, .int r, .float 0, .float 0], [.int (-1)], h)) rfl ?_
                refine qm_Ru.rt (v := (some (.int (-1)))) (h' := h) rfl ?_
                exact k0 (-1) h.2.2.1 (by decide) (by decide)
              · refine qm_Ru.go 2 (c' := (17, [.ref 6, .int b], [.int 1], h)) rfl ?_
                refine qm_Ru.rt (v := (some (.int 1))) (h' := h) rfl ?_
                refine qm_Ru.go 2 (c' := (9, [.ref 6, .int b], [.ref 6], h)) rfl ?_
                refine hk_getr rfl (hH.1 6 (6, 9) rfl) rfl (hH.2 6 5 (some 11) rfl) ?_
                refine qm_Ru.go 1 (c' := (13, [.ref 6, .int b], [.int b, .ref 11], h)) rfl ?_
                obtain ⟨v12, q_v12⟩ : ∃ v, h.2.1 11 (b.toInt.toNat) = v := ⟨_, rfl⟩
                have b_v12 : (0 : Int) ≤ v12.toInt ∧ v12.toInt ≤ 2 := by rw [← q_v12]; exact hB 11 (b.toInt.toNat)
                refine hk_ial (v := v12) rfl (hH.1 11 (0, 30) rfl) (by omega) (by omega) q_v12 ?_
                refine qm_Ru.go 1 (c' := (15, [.ref 6, .int b], [.int 1, .int v12], h)) rfl ?_
                refine hk_ceq (ix := v12.toInt) (iy := 1) rfl rfl rfl (fun z13 => ?_) (fun z13 => ?_)
                · refine qm_Ru.go 1 (c' := (23, [.ref 6, .int b], [.int 0], h)) rfl ?_
                  refine qm_Ru.rt (v := (some (.int 0))) (h' := h) rfl ?_
                  refine qm_Ru.go 2 (c' := (47, [.ref 28, .int b], [.int 0], h)) rfl ?_
                  refine qm_Ru.rt (v := (some (.int 0))) (h' := h) rfl ?_
                  refine qm_Ru.go 2 (c' := (18, [.ref 28, .int b, .int y, .int r, .float 0, .float 0], [.int (-1)], h)) rfl ?_
                  refine qm_Ru.rt (v := (some (.int (-1)))) (h' := h) rfl ?_
                  exact k0 (-1) h.2.2.1 (by decide) (by decide)
                · refine qm_Ru.go 2 (c' := (23, [.ref 6, .int b], [.int 1], h)) rfl ?_
                  refine qm_Ru.rt (v := (some (.int 1))) (h' := h) rfl ?_
                  refine qm_Ru.go 1 (c' := (22, [.ref 28, .int b], [], h)) rfl ?_
                  obtain ⟨v14, q_v14⟩ : ∃ v, h.2.1 12 (b.toInt.toNat) = v := ⟨_, rfl⟩
                  have b_v14 : (-1 : Int) ≤ v14.toInt ∧ v14.toInt ≤ 4 := by rw [← q_v14]; exact hB 12 (b.toInt.toNat)
                  have r_v14 : (0 : Int) ≤ v14.toInt ∧ v14.toInt ≤ 3 := by rw [← q_v14]; exact ((hV.1.1.2.2.2 (b.toInt.toNat)).2 (show (h.2.1 11 (b.toInt.toNat)).toInt = 2 from by rw [q_v12]; omega)).1
                  refine qm_Ru.go 1 (c' := (23, [.ref 28, .int b], [.ref 28], h)) rfl ?_
                  refine hk_getr rfl (hH.1 28 (9, 8) rfl) rfl (hH.2 28 1 (some 15) rfl) ?_
                  refine qm_Ru.go 1 (c' := (27, [.ref 28, .int b], [.ref 28, .ref 15], h)) rfl ?_
                  refine hk_getr rfl (hH.1 28 (9, 8) rfl) rfl (hH.2 28 0 (some 6) rfl) ?_
                  refine qm_Ru.go 0 (c' := (30, [.ref 28, .int b], [.ref 6, .ref 15], h)) rfl ?_
                  refine hk_getr rfl (hH.1 6 (6, 9) rfl) rfl (hH.2 6 6 (some 12) rfl) ?_
                  refine qm_Ru.go 1 (c' := (34, [.ref 28, .int b], [.int b, .ref 12, .ref 15], h)) rfl ?_
                  refine hk_ial (v := v14) rfl (hH.1 12 (0, 30) rfl) (by omega) (by omega) q_v14 ?_
                  refine qm_Ru.go 0 (c' := (35, [.ref 28, .int b], [.int v14, .ref 15], h)) rfl ?_
                  refine hk_inv (o := 15) (r := []) (as := [.ref 15, .int v14]) rfl rfl (hH.1 15 (15, 8) rfl) rfl rfl rfl rfl ?_
                  refine qm_Ru.go 1 (c' := (1, [.ref 15, .int v14], [.ref 15], h)) rfl ?_
                  refine hk_getr rfl (hH.1 15 (15, 8) rfl) rfl (hH.2 15 2 (some 17) rfl) ?_
                  refine qm_Ru.go 1 (c' := (5, [.ref 15, .int v14], [.int v14, .ref 17], h)) rfl ?_
                  obtain ⟨v15, q_v15⟩ : ∃ v, h.2.1 17 (v14.toInt.toNat) = v := ⟨_, rfl⟩
                  have b_v15 : (0 : Int) ≤ v15.toInt ∧ v15.toInt ≤ 4 := by rw [← q_v15]; exact hB 17 (v14.toInt.toNat)
                  refine hk_ial (v := v15) rfl (hH.1 17 (0, 4) rfl) (by omega) (by omega) q_v15 ?_
                  refine qm_Ru.go 0 (c' := (6, [.ref 15, .int v14], [.int v15], h)) rfl ?_
                  refine hk_zne (ix := v15.toInt) rfl rfl (fun z16 => ?_) (fun z16 => ?_)
                  · refine qm_Ru.go 1 (c' := (14, [.ref 15, .int v14], [.ref 15], h)) rfl ?_
                    refine hk_getr rfl (hH.1 15 (15, 8) rfl) rfl (hH.2 15 1 (some 16) rfl) ?_
                    refine qm_Ru.go 3 (c' := (20, [.ref 15, .int v14], [.int (v14 * 4), .ref 16], h)) rfl ?_
                    obtain ⟨v17, q_v17, e_v17⟩ := hk_mul (x := v14) (y := 4) (a := v14.toInt) (b := 4) rfl rfl (by omega) (by omega)
                    rw [q_v17]
                    refine qm_Ru.go 1 (c' := (21, [.ref 15, .int v14], [.ref 15, .int v17, .ref 16], h)) rfl ?_
                    refine hk_getr rfl (hH.1 15 (15, 8) rfl) rfl (hH.2 15 2 (some 17) rfl) ?_
                    refine qm_Ru.go 1 (c' := (25, [.ref 15, .int v14], [.int v14, .ref 17, .int v17, .ref 16], h)) rfl ?_
                    refine hk_ial (v := v15) rfl (hH.1 17 (0, 4) rfl) (by omega) (by omega) q_v15 ?_
                    refine qm_Ru.go 1 (c' := (27, [.ref 15, .int v14], [.int (v17 + v15), .ref 16], h)) rfl ?_
                    obtain ⟨v18, q_v18, e_v18⟩ := hk_add (x := v17) (y := v15) (a := v17.toInt) (b := v15.toInt) rfl rfl (by omega) (by omega)
                    rw [q_v18]
                    refine qm_Ru.go 2 (c' := (29, [.ref 15, .int v14], [.int (v18 - 1), .ref 16], h)) rfl ?_
                    obtain ⟨v19, q_v19, e_v19⟩ := hk_sub (x := v18) (y := 1) (a := v18.toInt) (b := 1) rfl rfl (by omega) (by omega)
                    rw [q_v19]
                    obtain ⟨v20, q_v20⟩ : ∃ v, h.2.1 16 (v19.toInt.toNat) = v := ⟨_, rfl⟩
                    have b_v20 : (0 : Int) ≤ v20.toInt ∧ v20.toInt ≤ 29 := by rw [← q_v20]; exact hB 16 (v19.toInt.toNat)
                    refine hk_ial (v := v20) rfl (hH.1 16 (0, 16) rfl) (by omega) (by omega) q_v20 ?_
                    refine qm_Ru.go 0 (c' := (30, [.ref 15, .int v14], [.int v20], h)) rfl ?_
                    refine qm_Ru.rt (v := (some (.int v20))) (h' := h) rfl ?_
                    refine qm_Ru.go 1 (c' := (39, [.ref 28, .int b], [.int b, .int v20], h)) rfl ?_
                    refine hk_cne (ix := v20.toInt) (iy := b.toInt) rfl rfl rfl (fun z21 => ?_) (fun z21 => ?_)
                    · refine qm_Ru.go 1 (c' := (47, [.ref 28, .int b], [.int 0], h)) rfl ?_
                      refine qm_Ru.rt (v := (some (.int 0))) (h' := h) rfl ?_
                      refine qm_Ru.go 2 (c' := (18, [.ref 28, .int b, .int y, .int r, .float 0, .float 0], [.int (-1)], h)) rfl ?_
                      refine qm_Ru.rt (v := (some (.int (-1)))) (h' := h) rfl ?_
                      exact k0 (-1) h.2.2.1 (by decide) (by decide)
                    · refine qm_Ru.go 2 (c' := (47, [.ref 28, .int b], [.int 1], h)) rfl ?_
                      refine qm_Ru.rt (v := (some (.int 1))) (h' := h) rfl ?_
                      refine qm_Ru.go 4 (c' := (22, [.ref 28, .int b, .int y, .int r, .float 0, .float 0], [.int r, .int y, .ref 28], h)) rfl ?_
                      refine hk_inv (o := 28) (r := []) (as := [.ref 28, .int y, .int r]) rfl rfl (hH.1 28 (9, 8) rfl) rfl rfl rfl rfl ?_
                      refine qm_Ru.go 2 (c' := (2, [.ref 28, .int y, .int r, .float 0], [.int y, .ref 28], h)) rfl ?_
                      refine hk_inv (o := 28) (r := []) (as := [.ref 28, .int y]) rfl rfl (hH.1 28 (9, 8) rfl) rfl rfl rfl rfl ?_
                      refine qm_Ru.go 2 (c' := (2, [.ref 28, .int y], [.int y, .ref 28], h)) rfl ?_
                      refine hk_inv (o := 28) (r := []) (as := [.ref 28, .int y]) rfl rfl (hH.1 28 (9, 8) rfl) rfl rfl rfl rfl ?_
                      refine qm_Ru.go 1 (c' := (1, [.ref 28, .int y], [.ref 28], h)) rfl ?_
                      obtain ⟨v22, q_v22⟩ : ∃ v, h.2.1 28 4 = v := ⟨_, rfl⟩
                      refine hk_geti (v := v22) rfl (hH.1 28 (9, 8) rfl) rfl q_v22 ?_
                      refine qm_Ru.go 2 (c' := (6, [.ref 28, .int y], [.int (v22 >>> (y &&& 31))], h)) rfl ?_
                      obtain ⟨v23, q_v23⟩ : ∃ v, (v22 >>> (y &&& 31)) = v := ⟨_, rfl⟩
                      rw [q_v23]
                      refine qm_Ru.go 2 (c' := (8, [.ref 28, .int y], [.int (v23 &&& 1)], h)) rfl ?_
                      obtain ⟨v24, q_v24⟩ : ∃ v, (v23 &&& 1) = v := ⟨_, rfl⟩
                      rw [q_v24]
                      refine qm_Ru.go 1 (c' := (9, [.ref 28, .int y], [.int 1, .int v24], h)) rfl ?_
                      refine hk_cne (ix := v24.toInt) (iy := 1) rfl rfl rfl (fun z25 => ?_) (fun z25 => ?_)
                      · refine qm_Ru.go 1 (c' := (17, [.ref 28, .int y], [.int 0], h)) rfl ?_
                        refine qm_Ru.rt (v := (some (.int 0))) (h' := h) rfl ?_
                        refine qm_Ru.go 2 (c' := (13, [.ref 28, .int y], [.int 0], h)) rfl ?_
                        refine qm_Ru.rt (v := (some (.int 0))) (h' := h) rfl ?_
                        refine qm_Ru.go 2 (c' := (7, [.ref 28, .int y, .int r, .int 0], [.ref 28], h)) rfl ?_
                        refine hk_getr rfl (hH.1 28 (9, 8) rfl) rfl (hH.2 28 3 (some 36) rfl) ?_
                        refine qm_Ru.go 3 (c' := (13, [.ref 28, .int y, .int r, .int 0], [.int 0, .int r, .int y, .ref 36], h)) rfl ?_
                        refine qm_Ru.call (j := 75) (as := [.int y, .int r, .int 0]) (c' := (16, [.ref 28, .int y, .int r, .int 0], [.ref 36], h)) rfl rfl rfl ?_
                        refine qm_Ru.go 3 (c' := (3, [.int y, .int r, .int 0], [.int (y * 4)], h)) rfl ?_
                        obtain ⟨v26, q_v26, e_v26⟩ := hk_mul (x := y) (y := 4) (a := y.toInt) (b := 4) rfl rfl (by omega) (by omega)
                        rw [q_v26]
                        refine qm_Ru.go 2 (c' := (5, [.int y, .int r, .int 0], [.int (v26 + r)], h)) rfl ?_
                        obtain ⟨v27, q_v27, e_v27⟩ := hk_add (x := v26) (y := r) (a := v26.toInt) (b := r.toInt) rfl rfl (by omega) (by omega)
                        rw [q_v27]
                        refine qm_Ru.go 2 (c' := (7, [.int y, .int r, .int 0], [.int (v27 * 4)], h)) rfl ?_
                        obtain ⟨v28, q_v28, e_v28⟩ := hk_mul (x := v27) (y := 4) (a := v27.toInt) (b := 4) rfl rfl (by omega) (by omega)
                        rw [q_v28]
                        refine qm_Ru.go 2 (c' := (9, [.int y, .int r, .int 0], [.int (v28 + 0)], h)) rfl ?_
                        obtain ⟨v29, q_v29, e_v29⟩ := hk_add (x := v28) (y := 0) (a := v28.toInt) (b := 0) rfl rfl (by omega) (by omega)
                        rw [q_v29]
                        refine qm_Ru.rt (v := (some (.int v29))) (h' := h) rfl ?_
                        refine qm_Ru.go 0 (c' := (16, [.ref 28, .int y, .int r, .int 0], [.int v29, .ref 36], h)) rfl ?_
                        obtain ⟨v30, q_v30⟩ : ∃ v, h.2.1 36 (v29.toInt.toNat) = v := ⟨_, rfl⟩
                        have b_v30 : (-1 : Int) ≤ v30.toInt ∧ v30.toInt ≤ 29 := by rw [← q_v30]; exact hB 36 (v29.toInt.toNat)
                        refine hk_ial (v := v30) rfl (hH.1 36 (0, 80) rfl) (by omega) (by omega) q_v30 ?_
                        refine qm_Ru.go 1 (c' := (18, [.ref 28, .int y, .int r, .int 0], [.int (-1), .int v30], h)) rfl ?_
                        refine hk_cne (ix := v30.toInt) (iy := (-1)) rfl rfl rfl (fun z31 => ?_) (fun z31 => ?_)
                        · refine qm_Ru.go 1 (c' := (24, [.ref 28, .int y, .int r, .int 0], [.ref 28], h)) rfl ?_
                          refine hk_getr rfl (hH.1 28 (9, 8) rfl) rfl (hH.2 28 3 (some 36) rfl) ?_
                          refine qm_Ru.go 5 (c' := (32, [.ref 28, .int y, .int r, .int 0], [.int 1, .int r, .int y, .ref 36], h)) rfl ?_
                          refine qm_Ru.call (j := 75) (as := [.int y, .int r, .int 1]) (c' := (35, [.ref 28, .int y, .int r, .int 0], [.ref 36], h)) rfl rfl rfl ?_
                          refine qm_Ru.go 3 (c' := (3, [.int y, .int r, .int 1], [.int (y * 4)], h)) rfl ?_
                          rw [q_v26]
                          refine qm_Ru.go 2 (c' := (5, [.int y, .int r, .int 1], [.int (v26 + r)], h)) rfl ?_
                          rw [q_v27]
                          refine qm_Ru.go 2 (c' := (7, [.int y, .int r, .int 1], [.int (v27 * 4)], h)) rfl ?_
                          rw [q_v28]
                          refine qm_Ru.go 2 (c' := (9, [.int y, .int r, .int 1], [.int (v28 + 1)], h)) rfl ?_
                          obtain ⟨v35, q_v35, e_v35⟩ := hk_add (x := v28) (y := 1) (a := v28.toInt) (b := 1) rfl rfl (by omega) (by omega)
                          rw [q_v35]
                          refine qm_Ru.rt (v := (some (.int v35))) (h' := h) rfl ?_
                          refine qm_Ru.go 0 (c' := (35, [.ref 28, .int y, .int r, .int 0], [.int v35, .ref 36], h)) rfl ?_
                          obtain ⟨v36, q_v36⟩ : ∃ v, h.2.1 36 (v35.toInt.toNat) = v := ⟨_, rfl⟩
                          have b_v36 : (-1 : Int) ≤ v36.toInt ∧ v36.toInt ≤ 29 := by rw [← q_v36]; exact hB 36 (v35.toInt.toNat)
                          refine hk_ial (v := v36) rfl (hH.1 36 (0, 80) rfl) (by omega) (by omega) q_v36 ?_
                          refine qm_Ru.go 1 (c' := (37, [.ref 28, .int y, .int r, .int 0], [.int (-1), .int v36], h)) rfl ?_
                          refine hk_cne (ix := v36.toInt) (iy := (-1)) rfl rfl rfl (fun z37 => ?_) (fun z37 => ?_)
                          · refine qm_Ru.go 1 (c' := (47, [.ref 28, .int y, .int r, .int 0], [.int (-1)], h)) rfl ?_
                            refine qm_Ru.rt (v := (some (.int (-1)))) (h' := h) rfl ?_
                            refine qm_Ru.go 5 (c' := (34, [.ref 28, .int b, .int y, .int r, .int (-1), .float 0], [.int (-1)], h)) rfl ?_
                            refine qm_Ru.rt (v := (some (.int (-1)))) (h' := h) rfl ?_
                            exact k0 (-1) h.2.2.1 (by decide) (by decide)
                          · refine qm_Ru.go 4 (c' := (47, [.ref 28, .int y, .int r, .int 0], [.int 1], h)) rfl ?_
                            refine qm_Ru.rt (v := (some (.int 1))) (h' := h) rfl ?_
                            refine qm_Ru.go 5 (c' := (36, [.ref 28, .int b, .int y, .int r, .int 1, .float 0], [.ref 28], h)) rfl ?_
                            refine hk_getr rfl (hH.1 28 (9, 8) rfl) rfl (hH.2 28 0 (some 6) rfl) ?_
                            refine qm_Ru.go 0 (c' := (39, [.ref 28, .int b, .int y, .int r, .int 1, .float 0], [.ref 6], h)) rfl ?_
                            refine hk_getr rfl (hH.1 6 (6, 9) rfl) rfl (hH.2 6 1 (some 7) rfl) ?_
                            refine qm_Ru.go 1 (c' := (43, [.ref 28, .int b, .int y, .int r, .int 1, .float 0], [.int b, .ref 7], h)) rfl ?_
                            obtain ⟨v38, q_v38⟩ : ∃ v, h.2.1 7 (b.toInt.toNat) = v := ⟨_, rfl⟩
                            have b_v38 : (0 : Int) ≤ v38.toInt ∧ v38.toInt ≤ 40 := by rw [← q_v38]; exact hB 7 (b.toInt.toNat)
                            refine hk_ial (v := v38) rfl (hH.1 7 (0, 30) rfl) (by omega) (by omega) q_v38 ?_
                            refine qm_Ru.go 3 (c' := (49, [.ref 28, .int b, .int y, .int r, .int 1, .int v38], [.ref 28, .int v38], h)) rfl ?_
                            refine hk_getr rfl (hH.1 28 (9, 8) rfl) rfl hT.2 ?_
                            refine qm_Ru.go 0 (c' := (52, [.ref 28, .int b, .int y, .int r, .int 1, .int v38], [.ref 111, .int v38], h)) rfl ?_
                            obtain ⟨v39, q_v39⟩ : ∃ v, h.2.1 111 4 = v := ⟨_, rfl⟩
                            refine hk_geti (v := v39) rfl (hH.1 111 (11, 16) rfl) rfl q_v39 ?_
                            refine qm_Ru.go 0 (c' := (55, [.ref 28, .int b, .int y, .int r, .int 1, .int v38], [.int v39, .int v38], h)) rfl ?_
                            refine hk_cle (ix := v38.toInt) (iy := v39.toInt) rfl rfl rfl (fun z40 => ?_) (fun z40 => ?_)
                            · refine qm_Ru.go 4 (c' := (66, [.ref 28, .int b, .int y, .int r, .int 1, .int v38], [.int v38, .int r, .int y, .ref 28], h)) rfl ?_
                              refine hk_inv (o := 28) (r := []) (as := [.ref 28, .int y, .int r, .int v38]) rfl rfl (hH.1 28 (9, 8) rfl) rfl rfl rfl rfl (hs_borne111 h6 hH hT hB (v_C_ru hV) ⟨by show (0 : Int) ≤ y.toInt; omega, by show y.toInt ≤ (4 : Int); omega⟩ ⟨by show (0 : Int) ≤ r.toInt; omega, by show r.toInt ≤ (3 : Int); omega⟩ (qa_in_full _) (by omega) (fun v41 I42 J43 c_v41 _ e_I42 => ?_))
                              have e_I42 : I42 = h.2.1 := funext fun o => funext fun i => e_I42 o rfl i
                              subst e_I42
                              have b_v41 : (0 : Int) ≤ v41.toInt ∧ v41.toInt ≤ 1 := c_v41
                              refine qm_Ru.go 0 (c' := (69, [.ref 28, .int b, .int y, .int r, .int 1, .int v38], [.int v41], (h.1, h.2.1, J43, h.2.2.2))) rfl ?_
                              refine hk_zne (ix := v41.toInt) rfl rfl (fun z44 => ?_) (fun z44 => ?_)
                              · refine qm_Ru.go 2 (c' := (90, [.ref 28, .int b, .int y, .int r, .int 1, .int v38], [.int 1], (h.1, h.2.1, J43, h.2.2.2))) rfl ?_
                                refine qm_Ru.rt (v := (some (.int 1))) (h' := (h.1, h.2.1, J43, h.2.2.2)) rfl ?_
                                exact k1 1 J43 (t_free1 (t := 1) (by omega) (by omega) (by decide) q_v36 (by omega) (by omega) q_v30 (by omega) (by omega)) (t_had2 (by omega) q_v8 (by omega) q_v12 (by omega) q_v14 q_v15 rfl (by omega) q_v20 (by omega) (by omega))
                              · refine qm_Ru.go 4 (c' := (77, [.ref 28, .int b, .int y, .int r, .int 1, .int v38], [.int v38, .int r, .int y, .ref 28], (h.1, h.2.1, J43, h.2.2.2))) rfl ?_
                                refine hk_inv (o := 28) (r := []) (as := [.ref 28, .int y, .int r, .int v38]) rfl rfl (hH.1 28 (9, 8) rfl) rfl rfl rfl rfl (hs_nowor111 h6 hH hT hB (v_C_ru hV) ⟨by show (0 : Int) ≤ y.toInt; omega, by show y.toInt ≤ (4 : Int); omega⟩ ⟨by show (0 : Int) ≤ r.toInt; omega, by show r.toInt ≤ (3 : Int); omega⟩ (qa_in_full _) (by omega) (fun v45 I46 J47 c_v45 _ e_I46 => ?_))
                                have e_I46 : I46 = h.2.1 := funext fun o => funext fun i => e_I46 o rfl i
                                subst e_I46
                                have b_v45 : (0 : Int) ≤ v45.toInt ∧ v45.toInt ≤ 1 := c_v45
                                refine qm_Ru.go 0 (c' := (80, [.ref 28, .int b, .int y, .int r, .int 1, .int v38], [.int v45], (h.1, h.2.1, J47, h.2.2.2))) rfl ?_
                                refine hk_zeq (ix := v45.toInt) rfl rfl (fun z48 => ?_) (fun z48 => ?_)
                                · refine qm_Ru.go 1 (c' := (90, [.ref 28, .int b, .int y, .int r, .int 1, .int v38], [.int (-3)], (h.1, h.2.1, J47, h.2.2.2))) rfl ?_
                                  refine qm_Ru.rt (v := (some (.int (-3)))) (h' := (h.1, h.2.1, J47, h.2.2.2)) rfl ?_
                                  exact k0 (-3) J47 (by decide) (by decide)
                                · refine qm_Ru.go 2 (c' := (90, [.ref 28, .int b, .int y, .int r, .int 1, .int v38], [.int 1], (h.1, h.2.1, J47, h.2.2.2))) rfl ?_
                                  refine qm_Ru.rt (v := (some (.int 1))) (h' := (h.1, h.2.1, J47, h.2.2.2)) rfl ?_
                                  exact k1 1 J47 (t_free1 (t := 1) (by omega) (by omega) (by decide) q_v36 (by omega) (by omega) q_v30 (by omega) (by omega)) (t_had2 (by omega) q_v8 (by omega) q_v12 (by omega) q_v14 q_v15 rfl (by omega) q_v20 (by omega) (by omega))
                            · refine qm_Ru.go 1 (c' := (60, [.ref 28, .int b, .int y, .int r, .int 1, .int v38], [.int (-2)], h)) rfl ?_
                              refine qm_Ru.rt (v := (some (.int (-2)))) (h' := h) rfl ?_
                              exact k0 (-2) h.2.2.1 (by decide) (by decide)
                        · refine qm_Ru.go 1 (c' := (22, [.ref 28, .int y, .int r, .int 0], [.int 0], h)) rfl ?_
                          refine qm_Ru.rt (v := (some (.int 0))) (h' := h) rfl ?_
                          refine qm_Ru.go 5 (c' := (36, [.ref 28, .int b, .int y, .int r, .int 0, .float 0], [.ref 28], h)) rfl ?_
                          refine hk_getr rfl (hH.1 28 (9, 8) rfl) rfl (hH.2 28 0 (some 6) rfl) ?_
                          refine qm_Ru.go 0 (c' := (39, [.ref 28, .int b, .int y, .int r, .int 0, .float 0], [.ref 6], h)) rfl ?_
                          refine hk_getr rfl (hH.1 6 (6, 9) rfl) rfl (hH.2 6 1 (some 7) rfl) ?_
                          refine qm_Ru.go 1 (c' := (43, [.ref 28, .int b, .int y, .int r, .int 0, .float 0], [.int b, .ref 7], h)) rfl ?_
                          obtain ⟨v49, q_v49⟩ : ∃ v, h.2.1 7 (b.toInt.toNat) = v := ⟨_, rfl⟩
                          have b_v49 : (0 : Int) ≤ v49.toInt ∧ v49.toInt ≤ 40 := by rw [← q_v49]; exact hB 7 (b.toInt.toNat)
                          refine hk_ial (v := v49) rfl (hH.1 7 (0, 30) rfl) (by omega) (by omega) q_v49 ?_
                          refine qm_Ru.go 3 (c' := (49, [.ref 28, .int b, .int y, .int r, .int 0, .int v49], [.ref 28, .int v49], h)) rfl ?_
                          refine hk_getr rfl (hH.1 28 (9, 8) rfl) rfl hT.2 ?_
                          refine qm_Ru.go 0 (c' := (52, [.ref 28, .int b, .int y, .int r, .int 0, .int v49], [.ref 111, .int v49], h)) rfl ?_
                          obtain ⟨v50, q_v50⟩ : ∃ v, h.2.1 111 4 = v := ⟨_, rfl⟩
                          refine hk_geti (v := v50) rfl (hH.1 111 (11, 16) rfl) rfl q_v50 ?_
                          refine qm_Ru.go 0 (c' := (55, [.ref 28, .int b, .int y, .int r, .int 0, .int v49], [.int v50, .int v49], h)) rfl ?_
                          refine hk_cle (ix := v49.toInt) (iy := v50.toInt) rfl rfl rfl (fun z51 => ?_) (fun z51 => ?_)
                          · refine qm_Ru.go 4 (c' := (66, [.ref 28, .int b, .int y, .int r, .int 0, .int v49], [.int v49, .int r, .int y, .ref 28], h)) rfl ?_
                            refine hk_inv (o := 28) (r := []) (as := [.ref 28, .int y, .int r, .int v49]) rfl rfl (hH.1 28 (9, 8) rfl) rfl rfl rfl rfl (hs_borne111 h6 hH hT hB (v_C_ru hV) ⟨by show (0 : Int) ≤ y.toInt; omega, by show y.toInt ≤ (4 : Int); omega⟩ ⟨by show (0 : Int) ≤ r.toInt; omega, by show r.toInt ≤ (3 : Int); omega⟩ (qa_in_full _) (by omega) (fun v52 I53 J54 c_v52 _ e_I53 => ?_))
                            have e_I53 : I53 = h.2.1 := funext fun o => funext fun i => e_I53 o rfl i
                            subst e_I53
                            have b_v52 : (0 : Int) ≤ v52.toInt ∧ v52.toInt ≤ 1 := c_v52
                            refine qm_Ru.go 0 (c' := (69, [.ref 28, .int b, .int y, .int r, .int 0, .int v49], [.int v52], (h.1, h.2.1, J54, h.2.2.2))) rfl ?_
                            refine hk_zne (ix := v52.toInt) rfl rfl (fun z55 => ?_) (fun z55 => ?_)
                            · refine qm_Ru.go 2 (c' := (90, [.ref 28, .int b, .int y, .int r, .int 0, .int v49], [.int 0], (h.1, h.2.1, J54, h.2.2.2))) rfl ?_
                              refine qm_Ru.rt (v := (some (.int 0))) (h' := (h.1, h.2.1, J54, h.2.2.2)) rfl ?_
                              exact k1 0 J54 (t_free0 (t := 0) (by omega) (by omega) (by decide) q_v30 (by omega) (by omega)) (t_had2 (by omega) q_v8 (by omega) q_v12 (by omega) q_v14 q_v15 rfl (by omega) q_v20 (by omega) (by omega))
                            · refine qm_Ru.go 4 (c' := (77, [.ref 28, .int b, .int y, .int r, .int 0, .int v49], [.int v49, .int r, .int y, .ref 28], (h.1, h.2.1, J54, h.2.2.2))) rfl ?_
                              refine hk_inv (o := 28) (r := []) (as := [.ref 28, .int y, .int r, .int v49]) rfl rfl (hH.1 28 (9, 8) rfl) rfl rfl rfl rfl (hs_nowor111 h6 hH hT hB (v_C_ru hV) ⟨by show (0 : Int) ≤ y.toInt; omega, by show y.toInt ≤ (4 : Int); omega⟩ ⟨by show (0 : Int) ≤ r.toInt; omega, by show r.toInt ≤ (3 : Int); omega⟩ (qa_in_full _) (by omega) (fun v56 I57 J58 c_v56 _ e_I57 => ?_))
                              have e_I57 : I57 = h.2.1 := funext fun o => funext fun i => e_I57 o rfl i
                              subst e_I57
                              have b_v56 : (0 : Int) ≤ v56.toInt ∧ v56.toInt ≤ 1 := c_v56
                              refine qm_Ru.go 0 (c' := (80, [.ref 28, .int b, .int y, .int r, .int 0, .int v49], [.int v56], (h.1, h.2.1, J58, h.2.2.2))) rfl ?_
                              refine hk_zeq (ix := v56.toInt) rfl rfl (fun z59 => ?_) (fun z59 => ?_)
                              · refine qm_Ru.go 1 (c' := (90, [.ref 28, .int b, .int y, .int r, .int 0, .int v49], [.int (-3)], (h.1, h.2.1, J58, h.2.2.2))) rfl ?_
                                refine qm_Ru.rt (v := (some (.int (-3)))) (h' := (h.1, h.2.1, J58, h.2.2.2)) rfl ?_
                                exact k0 (-3) J58 (by decide) (by decide)
                              · refine qm_Ru.go 2 (c' := (90, [.ref 28, .int b, .int y, .int r, .int 0, .int v49], [.int 0], (h.1, h.2.1, J58, h.2.2.2))) rfl ?_
                                refine qm_Ru.rt (v := (some (.int 0))) (h' := (h.1, h.2.1, J58, h.2.2.2)) rfl ?_
                                exact k1 0 J58 (t_free0 (t := 0) (by omega) (by omega) (by decide) q_v30 (by omega) (by omega)) (t_had2 (by omega) q_v8 (by omega) q_v12 (by omega) q_v14 q_v15 rfl (by omega) q_v20 (by omega) (by omega))
                          · refine qm_Ru.go 1 (c' := (60, [.ref 28, .int b, .int y, .int r, .int 0, .int v49], [.int (-2)], h)) rfl ?_
                            refine qm_Ru.rt (v := (some (.int (-2)))) (h' := h) rfl ?_
                            exact k0 (-2) h.2.2.1 (by decide) (by decide)
                      · refine qm_Ru.go 2 (c' := (17, [.ref 28, .int y], [.int 1], h)) rfl ?_
                        refine qm_Ru.rt (v := (some (.int 1))) (h' := h) rfl ?_
                        refine qm_Ru.go 3 (c' := (13, [.ref 28, .int y], [.int 2], h)) rfl ?_
                        refine qm_Ru.rt (v := (some (.int 2))) (h' := h) rfl ?_
                        refine qm_Ru.go 2 (c' := (7, [.ref 28, .int y, .int r, .int 2], [.ref 28], h)) rfl ?_
                        refine hk_getr rfl (hH.1 28 (9, 8) rfl) rfl (hH.2 28 3 (some 36) rfl) ?_
                        refine qm_Ru.go 3 (c' := (13, [.ref 28, .int y, .int r, .int 2], [.int 2, .int r, .int y, .ref 36], h)) rfl ?_
                        refine qm_Ru.call (j := 75) (as := [.int y, .int r, .int 2]) (c' := (16, [.ref 28, .int y, .int r, .int 2], [.ref 36], h)) rfl rfl rfl ?_
                        refine qm_Ru.go 3 (c' := (3, [.int y, .int r, .int 2], [.int (y * 4)], h)) rfl ?_
                        obtain ⟨v60, q_v60, e_v60⟩ := hk_mul (x := y) (y := 4) (a := y.toInt) (b := 4) rfl rfl (by omega) (by omega)
                        rw [q_v60]
                        refine qm_Ru.go 2 (c' := (5, [.int y, .int r, .int 2], [.int (v60 + r)], h)) rfl ?_
                        obtain ⟨v61, q_v61, e_v61⟩ := hk_add (x := v60) (y := r) (a := v60.toInt) (b := r.toInt) rfl rfl (by omega) (by omega)
                        rw [q_v61]
                        refine qm_Ru.go 2 (c' := (7, [.int y, .int r, .int 2], [.int (v61 * 4)], h)) rfl ?_
                        obtain ⟨v62, q_v62, e_v62⟩ := hk_mul (x := v61) (y := 4) (a := v61.toInt) (b := 4) rfl rfl (by omega) (by omega)
                        rw [q_v62]
                        refine qm_Ru.go 2 (c' := (9, [.int y, .int r, .int 2], [.int (v62 + 2)], h)) rfl ?_
                        obtain ⟨v63, q_v63, e_v63⟩ := hk_add (x := v62) (y := 2) (a := v62.toInt) (b := 2) rfl rfl (by omega) (by omega)
                        rw [q_v63]
                        refine qm_Ru.rt (v := (some (.int v63))) (h' := h) rfl ?_
                        refine qm_Ru.go 0 (c' := (16, [.ref 28, .int y, .int r, .int 2], [.int v63, .ref 36], h)) rfl ?_
                        obtain ⟨v64, q_v64⟩ : ∃ v, h.2.1 36 (v63.toInt.toNat) = v := ⟨_, rfl⟩
                        have b_v64 : (-1 : Int) ≤ v64.toInt ∧ v64.toInt ≤ 29 := by rw [← q_v64]; exact hB 36 (v63.toInt.toNat)
                        refine hk_ial (v := v64) rfl (hH.1 36 (0, 80) rfl) (by omega) (by omega) q_v64 ?_
                        refine qm_Ru.go 1 (c' := (18, [.ref 28, .int y, .int r, .int 2], [.int (-1), .int v64], h)) rfl ?_
                        refine hk_cne (ix := v64.toInt) (iy := (-1)) rfl rfl rfl (fun z65 => ?_) (fun z65 => ?_)
                        · refine qm_Ru.go 1 (c' := (24, [.ref 28, .int y, .int r, .int 2], [.ref 28], h)) rfl ?_
                          refine hk_getr rfl (hH.1 28 (9, 8) rfl) rfl (hH.2 28 3 (some 36) rfl) ?_
                          refine qm_Ru.go 5 (c' := (32, [.ref 28, .int y, .int r, .int 2], [.int 3, .int r, .int y, .ref 36], h)) rfl ?_
                          refine qm_Ru.call (j := 75) (as := [.int y, .int r, .int 3]) (c' := (35, [.ref 28, .int y, .int r, .int 2], [.ref 36], h)) rfl rfl rfl ?_
                          refine qm_Ru.go 3 (c' := (3, [.int y, .int r, .int 3], [.int (y * 4)], h)) rfl ?_
                          rw [q_v60]
                          refine qm_Ru.go 2 (c' := (5, [.int y, .int r, .int 3], [.int (v60 + r)], h)) rfl ?_
                          rw [q_v61]
                          refine qm_Ru.go 2 (c' := (7, [.int y, .int r, .int 3], [.int (v61 * 4)], h)) rfl ?_
                          rw [q_v62]
                          refine qm_Ru.go 2 (c' := (9, [.int y, .int r, .int 3], [.int (v62 + 3)], h)) rfl ?_
                          obtain ⟨v69, q_v69, e_v69⟩ := hk_add (x := v62) (y := 3) (a := v62.toInt) (b := 3) rfl rfl (by omega) (by omega)
                          rw [q_v69]
                          refine qm_Ru.rt (v := (some (.int v69))) (h' := h) rfl ?_
                          refine qm_Ru.go 0 (c' := (35, [.ref 28, .int y, .int r, .int 2], [.int v69, .ref 36], h)) rfl ?_
                          obtain ⟨v70, q_v70⟩ : ∃ v, h.2.1 36 (v69.toInt.toNat) = v := ⟨_, rfl⟩
                          have b_v70 : (-1 : Int) ≤ v70.toInt ∧ v70.toInt ≤ 29 := by rw [← q_v70]; exact hB 36 (v69.toInt.toNat)
                          refine hk_ial (v := v70) rfl (hH.1 36 (0, 80) rfl) (by omega) (by omega) q_v70 ?_
                          refine qm_Ru.go 1 (c' := (37, [.ref 28, .int y, .int r, .int 2], [.int (-1), .int v70], h)) rfl ?_
                          refine hk_cne (ix := v70.toInt) (iy := (-1)) rfl rfl rfl (fun z71 => ?_) (fun z71 => ?_)
                          · refine qm_Ru.go 1 (c' := (47, [.ref 28, .int y, .int r, .int 2], [.int (-1)], h)) rfl ?_
                            refine qm_Ru.rt (v := (some (.int (-1)))) (h' := h) rfl ?_
                            refine qm_Ru.go 5 (c' := (34, [.ref 28, .int b, .int y, .int r, .int (-1), .float 0], [.int (-1)], h)) rfl ?_
                            refine qm_Ru.rt (v := (some (.int (-1)))) (h' := h) rfl ?_
                            exact k0 (-1) h.2.2.1 (by decide) (by decide)
                          · refine qm_Ru.go 4 (c' := (47, [.ref 28, .int y, .int r, .int 2], [.int 3], h)) rfl ?_
                            refine qm_Ru.rt (v := (some (.int 3))) (h' := h) rfl ?_
                            refine qm_Ru.go 5 (c' := (36, [.ref 28, .int b, .int y, .int r, .int 3, .float 0], [.ref 28], h)) rfl ?_
                            refine hk_getr rfl (hH.1 28 (9, 8) rfl) rfl (hH.2 28 0 (some 6) rfl) ?_
                            refine qm_Ru.go 0 (c' := (39, [.ref 28, .int b, .int y, .int r, .int 3, .float 0], [.ref 6], h)) rfl ?_
                            refine hk_getr rfl (hH.1 6 (6, 9) rfl) rfl (hH.2 6 1 (some 7) rfl) ?_
                            refine qm_Ru.go 1 (c' := (43, [.ref 28, .int b, .int y, .int r, .int 3, .float 0], [.int b, .ref 7], h)) rfl ?_
                            obtain ⟨v72, q_v72⟩ : ∃ v, h.2.1 7 (b.toInt.toNat) = v := ⟨_, rfl⟩
                            have b_v72 : (0 : Int) ≤ v72.toInt ∧ v72.toInt ≤ 40 := by rw [← q_v72]; exact hB 7 (b.toInt.toNat)
                            refine hk_ial (v := v72) rfl (hH.1 7 (0, 30) rfl) (by omega) (by omega) q_v72 ?_
                            refine qm_Ru.go 3 (c' := (49, [.ref 28, .int b, .int y, .int r, .int 3, .int v72], [.ref 28, .int v72], h)) rfl ?_
                            refine hk_getr rfl (hH.1 28 (9, 8) rfl) rfl hT.2 ?_
                            refine qm_Ru.go 0 (c' := (52, [.ref 28, .int b, .int y, .int r, .int 3, .int v72], [.ref 111, .int v72], h)) rfl ?_
                            obtain ⟨v73, q_v73⟩ : ∃ v, h.2.1 111 4 = v := ⟨_, rfl⟩
                            refine hk_geti (v := v73) rfl (hH.1 111 (11, 16) rfl) rfl q_v73 ?_
                            refine qm_Ru.go 0 (c' := (55, [.ref 28, .int b, .int y, .int r, .int 3, .int v72], [.int v73, .int v72], h)) rfl ?_
                            refine hk_cle (ix := v72.toInt) (iy := v73.toInt) rfl rfl rfl (fun z74 => ?_) (fun z74 => ?_)
                            · refine qm_Ru.go 4 (c' := (66, [.ref 28, .int b, .int y, .int r, .int 3, .int v72], [.int v72, .int r, .int y, .ref 28], h)) rfl ?_
                              refine hk_inv (o := 28) (r := []) (as := [.ref 28, .int y, .int r, .int v72]) rfl rfl (hH.1 28 (9, 8) rfl) rfl rfl rfl rfl (hs_borne111 h6 hH hT hB (v_C_ru hV) ⟨by show (0 : Int) ≤ y.toInt; omega, by show y.toInt ≤ (4 : Int); omega⟩ ⟨by show (0 : Int) ≤ r.toInt; omega, by show r.toInt ≤ (3 : Int); omega⟩ (qa_in_full _) (by omega) (fun v75 I76 J77 c_v75 _ e_I76 => ?_))
                              have e_I76 : I76 = h.2.1 := funext fun o => funext fun i => e_I76 o rfl i
                              subst e_I76
                              have b_v75 : (0 : Int) ≤ v75.toInt ∧ v75.toInt ≤ 1 := c_v75
                              refine qm_Ru.go 0 (c' := (69, [.ref 28, .int b, .int y, .int r, .int 3, .int v72], [.int v75], (h.1, h.2.1, J77, h.2.2.2))) rfl ?_
                              refine hk_zne (ix := v75.toInt) rfl rfl (fun z78 => ?_) (fun z78 => ?_)
                              · refine qm_Ru.go 2 (c' := (90, [.ref 28, .int b, .int y, .int r, .int 3, .int v72], [.int 3], (h.1, h.2.1, J77, h.2.2.2))) rfl ?_
                                refine qm_Ru.rt (v := (some (.int 3))) (h' := (h.1, h.2.1, J77, h.2.2.2)) rfl ?_
                                exact k1 3 J77 (t_free1 (t := 3) (by omega) (by omega) (by decide) q_v70 (by omega) (by omega) q_v64 (by omega) (by omega)) (t_had2 (by omega) q_v8 (by omega) q_v12 (by omega) q_v14 q_v15 rfl (by omega) q_v20 (by omega) (by omega))
                              · refine qm_Ru.go 4 (c' := (77, [.ref 28, .int b, .int y, .int r, .int 3, .int v72], [.int v72, .int r, .int y, .ref 28], (h.1, h.2.1, J77, h.2.2.2))) rfl ?_
                                refine hk_inv (o := 28) (r := []) (as := [.ref 28, .int y, .int r, .int v72]) rfl rfl (hH.1 28 (9, 8) rfl) rfl rfl rfl rfl (hs_nowor111 h6 hH hT hB (v_C_ru hV) ⟨by show (0 : Int) ≤ y.toInt; omega, by show y.toInt ≤ (4 : Int); omega⟩ ⟨by show (0 : Int) ≤ r.toInt; omega, by show r.toInt ≤ (3 : Int); omega⟩ (qa_in_full _) (by omega) (fun v79 I80 J81 c_v79 _ e_I80 => ?_))
                                have e_I80 : I80 = h.2.1 := funext fun o => funext fun i => e_I80 o rfl i
                                subst e_I80
                                have b_v79 : (0 : Int) ≤ v79.toInt ∧ v79.toInt ≤ 1 := c_v79
                                refine qm_Ru.go 0 (c' := (80, [.ref 28, .int b, .int y, .int r, .int 3, .int v72], [.int v79], (h.1, h.2.1, J81, h.2.2.2))) rfl ?_
                                refine hk_zeq (ix := v79.toInt) rfl rfl (fun z82 => ?_) (fun z82 => ?_)
                                · refine qm_Ru.go 1 (c' := (90, [.ref 28, .int b, .int y, .int r, .int 3, .int v72], [.int (-3)], (h.1, h.2.1, J81, h.2.2.2))) rfl ?_
                                  refine qm_Ru.rt (v := (some (.int (-3)))) (h' := (h.1, h.2.1, J81, h.2.2.2)) rfl ?_
                                  exact k0 (-3) J81 (by decide) (by decide)
                                · refine qm_Ru.go 2 (c' := (90, [.ref 28, .int b, .int y, .int r, .int 3, .int v72], [.int 3], (h.1, h.2.1, J81, h.2.2.2))) rfl ?_
                                  refine qm_Ru.rt (v := (some (.int 3))) (h' := (h.1, h.2.1, J81, h.2.2.2)) rfl ?_
                                  exact k1 3 J81 (t_free1 (t := 3) (by omega) (by omega) (by decide) q_v70 (by omega) (by omega) q_v64 (by omega) (by omega)) (t_had2 (by omega) q_v8 (by omega) q_v12 (by omega) q_v14 q_v15 rfl (by omega) q_v20 (by omega) (by omega))
                            · refine qm_Ru.go 1 (c' := (60, [.ref 28, .int b, .int y, .int r, .int 3, .int v72], [.int (-2)], h)) rfl ?_
                              refine qm_Ru.rt (v := (some (.int (-2)))) (h' := h) rfl ?_
                              exact k0 (-2) h.2.2.1 (by decide) (by decide)
                        · refine qm_Ru.go 1 (c' := (22, [.ref 28, .int y, .int r, .int 2], [.int 2], h)) rfl ?_
                          refine qm_Ru.rt (v := (some (.int 2))) (h' := h) rfl ?_
                          refine qm_Ru.go 5 (c' := (36, [.ref 28, .int b, .int y, .int r, .int 2, .float 0], [.ref 28], h)) rfl ?_
                          refine hk_getr rfl (hH.1 28 (9, 8) rfl) rfl (hH.2 28 0 (some 6) rfl) ?_
                          refine qm_Ru.go 0 (c' := (39, [.ref 28, .int b, .int y, .int r, .int 2, .float 0], [.ref 6], h)) rfl ?_
                          refine hk_getr rfl (hH.1 6 (6, 9) rfl) rfl (hH.2 6 1 (some 7) rfl) ?_
                          refine qm_Ru.go 1 (c' := (43, [.ref 28, .int b, .int y, .int r, .int 2, .float 0], [.int b, .ref 7], h)) rfl ?_
                          obtain ⟨v83, q_v83⟩ : ∃ v, h.2.1 7 (b.toInt.toNat) = v := ⟨_, rfl⟩
                          have b_v83 : (0 : Int) ≤ v83.toInt ∧ v83.toInt ≤ 40 := by rw [← q_v83]; exact hB 7 (b.toInt.toNat)
                          refine hk_ial (v := v83) rfl (hH.1 7 (0, 30) rfl) (by omega) (by omega) q_v83 ?_
                          refine qm_Ru.go 3 (c' := (49, [.ref 28, .int b, .int y, .int r, .int 2, .int v83], [.ref 28, .int v83], h)) rfl ?_
                          refine hk_getr rfl (hH.1 28 (9, 8) rfl) rfl hT.2 ?_
                          refine qm_Ru.go 0 (c' := (52, [.ref 28, .int b, .int y, .int r, .int 2, .int v83], [.ref 111, .int v83], h)) rfl ?_
                          obtain ⟨v84, q_v84⟩ : ∃ v, h.2.1 111 4 = v := ⟨_, rfl⟩
                          refine hk_geti (v := v84) rfl (hH.1 111 (11, 16) rfl) rfl q_v84 ?_
                          refine qm_Ru.go 0 (c' := (55, [.ref 28, .int b, .int y, .int r, .int 2, .int v83], [.int v84, .int v83], h)) rfl ?_
                          refine hk_cle (ix := v83.toInt) (iy := v84.toInt) rfl rfl rfl (fun z85 => ?_) (fun z85 => ?_)
                          · refine qm_Ru.go 4 (c' := (66, [.ref 28, .int b, .int y, .int r, .int 2, .int v83], [.int v83, .int r, .int y, .ref 28], h)) rfl ?_
                            refine hk_inv (o := 28) (r := []) (as := [.ref 28, .int y, .int r, .int v83]) rfl rfl (hH.1 28 (9, 8) rfl) rfl rfl rfl rfl (hs_borne111 h6 hH hT hB (v_C_ru hV) ⟨by show (0 : Int) ≤ y.toInt; omega, by show y.toInt ≤ (4 : Int); omega⟩ ⟨by show (0 : Int) ≤ r.toInt; omega, by show r.toInt ≤ (3 : Int); omega⟩ (qa_in_full _) (by omega) (fun v86 I87 J88 c_v86 _ e_I87 => ?_))
                            have e_I87 : I87 = h.2.1 := funext fun o => funext fun i => e_I87 o rfl i
                            subst e_I87
                            have b_v86 : (0 : Int) ≤ v86.toInt ∧ v86.toInt ≤ 1 := c_v86
                            refine qm_Ru.go 0 (c' := (69, [.ref 28, .int b, .int y, .int r, .int 2, .int v83], [.int v86], (h.1, h.2.1, J88, h.2.2.2))) rfl ?_
                            refine hk_zne (ix := v86.toInt) rfl rfl (fun z89 => ?_) (fun z89 => ?_)
                            · refine qm_Ru.go 2 (c' := (90, [.ref 28, .int b, .int y, .int r, .int 2, .int v83], [.int 2], (h.1, h.2.1, J88, h.2.2.2))) rfl ?_
                              refine qm_Ru.rt (v := (some (.int 2))) (h' := (h.1, h.2.1, J88, h.2.2.2)) rfl ?_
                              exact k1 2 J88 (t_free0 (t := 2) (by omega) (by omega) (by decide) q_v64 (by omega) (by omega)) (t_had2 (by omega) q_v8 (by omega) q_v12 (by omega) q_v14 q_v15 rfl (by omega) q_v20 (by omega) (by omega))
                            · refine qm_Ru.go 4 (c' := (77, [.ref 28, .int b, .int y, .int r, .int 2, .int v83], [.int v83, .int r, .int y, .ref 28], (h.1, h.2.1, J88, h.2.2.2))) rfl ?_
                              refine hk_inv (o := 28) (r := []) (as := [.ref 28, .int y, .int r, .int v83]) rfl rfl (hH.1 28 (9, 8) rfl) rfl rfl rfl rfl (hs_nowor111 h6 hH hT hB (v_C_ru hV) ⟨by show (0 : Int) ≤ y.toInt; omega, by show y.toInt ≤ (4 : Int); omega⟩ ⟨by show (0 : Int) ≤ r.toInt; omega, by show r.toInt ≤ (3 : Int); omega⟩ (qa_in_full _) (by omega) (fun v90 I91 J92 c_v90 _ e_I91 => ?_))
                              have e_I91 : I91 = h.2.1 := funext fun o => funext fun i => e_I91 o rfl i
                              subst e_I91
                              have b_v90 : (0 : Int) ≤ v90.toInt ∧ v90.toInt ≤ 1 := c_v90
                              refine qm_Ru.go 0 (c' := (80, [.ref 28, .int b, .int y, .int r, .int 2, .int v83], [.int v90], (h.1, h.2.1, J92, h.2.2.2))) rfl ?_
                              refine hk_zeq (ix := v90.toInt) rfl rfl (fun z93 => ?_) (fun z93 => ?_)
                              · refine qm_Ru.go 1 (c' := (90, [.ref 28, .int b, .int y, .int r, .int 2, .int v83], [.int (-3)], (h.1, h.2.1, J92, h.2.2.2))) rfl ?_
                                refine qm_Ru.rt (v := (some (.int (-3)))) (h' := (h.1, h.2.1, J92, h.2.2.2)) rfl ?_
                                exact k0 (-3) J92 (by decide) (by decide)
                              · refine qm_Ru.go 2 (c' := (90, [.ref 28, .int b, .int y, .int r, .int 2, .int v83], [.int 2], (h.1, h.2.1, J92, h.2.2.2))) rfl ?_
                                refine qm_Ru.rt (v := (some (.int 2))) (h' := (h.1, h.2.1, J92, h.2.2.2)) rfl ?_
                                exact k1 2 J92 (t_free0 (t := 2) (by omega) (by omega) (by decide) q_v64 (by omega) (by omega)) (t_had2 (by omega) q_v8 (by omega) q_v12 (by omega) q_v14 q_v15 rfl (by omega) q_v20 (by omega) (by omega))
                          · refine qm_Ru.go 1 (c' := (60, [.ref 28, .int b, .int y, .int r, .int 2, .int v83], [.int (-2)], h)) rfl ?_
                            refine qm_Ru.rt (v := (some (.int (-2)))) (h' := h) rfl ?_
                            exact k0 (-2) h.2.2.1 (by decide) (by decide)
                  · refine qm_Ru.go 2 (c' := (30, [.ref 15, .int v14], [.int (-1)], h)) rfl ?_
                    refine qm_Ru.rt (v := (some (.int (-1)))) (h' := h) rfl ?_
                    refine qm_Ru.go 1 (c' := (39, [.ref 28, .int b], [.int b, .int (-1)], h)) rfl ?_
                    refine hk_cne (ix := (-1)) (iy := b.toInt) rfl rfl rfl (fun z94 => ?_) (fun z94 => by exfalso; omega)
                    refine qm_Ru.go 1 (c' := (47, [.ref 28, .int b], [.int 0], h)) rfl ?_
                    refine qm_Ru.rt (v := (some (.int 0))) (h' := h) rfl ?_
                    refine qm_Ru.go 2 (c' := (18, [.ref 28, .int b, .int y, .int r, .float 0, .float 0], [.int (-1)], h)) rfl ?_
                    refine qm_Ru.rt (v := (some (.int (-1)))) (h' := h) rfl ?_
                    exact k0 (-1) h.2.2.1 (by decide) (by decide)
            · refine qm_Ru.go 2 (c' := (17, [.ref 6, .int b], [.int 1], h)) rfl ?_
              refine qm_Ru.rt (v := (some (.int 1))) (h' := h) rfl ?_
              refine qm_Ru.go 2 (c' := (9, [.ref 6, .int b], [.ref 6], h)) rfl ?_
              refine hk_getr rfl (hH.1 6 (6, 9) rfl) rfl (hH.2 6 5 (some 11) rfl) ?_
              refine qm_Ru.go 1 (c' := (13, [.ref 6, .int b], [.int b, .ref 11], h)) rfl ?_
              obtain ⟨v95, q_v95⟩ : ∃ v, h.2.1 11 (b.toInt.toNat) = v := ⟨_, rfl⟩
              have b_v95 : (0 : Int) ≤ v95.toInt ∧ v95.toInt ≤ 2 := by rw [← q_v95]; exact hB 11 (b.toInt.toNat)
              refine hk_ial (v := v95) rfl (hH.1 11 (0, 30) rfl) (by omega) (by omega) q_v95 ?_
              refine qm_Ru.go 0 (c' := (14, [.ref 6, .int b], [.int v95], h)) rfl ?_
              refine hk_zne (ix := v95.toInt) rfl rfl (fun z96 => ?_) (fun z96 => ?_)
              · refine qm_Ru.go 1 (c' := (22, [.ref 6, .int b], [.int 0], h)) rfl ?_
                refine qm_Ru.rt (v := (some (.int 0))) (h' := h) rfl ?_
                refine qm_Ru.go 2 (c' := (12, [.ref 28, .int b], [.ref 28], h)) rfl ?_
                refine hk_getr rfl (hH.1 28 (9, 8) rfl) rfl (hH.2 28 0 (some 6) rfl) ?_
                refine qm_Ru.go 1 (c' := (16, [.ref 28, .int b], [.int b, .ref 6], h)) rfl ?_
                refine hk_inv (o := 6) (r := []) (as := [.ref 6, .int b]) rfl rfl (hH.1 6 (6, 9) rfl) rfl rfl rfl rfl ?_
                refine qm_Ru.go 2 (c' := (2, [.ref 6, .int b], [.int b, .ref 6], h)) rfl ?_
                refine hk_inv (o := 6) (r := []) (as := [.ref 6, .int b]) rfl rfl (hH.1 6 (6, 9) rfl) rfl rfl rfl rfl ?_
                refine qm_Ru.go 1 (c' := (1, [.ref 6, .int b], [.int b], h)) rfl ?_
                refine hk_zlt (ix := b.toInt) rfl rfl (fun z97 => by exfalso; omega) (fun z97 => ?_)
                refine qm_Ru.go 2 (c' := (6, [.ref 6, .int b], [.ref 6, .int b], h)) rfl ?_
                refine hk_geti (v := v8) rfl (hH.1 6 (6, 9) rfl) rfl q_v8 ?_
                refine qm_Ru.go 0 (c' := (9, [.ref 6, .int b], [.int v8, .int b], h)) rfl ?_
                refine hk_cge (ix := b.toInt) (iy := v8.toInt) rfl rfl rfl (fun z98 => ?_) (fun z98 => ?_)
                · refine qm_Ru.go 1 (c' := (17, [.ref 6, .int b], [.int 0], h)) rfl ?_
                  refine qm_Ru.rt (v := (some (.int 0))) (h' := h) rfl ?_
                  refine qm_Ru.go 2 (c' := (23, [.ref 6, .int b], [.int 0], h)) rfl ?_
                  refine qm_Ru.rt (v := (some (.int 0))) (h' := h) rfl ?_
                  refine qm_Ru.go 2 (c' := (47, [.ref 28, .int b], [.int 0], h)) rfl ?_
                  refine qm_Ru.rt (v := (some (.int 0))) (h' := h) rfl ?_
                  refine qm_Ru.go 2 (c' := (18, [.ref 28, .int b, .int y, .int r, .float 0, .float 0], [.int (-1)], h)) rfl ?_
                  refine qm_Ru.rt (v := (some (.int (-1)))) (h' := h) rfl ?_
                  exact k0 (-1) h.2.2.1 (by decide) (by decide)
                · refine qm_Ru.go 2 (c' := (17, [.ref 6, .int b], [.int 1], h)) rfl ?_
                  refine qm_Ru.rt (v := (some (.int 1))) (h' := h) rfl ?_
                  refine qm_Ru.go 2 (c' := (9, [.ref 6, .int b], [.ref 6], h)) rfl ?_
                  refine hk_getr rfl (hH.1 6 (6, 9) rfl) rfl (hH.2 6 5 (some 11) rfl) ?_
                  refine qm_Ru.go 1 (c' := (13, [.ref 6, .int b], [.int b, .ref 11], h)) rfl ?_
                  refine hk_ial (v := v95) rfl (hH.1 11 (0, 30) rfl) (by omega) (by omega) q_v95 ?_
                  refine qm_Ru.go 1 (c' := (15, [.ref 6, .int b], [.int 1, .int v95], h)) rfl ?_
                  refine hk_ceq (ix := v95.toInt) (iy := 1) rfl rfl rfl (fun z99 => ?_) (fun z99 => ?_)
                  · refine qm_Ru.go 1 (c' := (23, [.ref 6, .int b], [.int 0], h)) rfl ?_
                    refine qm_Ru.rt (v := (some (.int 0))) (h' := h) rfl ?_
                    refine qm_Ru.go 2 (c' := (47, [.ref 28, .int b], [.int 0], h)) rfl ?_
                    refine qm_Ru.rt (v := (some (.int 0))) (h' := h) rfl ?_
                    refine qm_Ru.go 2 (c' := (18, [.ref 28, .int b, .int y, .int r, .float 0, .float 0], [.int (-1)], h)) rfl ?_
                    refine qm_Ru.rt (v := (some (.int (-1)))) (h' := h) rfl ?_
                    exact k0 (-1) h.2.2.1 (by decide) (by decide)
                  · refine qm_Ru.go 2 (c' := (23, [.ref 6, .int b], [.int 1], h)) rfl ?_
                    refine qm_Ru.rt (v := (some (.int 1))) (h' := h) rfl ?_
                    refine qm_Ru.go 1 (c' := (22, [.ref 28, .int b], [], h)) rfl ?_
                    obtain ⟨v100, q_v100⟩ : ∃ v, h.2.1 12 (b.toInt.toNat) = v := ⟨_, rfl⟩
                    have b_v100 : (-1 : Int) ≤ v100.toInt ∧ v100.toInt ≤ 4 := by rw [← q_v100]; exact hB 12 (b.toInt.toNat)
                    have r_v100 : (0 : Int) ≤ v100.toInt ∧ v100.toInt ≤ 3 := by rw [← q_v100]; exact ((hV.1.1.2.2.2 (b.toInt.toNat)).2 (show (h.2.1 11 (b.toInt.toNat)).toInt = 2 from by rw [q_v95]; omega)).1
                    refine qm_Ru.go 1 (c' := (23, [.ref 28, .int b], [.ref 28], h)) rfl ?_
                    refine hk_getr rfl (hH.1 28 (9, 8) rfl) rfl (hH.2 28 1 (some 15) rfl) ?_
                    refine qm_Ru.go 1 (c' := (27, [.ref 28, .int b], [.ref 28, .ref 15], h)) rfl ?_
                    refine hk_getr rfl (hH.1 28 (9, 8) rfl) rfl (hH.2 28 0 (some 6) rfl) ?_
                    refine qm_Ru.go 0 (c' := (30, [.ref 28, .int b], [.ref 6, .ref 15], h)) rfl ?_
                    refine hk_getr rfl (hH.1 6 (6, 9) rfl) rfl (hH.2 6 6 (some 12) rfl) ?_
                    refine qm_Ru.go 1 (c' := (34, [.ref 28, .int b], [.int b, .ref 12, .ref 15], h)) rfl ?_
                    refine hk_ial (v := v100) rfl (hH.1 12 (0, 30) rfl) (by omega) (by omega) q_v100 ?_
                    refine qm_Ru.go 0 (c' := (35, [.ref 28, .int b], [.int v100, .ref 15], h)) rfl ?_
                    refine hk_inv (o := 15) (r := []) (as := [.ref 15, .int v100]) rfl rfl (hH.1 15 (15, 8) rfl) rfl rfl rfl rfl ?_
                    refine qm_Ru.go 1 (c' := (1, [.ref 15, .int v100], [.ref 15], h)) rfl ?_
                    refine hk_getr rfl (hH.1 15 (15, 8) rfl) rfl (hH.2 15 2 (some 17) rfl) ?_
                    refine qm_Ru.go 1 (c' := (5, [.ref 15, .int v100], [.int v100, .ref 17], h)) rfl ?_
                    obtain ⟨v101, q_v101⟩ : ∃ v, h.2.1 17 (v100.toInt.toNat) = v := ⟨_, rfl⟩
                    have b_v101 : (0 : Int) ≤ v101.toInt ∧ v101.toInt ≤ 4 := by rw [← q_v101]; exact hB 17 (v100.toInt.toNat)
                    refine hk_ial (v := v101) rfl (hH.1 17 (0, 4) rfl) (by omega) (by omega) q_v101 ?_
                    refine qm_Ru.go 0 (c' := (6, [.ref 15, .int v100], [.int v101], h)) rfl ?_
                    refine hk_zne (ix := v101.toInt) rfl rfl (fun z102 => ?_) (fun z102 => ?_)
                    · refine qm_Ru.go 1 (c' := (14, [.ref 15, .int v100], [.ref 15], h)) rfl ?_
                      refine hk_getr rfl (hH.1 15 (15, 8) rfl) rfl (hH.2 15 1 (some 16) rfl) ?_
                      refine qm_Ru.go 3 (c' := (20, [.ref 15, .int v100], [.int (v100 * 4), .ref 16], h)) rfl ?_
                      obtain ⟨v103, q_v103, e_v103⟩ := hk_mul (x := v100) (y := 4) (a := v100.toInt) (b := 4) rfl rfl (by omega) (by omega)
                      rw [q_v103]
                      refine qm_Ru.go 1 (c' := (21, [.ref 15, .int v100], [.ref 15, .int v103, .ref 16], h)) rfl ?_
                      refine hk_getr rfl (hH.1 15 (15, 8) rfl) rfl (hH.2 15 2 (some 17) rfl) ?_
                      refine qm_Ru.go 1 (c' := (25, [.ref 15, .int v100], [.int v100, .ref 17, .int v103, .ref 16], h)) rfl ?_
                      refine hk_ial (v := v101) rfl (hH.1 17 (0, 4) rfl) (by omega) (by omega) q_v101 ?_
                      refine qm_Ru.go 1 (c' := (27, [.ref 15, .int v100], [.int (v103 + v101), .ref 16], h)) rfl ?_
                      obtain ⟨v104, q_v104, e_v104⟩ := hk_add (x := v103) (y := v101) (a := v103.toInt) (b := v101.toInt) rfl rfl (by omega) (by omega)
                      rw [q_v104]
                      refine qm_Ru.go 2 (c' := (29, [.ref 15, .int v100], [.int (v104 - 1), .ref 16], h)) rfl ?_
                      obtain ⟨v105, q_v105, e_v105⟩ := hk_sub (x := v104) (y := 1) (a := v104.toInt) (b := 1) rfl rfl (by omega) (by omega)
                      rw [q_v105]
                      obtain ⟨v106, q_v106⟩ : ∃ v, h.2.1 16 (v105.toInt.toNat) = v := ⟨_, rfl⟩
                      have b_v106 : (0 : Int) ≤ v106.toInt ∧ v106.toInt ≤ 29 := by rw [← q_v106]; exact hB 16 (v105.toInt.toNat)
                      refine hk_ial (v := v106) rfl (hH.1 16 (0, 16) rfl) (by omega) (by omega) q_v106 ?_
                      refine qm_Ru.go 0 (c' := (30, [.ref 15, .int v100], [.int v106], h)) rfl ?_
                      refine qm_Ru.rt (v := (some (.int v106))) (h' := h) rfl ?_
                      refine qm_Ru.go 1 (c' := (39, [.ref 28, .int b], [.int b, .int v106], h)) rfl ?_
                      refine hk_cne (ix := v106.toInt) (iy := b.toInt) rfl rfl rfl (fun z107 => ?_) (fun z107 => ?_)
                      · refine qm_Ru.go 1 (c' := (47, [.ref 28, .int b], [.int 0], h)) rfl ?_
                        refine qm_Ru.rt (v := (some (.int 0))) (h' := h) rfl ?_
                        refine qm_Ru.go 2 (c' := (18, [.ref 28, .int b, .int y, .int r, .float 0, .float 0], [.int (-1)], h)) rfl ?_
                        refine qm_Ru.rt (v := (some (.int (-1)))) (h' := h) rfl ?_
                        exact k0 (-1) h.2.2.1 (by decide) (by decide)
                      · refine qm_Ru.go 2 (c' := (47, [.ref 28, .int b], [.int 1], h)) rfl ?_
                        refine qm_Ru.rt (v := (some (.int 1))) (h' := h) rfl ?_
                        refine qm_Ru.go 4 (c' := (22, [.ref 28, .int b, .int y, .int r, .float 0, .float 0], [.int r, .int y, .ref 28], h)) rfl ?_
                        refine hk_inv (o := 28) (r := []) (as := [.ref 28, .int y, .int r]) rfl rfl (hH.1 28 (9, 8) rfl) rfl rfl rfl rfl ?_
                        refine qm_Ru.go 2 (c' := (2, [.ref 28, .int y, .int r, .float 0], [.int y, .ref 28], h)) rfl ?_
                        refine hk_inv (o := 28) (r := []) (as := [.ref 28, .int y]) rfl rfl (hH.1 28 (9, 8) rfl) rfl rfl rfl rfl ?_
                        refine qm_Ru.go 2 (c' := (2, [.ref 28, .int y], [.int y, .ref 28], h)) rfl ?_
                        refine hk_inv (o := 28) (r := []) (as := [.ref 28, .int y]) rfl rfl (hH.1 28 (9, 8) rfl) rfl rfl rfl rfl ?_
                        refine qm_Ru.go 1 (c' := (1, [.ref 28, .int y], [.ref 28], h)) rfl ?_
                        obtain ⟨v108, q_v108⟩ : ∃ v, h.2.1 28 4 = v := ⟨_, rfl⟩
                        refine hk_geti (v := v108) rfl (hH.1 28 (9, 8) rfl) rfl q_v108 ?_
                        refine qm_Ru.go 2 (c' := (6, [.ref 28, .int y], [.int (v108 >>> (y &&& 31))], h)) rfl ?_
                        obtain ⟨v109, q_v109⟩ : ∃ v, (v108 >>> (y &&& 31)) = v := ⟨_, rfl⟩
                        rw [q_v109]
                        refine qm_Ru.go 2 (c' := (8, [.ref 28, .int y], [.int (v109 &&& 1)], h)) rfl ?_
                        obtain ⟨v110, q_v110⟩ : ∃ v, (v109 &&& 1) = v := ⟨_, rfl⟩
                        rw [q_v110]
                        refine qm_Ru.go 1 (c' := (9, [.ref 28, .int y], [.int 1, .int v110], h)) rfl ?_
                        refine hk_cne (ix := v110.toInt) (iy := 1) rfl rfl rfl (fun z111 => ?_) (fun z111 => ?_)
                        · refine qm_Ru.go 1 (c' := (17, [.ref 28, .int y], [.int 0], h)) rfl ?_
                          refine qm_Ru.rt (v := (some (.int 0))) (h' := h) rfl ?_
                          refine qm_Ru.go 2 (c' := (13, [.ref 28, .int y], [.int 0], h)) rfl ?_
                          refine qm_Ru.rt (v := (some (.int 0))) (h' := h) rfl ?_
                          refine qm_Ru.go 2 (c' := (7, [.ref 28, .int y, .int r, .int 0], [.ref 28], h)) rfl ?_
                          refine hk_getr rfl (hH.1 28 (9, 8) rfl) rfl (hH.2 28 3 (some 36) rfl) ?_
                          refine qm_Ru.go 3 (c' := (13, [.ref 28, .int y, .int r, .int 0], [.int 0, .int r, .int y, .ref 36], h)) rfl ?_
                          refine qm_Ru.call (j := 75) (as := [.int y, .int r, .int 0]) (c' := (16, [.ref 28, .int y, .int r, .int 0], [.ref 36], h)) rfl rfl rfl ?_
                          refine qm_Ru.go 3 (c' := (3, [.int y, .int r, .int 0], [.int (y * 4)], h)) rfl ?_
                          obtain ⟨v112, q_v112, e_v112⟩ := hk_mul (x := y) (y := 4) (a := y.toInt) (b := 4) rfl rfl (by omega) (by omega)
                          rw [q_v112]
                          refine qm_Ru.go 2 (c' := (5, [.int y, .int r, .int 0], [.int (v112 + r)], h)) rfl ?_
                          obtain ⟨v113, q_v113, e_v113⟩ := hk_add (x := v112) (y := r) (a := v112.toInt) (b := r.toInt) rfl rfl (by omega) (by omega)
                          rw [q_v113]
                          refine qm_Ru.go 2 (c' := (7, [.int y, .int r, .int 0], [.int (v113 * 4)], h)) rfl ?_
                          obtain ⟨v114, q_v114, e_v114⟩ := hk_mul (x := v113) (y := 4) (a := v113.toInt) (b := 4) rfl rfl (by omega) (by omega)
                          rw [q_v114]
                          refine qm_Ru.go 2 (c' := (9, [.int y, .int r, .int 0], [.int (v114 + 0)], h)) rfl ?_
                          obtain ⟨v115, q_v115, e_v115⟩ := hk_add (x := v114) (y := 0) (a := v114.toInt) (b := 0) rfl rfl (by omega) (by omega)
                          rw [q_v115]
                          refine qm_Ru.rt (v := (some (.int v115))) (h' := h) rfl ?_
                          refine qm_Ru.go 0 (c' := (16, [.ref 28, .int y, .int r, .int 0], [.int v115, .ref 36], h)) rfl ?_
                          obtain ⟨v116, q_v116⟩ : ∃ v, h.2.1 36 (v115.toInt.toNat) = v := ⟨_, rfl⟩
                          have b_v116 : (-1 : Int) ≤ v116.toInt ∧ v116.toInt ≤ 29 := by rw [← q_v116]; exact hB 36 (v115.toInt.toNat)
                          refine hk_ial (v := v116) rfl (hH.1 36 (0, 80) rfl) (by omega) (by omega) q_v116 ?_
                          refine qm_Ru.go 1 (c' := (18, [.ref 28, .int y, .int r, .int 0], [.int (-1), .int v116], h)) rfl ?_
                          refine hk_cne (ix := v116.toInt) (iy := (-1)) rfl rfl rfl (fun z117 => ?_) (fun z117 => ?_)
                          · refine qm_Ru.go 1 (c' := (24, [.ref 28, .int y, .int r, .int 0], [.ref 28], h)) rfl ?_
                            refine hk_getr rfl (hH.1 28 (9, 8) rfl) rfl (hH.2 28 3 (some 36) rfl) ?_
                            refine qm_Ru.go 5 (c' := (32, [.ref 28, .int y, .int r, .int 0], [.int 1, .int r, .int y, .ref 36], h)) rfl ?_
                            refine qm_Ru.call (j := 75) (as := [.int y, .int r, .int 1]) (c' := (35, [.ref 28, .int y, .int r, .int 0], [.ref 36], h)) rfl rfl rfl ?_
                            refine qm_Ru.go 3 (c' := (3, [.int y, .int r, .int 1], [.int (y * 4)], h)) rfl ?_
                            rw [q_v112]
                            refine qm_Ru.go 2 (c' := (5, [.int y, .int r, .int 1], [.int (v112 + r)], h)) rfl ?_
                            rw [q_v113]
                            refine qm_Ru.go 2 (c' := (7, [.int y, .int r, .int 1], [.int (v113 * 4)], h)) rfl ?_
                            rw [q_v114]
                            refine qm_Ru.go 2 (c' := (9, [.int y, .int r, .int 1], [.int (v114 + 1)], h)) rfl ?_
                            obtain ⟨v121, q_v121, e_v121⟩ := hk_add (x := v114) (y := 1) (a := v114.toInt) (b := 1) rfl rfl (by omega) (by omega)
                            rw [q_v121]
                            refine qm_Ru.rt (v := (some (.int v121))) (h' := h) rfl ?_
                            refine qm_Ru.go 0 (c' := (35, [.ref 28, .int y, .int r, .int 0], [.int v121, .ref 36], h)) rfl ?_
                            obtain ⟨v122, q_v122⟩ : ∃ v, h.2.1 36 (v121.toInt.toNat) = v := ⟨_, rfl⟩
                            have b_v122 : (-1 : Int) ≤ v122.toInt ∧ v122.toInt ≤ 29 := by rw [← q_v122]; exact hB 36 (v121.toInt.toNat)
                            refine hk_ial (v := v122) rfl (hH.1 36 (0, 80) rfl) (by omega) (by omega) q_v122 ?_
                            refine qm_Ru.go 1 (c' := (37, [.ref 28, .int y, .int r, .int 0], [.int (-1), .int v122], h)) rfl ?_
                            refine hk_cne (ix := v122.toInt) (iy := (-1)) rfl rfl rfl (fun z123 => ?_) (fun z123 => ?_)
                            · refine qm_Ru.go 1 (c' := (47, [.ref 28, .int y, .int r, .int 0], [.int (-1)], h)) rfl ?_
                              refine qm_Ru.rt (v := (some (.int (-1)))) (h' := h) rfl ?_
                              refine qm_Ru.go 5 (c' := (34, [.ref 28, .int b, .int y, .int r, .int (-1), .float 0], [.int (-1)], h)) rfl ?_
                              refine qm_Ru.rt (v := (some (.int (-1)))) (h' := h) rfl ?_
                              exact k0 (-1) h.2.2.1 (by decide) (by decide)
                            · refine qm_Ru.go 4 (c' := (47, [.ref 28, .int y, .int r, .int 0], [.int 1], h)) rfl ?_
                              refine qm_Ru.rt (v := (some (.int 1))) (h' := h) rfl ?_
                              refine qm_Ru.go 5 (c' := (36, [.ref 28, .int b, .int y, .int r, .int 1, .float 0], [.ref 28], h)) rfl ?_
                              refine hk_getr rfl (hH.1 28 (9, 8) rfl) rfl (hH.2 28 0 (some 6) rfl) ?_
                              refine qm_Ru.go 0 (c' := (39, [.ref 28, .int b, .int y, .int r, .int 1, .float 0], [.ref 6], h)) rfl ?_
                              refine hk_getr rfl (hH.1 6 (6, 9) rfl) rfl (hH.2 6 1 (some 7) rfl) ?_
                              refine qm_Ru.go 1 (c' := (43, [.ref 28, .int b, .int y, .int r, .int 1, .float 0], [.int b, .ref 7], h)) rfl ?_
                              obtain ⟨v124, q_v124⟩ : ∃ v, h.2.1 7 (b.toInt.toNat) = v := ⟨_, rfl⟩
                              have b_v124 : (0 : Int) ≤ v124.toInt ∧ v124.toInt ≤ 40 := by rw [← q_v124]; exact hB 7 (b.toInt.toNat)
                              refine hk_ial (v := v124) rfl (hH.1 7 (0, 30) rfl) (by omega) (by omega) q_v124 ?_
                              refine qm_Ru.go 3 (c' := (49, [.ref 28, .int b, .int y, .int r, .int 1, .int v124], [.ref 28, .int v124], h)) rfl ?_
                              refine hk_getr rfl (hH.1 28 (9, 8) rfl) rfl hT.2 ?_
                              refine qm_Ru.go 0 (c' := (52, [.ref 28, .int b, .int y, .int r, .int 1, .int v124], [.ref 111, .int v124], h)) rfl ?_
                              obtain ⟨v125, q_v125⟩ : ∃ v, h.2.1 111 4 = v := ⟨_, rfl⟩
                              refine hk_geti (v := v125) rfl (hH.1 111 (11, 16) rfl) rfl q_v125 ?_
                              refine qm_Ru.go 0 (c' := (55, [.ref 28, .int b, .int y, .int r, .int 1, .int v124], [.int v125, .int v124], h)) rfl ?_
                              refine hk_cle (ix := v124.toInt) (iy := v125.toInt) rfl rfl rfl (fun z126 => ?_) (fun z126 => ?_)
                              · refine qm_Ru.go 4 (c' := (66, [.ref 28, .int b, .int y, .int r, .int 1, .int v124], [.int v124, .int r, .int y, .ref 28], h)) rfl ?_
                                refine hk_inv (o := 28) (r := []) (as := [.ref 28, .int y, .int r, .int v124]) rfl rfl (hH.1 28 (9, 8) rfl) rfl rfl rfl rfl (hs_borne111 h6 hH hT hB (v_C_ru hV) ⟨by show (0 : Int) ≤ y.toInt; omega, by show y.toInt ≤ (4 : Int); omega⟩ ⟨by show (0 : Int) ≤ r.toInt; omega, by show r.toInt ≤ (3 : Int); omega⟩ (qa_in_full _) (by omega) (fun v127 I128 J129 c_v127 _ e_I128 => ?_))
                                have e_I128 : I128 = h.2.1 := funext fun o => funext fun i => e_I128 o rfl i
                                subst e_I128
                                have b_v127 : (0 : Int) ≤ v127.toInt ∧ v127.toInt ≤ 1 := c_v127
                                refine qm_Ru.go 0 (c' := (69, [.ref 28, .int b, .int y, .int r, .int 1, .int v124], [.int v127], (h.1, h.2.1, J129, h.2.2.2))) rfl ?_
                                refine hk_zne (ix := v127.toInt) rfl rfl (fun z130 => ?_) (fun z130 => ?_)
                                · refine qm_Ru.go 2 (c' := (90, [.ref 28, .int b, .int y, .int r, .int 1, .int v124], [.int 1], (h.1, h.2.1, J129, h.2.2.2))) rfl ?_
                                  refine qm_Ru.rt (v := (some (.int 1))) (h' := (h.1, h.2.1, J129, h.2.2.2)) rfl ?_
                                  exact k1 1 J129 (t_free1 (t := 1) (by omega) (by omega) (by decide) q_v122 (by omega) (by omega) q_v116 (by omega) (by omega)) (t_had2 (by omega) q_v8 (by omega) q_v95 (by omega) q_v100 q_v101 rfl (by omega) q_v106 (by omega) (by omega))
                                · refine qm_Ru.go 4 (c' := (77, [.ref 28, .int b, .int y, .int r, .int 1, .int v124], [.int v124, .int r, .int y, .ref 28], (h.1, h.2.1, J129, h.2.2.2))) rfl ?_
                                  refine hk_inv (o := 28) (r := []) (as := [.ref 28, .int y, .int r, .int v124]) rfl rfl (hH.1 28 (9, 8) rfl) rfl rfl rfl rfl (hs_nowor111 h6 hH hT hB (v_C_ru hV) ⟨by show (0 : Int) ≤ y.toInt; omega, by show y.toInt ≤ (4 : Int); omega⟩ ⟨by show (0 : Int) ≤ r.toInt; omega, by show r.toInt ≤ (3 : Int); omega⟩ (qa_in_full _) (by omega) (fun v131 I132 J133 c_v131 _ e_I132 => ?_))
                                  have e_I132 : I132 = h.2.1 := funext fun o => funext fun i => e_I132 o rfl i
                                  subst e_I132
                                  have b_v131 : (0 : Int) ≤ v131.toInt ∧ v131.toInt ≤ 1 := c_v131
                                  refine qm_Ru.go 0 (c' := (80, [.ref 28, .int b, .int y, .int r, .int 1, .int v124], [.int v131], (h.1, h.2.1, J133, h.2.2.2))) rfl ?_
                                  refine hk_zeq (ix := v131.toInt) rfl rfl (fun z134 => ?_) (fun z134 => ?_)
                                  · refine qm_Ru.go 1 (c' := (90, [.ref 28, .int b, .int y, .int r, .int 1, .int v124], [.int (-3)], (h.1, h.2.1, J133, h.2.2.2))) rfl ?_
                                    refine qm_Ru.rt (v := (some (.int (-3)))) (h' := (h.1, h.2.1, J133, h.2.2.2)) rfl ?_
                                    exact k0 (-3) J133 (by decide) (by decide)
                                  · refine qm_Ru.go 2 (c' := (90, [.ref 28, .int b, .int y, .int r, .int 1, .int v124], [.int 1], (h.1, h.2.1, J133, h.2.2.2))) rfl ?_
                                    refine qm_Ru.rt (v := (some (.int 1))) (h' := (h.1, h.2.1, J133, h.2.2.2)) rfl ?_
                                    exact k1 1 J133 (t_free1 (t := 1) (by omega) (by omega) (by decide) q_v122 (by omega) (by omega) q_v116 (by omega) (by omega)) (t_had2 (by omega) q_v8 (by omega) q_v95 (by omega) q_v100 q_v101 rfl (by omega) q_v106 (by omega) (by omega))
                              · refine qm_Ru.go 1 (c' := (60, [.ref 28, .int b, .int y, .int r, .int 1, .int v124], [.int (-2)], h)) rfl ?_
                                refine qm_Ru.rt (v := (some (.int (-2)))) (h' := h) rfl ?_
                                exact k0 (-2) h.2.2.1 (by decide) (by decide)
                          · refine qm_Ru.go 1 (c' := (22, [.ref 28, .int y, .int r, .int 0], [.int 0], h)) rfl ?_
                            refine qm_Ru.rt (v := (some (.int 0))) (h' := h) rfl ?_
                            refine qm_Ru.go 5 (c' := (36, [.ref 28, .int b, .int y, .int r, .int 0, .float 0], [.ref 28], h)) rfl ?_
                            refine hk_getr rfl (hH.1 28 (9, 8) rfl) rfl (hH.2 28 0 (some 6) rfl) ?_
                            refine qm_Ru.go 0 (c' := (39, [.ref 28, .int b, .int y, .int r, .int 0, .float 0], [.ref 6], h)) rfl ?_
                            refine hk_getr rfl (hH.1 6 (6, 9) rfl) rfl (hH.2 6 1 (some 7) rfl) ?_
                            refine qm_Ru.go 1 (c' := (43, [.ref 28, .int b, .int y, .int r, .int 0, .float 0], [.int b, .ref 7], h)) rfl ?_
                            obtain ⟨v135, q_v135⟩ : ∃ v, h.2.1 7 (b.toInt.toNat) = v := ⟨_, rfl⟩
                            have b_v135 : (0 : Int) ≤ v135.toInt ∧ v135.toInt ≤ 40 := by rw [← q_v135]; exact hB 7 (b.toInt.toNat)
                            refine hk_ial (v := v135) rfl (hH.1 7 (0, 30) rfl) (by omega) (by omega) q_v135 ?_
                            refine qm_Ru.go 3 (c' := (49, [.ref 28, .int b, .int y, .int r, .int 0, .int v135], [.ref 28, .int v135], h)) rfl ?_
                            refine hk_getr rfl (hH.1 28 (9, 8) rfl) rfl hT.2 ?_
                            refine qm_Ru.go 0 (c' := (52, [.ref 28, .int b, .int y, .int r, .int 0, .int v135], [.ref 111, .int v135], h)) rfl ?_
                            obtain ⟨v136, q_v136⟩ : ∃ v, h.2.1 111 4 = v := ⟨_, rfl⟩
                            refine hk_geti (v := v136) rfl (hH.1 111 (11, 16) rfl) rfl q_v136 ?_
                            refine qm_Ru.go 0 (c' := (55, [.ref 28, .int b, .int y, .int r, .int 0, .int v135], [.int v136, .int v135], h)) rfl ?_
                            refine hk_cle (ix := v135.toInt) (iy := v136.toInt) rfl rfl rfl (fun z137 => ?_) (fun z137 => ?_)
                            · refine qm_Ru.go 4 (c' := (66, [.ref 28, .int b, .int y, .int r, .int 0, .int v135], [.int v135, .int r, .int y, .ref 28], h)) rfl ?_
                              refine hk_inv (o := 28) (r := []) (as := [.ref 28, .int y, .int r, .int v135]) rfl rfl (hH.1 28 (9, 8) rfl) rfl rfl rfl rfl (hs_borne111 h6 hH hT hB (v_C_ru hV) ⟨by show (0 : Int) ≤ y.toInt; omega, by show y.toInt ≤ (4 : Int); omega⟩ ⟨by show (0 : Int) ≤ r.toInt; omega, by show r.toInt ≤ (3 : Int); omega⟩ (qa_in_full _) (by omega) (fun v138 I139 J140 c_v138 _ e_I139 => ?_))
                              have e_I139 : I139 = h.2.1 := funext fun o => funext fun i => e_I139 o rfl i
                              subst e_I139
                              have b_v138 : (0 : Int) ≤ v138.toInt ∧ v138.toInt ≤ 1 := c_v138
                              refine qm_Ru.go 0 (c' := (69, [.ref 28, .int b, .int y, .int r, .int 0, .int v135], [.int v138], (h.1, h.2.1, J140, h.2.2.2))) rfl ?_
                              refine hk_zne (ix := v138.toInt) rfl rfl (fun z141 => ?_) (fun z141 => ?_)
                              · refine qm_Ru.go 2 (c' := (90, [.ref 28, .int b, .int y, .int r, .int 0, .int v135], [.int 0], (h.1, h.2.1, J140, h.2.2.2))) rfl ?_
                                refine qm_Ru.rt (v := (some (.int 0))) (h' := (h.1, h.2.1, J140, h.2.2.2)) rfl ?_
                                exact k1 0 J140 (t_free0 (t := 0) (by omega) (by omega) (by decide) q_v116 (by omega) (by omega)) (t_had2 (by omega) q_v8 (by omega) q_v95 (by omega) q_v100 q_v101 rfl (by omega) q_v106 (by omega) (by omega))
                              · refine qm_Ru.go 4 (c' := (77, [.ref 28, .int b, .int y, .int r, .int 0, .int v135], [.int v135, .int r, .int y, .ref 28], (h.1, h.2.1, J140, h.2.2.2))) rfl ?_
                                refine hk_inv (o := 28) (r := []) (as := [.ref 28, .int y, .int r, .int v135]) rfl rfl (hH.1 28 (9, 8) rfl) rfl rfl rfl rfl (hs_nowor111 h6 hH hT hB (v_C_ru hV) ⟨by show (0 : Int) ≤ y.toInt; omega, by show y.toInt ≤ (4 : Int); omega⟩ ⟨by show (0 : Int) ≤ r.toInt; omega, by show r.toInt ≤ (3 : Int); omega⟩ (qa_in_full _) (by omega) (fun v142 I143 J144 c_v142 _ e_I143 => ?_))
                                have e_I143 : I143 = h.2.1 := funext fun o => funext fun i => e_I143 o rfl i
                                subst e_I143
                                have b_v142 : (0 : Int) ≤ v142.toInt ∧ v142.toInt ≤ 1 := c_v142
                                refine qm_Ru.go 0 (c' := (80, [.ref 28, .int b, .int y, .int r, .int 0, .int v135], [.int v142], (h.1, h.2.1, J144, h.2.2.2))) rfl ?_
                                refine hk_zeq (ix := v142.toInt) rfl rfl (fun z145 => ?_) (fun z145 => ?_)
                                · refine qm_Ru.go 1 (c' := (90, [.ref 28, .int b, .int y, .int r, .int 0, .int v135], [.int (-3)], (h.1, h.2.1, J144, h.2.2.2))) rfl ?_
                                  refine qm_Ru.rt (v := (some (.int (-3)))) (h' := (h.1, h.2.1, J144, h.2.2.2)) rfl ?_
                                  exact k0 (-3) J144 (by decide) (by decide)
                                · refine qm_Ru.go 2 (c' := (90, [.ref 28, .int b, .int y, .int r, .int 0, .int v135], [.int 0], (h.1, h.2.1, J144, h.2.2.2))) rfl ?_
                                  refine qm_Ru.rt (v := (some (.int 0))) (h' := (h.1, h.2.1, J144, h.2.2.2)) rfl ?_
                                  exact k1 0 J144 (t_free0 (t := 0) (by omega) (by omega) (by decide) q_v116 (by omega) (by omega)) (t_had2 (by omega) q_v8 (by omega) q_v95 (by omega) q_v100 q_v101 rfl (by omega) q_v106 (by omega) (by omega))
                            · refine qm_Ru.go 1 (c' := (60, [.ref 28, .int b, .int y, .int r, .int 0, .int v135], [.int (-2)], h)) rfl ?_
                              refine qm_Ru.rt (v := (some (.int (-2)))) (h' := h) rfl ?_
                              exact k0 (-2) h.2.2.1 (by decide) (by decide)
                        · refine qm_Ru.go 2 (c' := (17, [.ref 28, .int y], [.int 1], h)) rfl ?_
                          refine qm_Ru.rt (v := (some (.int 1))) (h' := h) rfl ?_
                          refine qm_Ru.go 3 (c' := (13, [.ref 28, .int y], [.int 2], h)) rfl ?_
                          refine qm_Ru.rt (v := (some (.int 2))) (h' := h) rfl ?_
                          refine qm_Ru.go 2 (c' := (7, [.ref 28, .int y, .int r, .int 2], [.ref 28], h)) rfl ?_
                          refine hk_getr rfl (hH.1 28 (9, 8) rfl) rfl (hH.2 28 3 (some 36) rfl) ?_
                          refine qm_Ru.go 3 (c' := (13, [.ref 28, .int y, .int r, .int 2], [.int 2, .int r, .int y, .ref 36], h)) rfl ?_
                          refine qm_Ru.call (j := 75) (as := [.int y, .int r, .int 2]) (c' := (16, [.ref 28, .int y, .int r, .int 2], [.ref 36], h)) rfl rfl rfl ?_
                          refine qm_Ru.go 3 (c' := (3, [.int y, .int r, .int 2], [.int (y * 4)], h)) rfl ?_
                          obtain ⟨v146, q_v146, e_v146⟩ := hk_mul (x := y) (y := 4) (a := y.toInt) (b := 4) rfl rfl (by omega) (by omega)
                          rw [q_v146]
                          refine qm_Ru.go 2 (c' := (5, [.int y, .int r, .int 2], [.int (v146 + r)], h)) rfl ?_
                          obtain ⟨v147, q_v147, e_v147⟩ := hk_add (x := v146) (y := r) (a := v146.toInt) (b := r.toInt) rfl rfl (by omega) (by omega)
                          rw [q_v147]
                          refine qm_Ru.go 2 (c' := (7, [.int y, .int r, .int 2], [.int (v147 * 4)], h)) rfl ?_
                          obtain ⟨v148, q_v148, e_v148⟩ := hk_mul (x := v147) (y := 4) (a := v147.toInt) (b := 4) rfl rfl (by omega) (by omega)
                          rw [q_v148]
                          refine qm_Ru.go 2 (c' := (9, [.int y, .int r, .int 2], [.int (v148 + 2)], h)) rfl ?_
                          obtain ⟨v149, q_v149, e_v149⟩ := hk_add (x := v148) (y := 2) (a := v148.toInt) (b := 2) rfl rfl (by omega) (by omega)
                          rw [q_v149]
                          refine qm_Ru.rt (v := (some (.int v149))) (h' := h) rfl ?_
                          refine qm_Ru.go 0 (c' := (16, [.ref 28, .int y, .int r, .int 2], [.int v149, .ref 36], h)) rfl ?_
                          obtain ⟨v150, q_v150⟩ : ∃ v, h.2.1 36 (v149.toInt.toNat) = v := ⟨_, rfl⟩
                          have b_v150 : (-1 : Int) ≤ v150.toInt ∧ v150.toInt ≤ 29 := by rw [← q_v150]; exact hB 36 (v149.toInt.toNat)
                          refine hk_ial (v := v150) rfl (hH.1 36 (0, 80) rfl) (by omega) (by omega) q_v150 ?_
                          refine qm_Ru.go 1 (c' := (18, [.ref 28, .int y, .int r, .int 2], [.int (-1), .int v150], h)) rfl ?_
                          refine hk_cne (ix := v150.toInt) (iy := (-1)) rfl rfl rfl (fun z151 => ?_) (fun z151 => ?_)
                          · refine qm_Ru.go 1 (c' := (24, [.ref 28, .int y, .int r, .int 2], [.ref 28], h)) rfl ?_
                            refine hk_getr rfl (hH.1 28 (9, 8) rfl) rfl (hH.2 28 3 (some 36) rfl) ?_
                            refine qm_Ru.go 5 (c' := (32, [.ref 28, .int y, .int r, .int 2], [.int 3, .int r, .int y, .ref 36], h)) rfl ?_
                            refine qm_Ru.call (j := 75) (as := [.int y, .int r, .int 3]) (c' := (35, [.ref 28, .int y, .int r, .int 2], [.ref 36], h)) rfl rfl rfl ?_
                            refine qm_Ru.go 3 (c' := (3, [.int y, .int r, .int 3], [.int (y * 4)], h)) rfl ?_
                            rw [q_v146]
                            refine qm_Ru.go 2 (c' := (5, [.int y, .int r, .int 3], [.int (v146 + r)], h)) rfl ?_
                            rw [q_v147]
                            refine qm_Ru.go 2 (c' := (7, [.int y, .int r, .int 3], [.int (v147 * 4)], h)) rfl ?_
                            rw [q_v148]
                            refine qm_Ru.go 2 (c' := (9, [.int y, .int r, .int 3], [.int (v148 + 3)], h)) rfl ?_
                            obtain ⟨v155, q_v155, e_v155⟩ := hk_add (x := v148) (y := 3) (a := v148.toInt) (b := 3) rfl rfl (by omega) (by omega)
                            rw [q_v155]
                            refine qm_Ru.rt (v := (some (.int v155))) (h' := h) rfl ?_
                            refine qm_Ru.go 0 (c' := (35, [.ref 28, .int y, .int r, .int 2], [.int v155, .ref 36], h)) rfl ?_
                            obtain ⟨v156, q_v156⟩ : ∃ v, h.2.1 36 (v155.toInt.toNat) = v := ⟨_, rfl⟩
                            have b_v156 : (-1 : Int) ≤ v156.toInt ∧ v156.toInt ≤ 29 := by rw [← q_v156]; exact hB 36 (v155.toInt.toNat)
                            refine hk_ial (v := v156) rfl (hH.1 36 (0, 80) rfl) (by omega) (by omega) q_v156 ?_
                            refine qm_Ru.go 1 (c' := (37, [.ref 28, .int y, .int r, .int 2], [.int (-1), .int v156], h)) rfl ?_
                            refine hk_cne (ix := v156.toInt) (iy := (-1)) rfl rfl rfl (fun z157 => ?_) (fun z157 => ?_)
                            · refine qm_Ru.go 1 (c' := (47, [.ref 28, .int y, .int r, .int 2], [.int (-1)], h)) rfl ?_
                              refine qm_Ru.rt (v := (some (.int (-1)))) (h' := h) rfl ?_
                              refine qm_Ru.go 5 (c' := (34, [.ref 28, .int b, .int y, .int r, .int (-1), .float 0], [.int (-1)], h)) rfl ?_
                              refine qm_Ru.rt (v := (some (.int (-1)))) (h' := h) rfl ?_
                              exact k0 (-1) h.2.2.1 (by decide) (by decide)
                            · refine qm_Ru.go 4 (c' := (47, [.ref 28, .int y, .int r, .int 2], [.int 3], h)) rfl ?_
                              refine qm_Ru.rt (v := (some (.int 3))) (h' := h) rfl ?_
                              refine qm_Ru.go 5 (c' := (36, [.ref 28, .int b, .int y, .int r, .int 3, .float 0], [.ref 28], h)) rfl ?_
                              refine hk_getr rfl (hH.1 28 (9, 8) rfl) rfl (hH.2 28 0 (some 6) rfl) ?_
                              refine qm_Ru.go 0 (c' := (39, [.ref 28, .int b, .int y, .int r, .int 3, .float 0], [.ref 6], h)) rfl ?_
                              refine hk_getr rfl (hH.1 6 (6, 9) rfl) rfl (hH.2 6 1 (some 7) rfl) ?_
                              refine qm_Ru.go 1 (c' := (43, [.ref 28, .int b, .int y, .int r, .int 3, .float 0], [.int b, .ref 7], h)) rfl ?_
                              obtain ⟨v158, q_v158⟩ : ∃ v, h.2.1 7 (b.toInt.toNat) = v := ⟨_, rfl⟩
                              have b_v158 : (0 : Int) ≤ v158.toInt ∧ v158.toInt ≤ 40 := by rw [← q_v158]; exact hB 7 (b.toInt.toNat)
                              refine hk_ial (v := v158) rfl (hH.1 7 (0, 30) rfl) (by omega) (by omega) q_v158 ?_
                              refine qm_Ru.go 3 (c' := (49, [.ref 28, .int b, .int y, .int r, .int 3, .int v158], [.ref 28, .int v158], h)) rfl ?_
                              refine hk_getr rfl (hH.1 28 (9, 8) rfl) rfl hT.2 ?_
                              refine qm_Ru.go 0 (c' := (52, [.ref 28, .int b, .int y, .int r, .int 3, .int v158], [.ref 111, .int v158], h)) rfl ?_
                              obtain ⟨v159, q_v159⟩ : ∃ v, h.2.1 111 4 = v := ⟨_, rfl⟩
                              refine hk_geti (v := v159) rfl (hH.1 111 (11, 16) rfl) rfl q_v159 ?_
                              refine qm_Ru.go 0 (c' := (55, [.ref 28, .int b, .int y, .int r, .int 3, .int v158], [.int v159, .int v158], h)) rfl ?_
                              refine hk_cle (ix := v158.toInt) (iy := v159.toInt) rfl rfl rfl (fun z160 => ?_) (fun z160 => ?_)
                              · refine qm_Ru.go 4 (c' := (66, [.ref 28, .int b, .int y, .int r, .int 3, .int v158], [.int v158, .int r, .int y, .ref 28], h)) rfl ?_
                                refine hk_inv (o := 28) (r := []) (as := [.ref 28, .int y, .int r, .int v158]) rfl rfl (hH.1 28 (9, 8) rfl) rfl rfl rfl rfl (hs_borne111 h6 hH hT hB (v_C_ru hV) ⟨by show (0 : Int) ≤ y.toInt; omega, by show y.toInt ≤ (4 : Int); omega⟩ ⟨by show (0 : Int) ≤ r.toInt; omega, by show r.toInt ≤ (3 : Int); omega⟩ (qa_in_full _) (by omega) (fun v161 I162 J163 c_v161 _ e_I162 => ?_))
                                have e_I162 : I162 = h.2.1 := funext fun o => funext fun i => e_I162 o rfl i
                                subst e_I162
                                have b_v161 : (0 : Int) ≤ v161.toInt ∧ v161.toInt ≤ 1 := c_v161
                                refine qm_Ru.go 0 (c' := (69, [.ref 28, .int b, .int y, .int r, .int 3, .int v158], [.int v161], (h.1, h.2.1, J163, h.2.2.2))) rfl ?_
                                refine hk_zne (ix := v161.toInt) rfl rfl (fun z164 => ?_) (fun z164 => ?_)
                                · refine qm_Ru.go 2 (c' := (90, [.ref 28, .int b, .int y, .int r, .int 3, .int v158], [.int 3], (h.1, h.2.1, J163, h.2.2.2))) rfl ?_
                                  refine qm_Ru.rt (v := (some (.int 3))) (h' := (h.1, h.2.1, J163, h.2.2.2)) rfl ?_
                                  exact k1 3 J163 (t_free1 (t := 3) (by omega) (by omega) (by decide) q_v156 (by omega) (by omega) q_v150 (by omega) (by omega)) (t_had2 (by omega) q_v8 (by omega) q_v95 (by omega) q_v100 q_v101 rfl (by omega) q_v106 (by omega) (by omega))
                                · refine qm_Ru.go 4 (c' := (77, [.ref 28, .int b, .int y, .int r, .int 3, .int v158], [.int v158, .int r, .int y, .ref 28], (h.1, h.2.1, J163, h.2.2.2))) rfl ?_
                                  refine hk_inv (o := 28) (r := []) (as := [.ref 28, .int y, .int r, .int v158]) rfl rfl (hH.1 28 (9, 8) rfl) rfl rfl rfl rfl (hs_nowor111 h6 hH hT hB (v_C_ru hV) ⟨by show (0 : Int) ≤ y.toInt; omega, by show y.toInt ≤ (4 : Int); omega⟩ ⟨by show (0 : Int) ≤ r.toInt; omega, by show r.toInt ≤ (3 : Int); omega⟩ (qa_in_full _) (by omega) (fun v165 I166 J167 c_v165 _ e_I166 => ?_))
                                  have e_I166 : I166 = h.2.1 := funext fun o => funext fun i => e_I166 o rfl i
                                  subst e_I166
                                  have b_v165 : (0 : Int) ≤ v165.toInt ∧ v165.toInt ≤ 1 := c_v165
                                  refine qm_Ru.go 0 (c' := (80, [.ref 28, .int b, .int y, .int r, .int 3, .int v158], [.int v165], (h.1, h.2.1, J167, h.2.2.2))) rfl ?_
                                  refine hk_zeq (ix := v165.toInt) rfl rfl (fun z168 => ?_) (fun z168 => ?_)
                                  · refine qm_Ru.go 1 (c' := (90, [.ref 28, .int b, .int y, .int r, .int 3, .int v158], [.int (-3)], (h.1, h.2.1, J167, h.2.2.2))) rfl ?_
                                    refine qm_Ru.rt (v := (some (.int (-3)))) (h' := (h.1, h.2.1, J167, h.2.2.2)) rfl ?_
                                    exact k0 (-3) J167 (by decide) (by decide)
                                  · refine qm_Ru.go 2 (c' := (90, [.ref 28, .int b, .int y, .int r, .int 3, .int v158], [.int 3], (h.1, h.2.1, J167, h.2.2.2))) rfl ?_
                                    refine qm_Ru.rt (v := (some (.int 3))) (h' := (h.1, h.2.1, J167, h.2.2.2)) rfl ?_
                                    exact k1 3 J167 (t_free1 (t := 3) (by omega) (by omega) (by decide) q_v156 (by omega) (by omega) q_v150 (by omega) (by omega)) (t_had2 (by omega) q_v8 (by omega) q_v95 (by omega) q_v100 q_v101 rfl (by omega) q_v106 (by omega) (by omega))
                              · refine qm_Ru.go 1 (c' := (60, [.ref 28, .int b, .int y, .int r, .int 3, .int v158], [.int (-2)], h)) rfl ?_
                                refine qm_Ru.rt (v := (some (.int (-2)))) (h' := h) rfl ?_
                                exact k0 (-2) h.2.2.1 (by decide) (by decide)
                          · refine qm_Ru.go 1 (c' := (22, [.ref 28, .int y, .int r, .int 2], [.int 2], h)) rfl ?_
                            refine qm_Ru.rt (v := (some (.int 2))) (h' := h) rfl ?_
                            refine qm_Ru.go 5 (c' := (36, [.ref 28, .int b, .int y, .int r, .int 2, .float 0], [.ref 28], h)) rfl ?_
                            refine hk_getr rfl (hH.1 28 (9, 8) rfl) rfl (hH.2 28 0 (some 6) rfl) ?_
                            refine qm_Ru.go 0 (c' := (39, [.ref 28, .int b, .int y, .int r, .int 2, .float 0], [.ref 6], h)) rfl ?_
                            refine hk_getr rfl (hH.1 6 (6, 9) rfl) rfl (hH.2 6 1 (some 7) rfl) ?_
                            refine qm_Ru.go 1 (c' := (43, [.ref 28, .int b, .int y, .int r, .int 2, .float 0], [.int b, .ref 7], h)) rfl ?_
                            obtain ⟨v169, q_v169⟩ : ∃ v, h.2.1 7 (b.toInt.toNat) = v := ⟨_, rfl⟩
                            have b_v169 : (0 : Int) ≤ v169.toInt ∧ v169.toInt ≤ 40 := by rw [← q_v169]; exact hB 7 (b.toInt.toNat)
                            refine hk_ial (v := v169) rfl (hH.1 7 (0, 30) rfl) (by omega) (by omega) q_v169 ?_
                            refine qm_Ru.go 3 (c' := (49, [.ref 28, .int b, .int y, .int r, .int 2, .int v169], [.ref 28, .int v169], h)) rfl ?_
                            refine hk_getr rfl (hH.1 28 (9, 8) rfl) rfl hT.2 ?_
                            refine qm_Ru.go 0 (c' := (52, [.ref 28, .int b, .int y, .int r, .int 2, .int v169], [.ref 111, .int v169], h)) rfl ?_
                            obtain ⟨v170, q_v170⟩ : ∃ v, h.2.1 111 4 = v := ⟨_, rfl⟩
                            refine hk_geti (v := v170) rfl (hH.1 111 (11, 16) rfl) rfl q_v170 ?_
                            refine qm_Ru.go 0 (c' := (55, [.ref 28, .int b, .int y, .int r, .int 2, .int v169], [.int v170, .int v169], h)) rfl ?_
                            refine hk_cle (ix := v169.toInt) (iy := v170.toInt) rfl rfl rfl (fun z171 => ?_) (fun z171 => ?_)
                            · refine qm_Ru.go 4 (c' := (66, [.ref 28, .int b, .int y, .int r, .int 2, .int v169], [.int v169, .int r, .int y, .ref 28], h)) rfl ?_
                              refine hk_inv (o := 28) (r := []) (as := [.ref 28, .int y, .int r, .int v169]) rfl rfl (hH.1 28 (9, 8) rfl) rfl rfl rfl rfl (hs_borne111 h6 hH hT hB (v_C_ru hV) ⟨by show (0 : Int) ≤ y.toInt; omega, by show y.toInt ≤ (4 : Int); omega⟩ ⟨by show (0 : Int) ≤ r.toInt; omega, by show r.toInt ≤ (3 : Int); omega⟩ (qa_in_full _) (by omega) (fun v172 I173 J174 c_v172 _ e_I173 => ?_))
                              have e_I173 : I173 = h.2.1 := funext fun o => funext fun i => e_I173 o rfl i
                              subst e_I173
                              have b_v172 : (0 : Int) ≤ v172.toInt ∧ v172.toInt ≤ 1 := c_v172
                              refine qm_Ru.go 0 (c' := (69, [.ref 28, .int b, .int y, .int r, .int 2, .int v169], [.int v172], (h.1, h.2.1, J174, h.2.2.2))) rfl ?_
                              refine hk_zne (ix := v172.toInt) rfl rfl (fun z175 => ?_) (fun z175 => ?_)
                              · refine qm_Ru.go 2 (c' := (90, [.ref 28, .int b, .int y, .int r, .int 2, .int v169], [.int 2], (h.1, h.2.1, J174, h.2.2.2))) rfl ?_
                                refine qm_Ru.rt (v := (some (.int 2))) (h' := (h.1, h.2.1, J174, h.2.2.2)) rfl ?_
                                exact k1 2 J174 (t_free0 (t := 2) (by omega) (by omega) (by decide) q_v150 (by omega) (by omega)) (t_had2 (by omega) q_v8 (by omega) q_v95 (by omega) q_v100 q_v101 rfl (by omega) q_v106 (by omega) (by omega))
                              · refine qm_Ru.go 4 (c' := (77, [.ref 28, .int b, .int y, .int r, .int 2, .int v169], [.int v169, .int r, .int y, .ref 28], (h.1, h.2.1, J174, h.2.2.2))) rfl ?_
                                refine hk_inv (o := 28) (r := []) (as := [.ref 28, .int y, .int r, .int v169]) rfl rfl (hH.1 28 (9, 8) rfl) rfl rfl rfl rfl (hs_nowor111 h6 hH hT hB (v_C_ru hV) ⟨by show (0 : Int) ≤ y.toInt; omega, by show y.toInt ≤ (4 : Int); omega⟩ ⟨by show (0 : Int) ≤ r.toInt; omega, by show r.toInt ≤ (3 : Int); omega⟩ (qa_in_full _) (by omega) (fun v176 I177 J178 c_v176 _ e_I177 => ?_))
                                have e_I177 : I177 = h.2.1 := funext fun o => funext fun i => e_I177 o rfl i
                                subst e_I177
                                have b_v176 : (0 : Int) ≤ v176.toInt ∧ v176.toInt ≤ 1 := c_v176
                                refine qm_Ru.go 0 (c' := (80, [.ref 28, .int b, .int y, .int r, .int 2, .int v169], [.int v176], (h.1, h.2.1, J178, h.2.2.2))) rfl ?_
                                refine hk_zeq (ix := v176.toInt) rfl rfl (fun z179 => ?_) (fun z179 => ?_)
                                · refine qm_Ru.go 1 (c' := (90, [.ref 28, .int b, .int y, .int r, .int 2, .int v169], [.int (-3)], (h.1, h.2.1, J178, h.2.2.2))) rfl ?_
                                  refine qm_Ru.rt (v := (some (.int (-3)))) (h' := (h.1, h.2.1, J178, h.2.2.2)) rfl ?_
                                  exact k0 (-3) J178 (by decide) (by decide)
                                · refine qm_Ru.go 2 (c' := (90, [.ref 28, .int b, .int y, .int r, .int 2, .int v169], [.int 2], (h.1, h.2.1, J178, h.2.2.2))) rfl ?_
                                  refine qm_Ru.rt (v := (some (.int 2))) (h' := (h.1, h.2.1, J178, h.2.2.2)) rfl ?_
                                  exact k1 2 J178 (t_free0 (t := 2) (by omega) (by omega) (by decide) q_v150 (by omega) (by omega)) (t_had2 (by omega) q_v8 (by omega) q_v95 (by omega) q_v100 q_v101 rfl (by omega) q_v106 (by omega) (by omega))
                            · refine qm_Ru.go 1 (c' := (60, [.ref 28, .int b, .int y, .int r, .int 2, .int v169], [.int (-2)], h)) rfl ?_
                              refine qm_Ru.rt (v := (some (.int (-2)))) (h' := h) rfl ?_
                              exact k0 (-2) h.2.2.1 (by decide) (by decide)
                    · refine qm_Ru.go 2 (c' := (30, [.ref 15, .int v100], [.int (-1)], h)) rfl ?_
                      refine qm_Ru.rt (v := (some (.int (-1)))) (h' := h) rfl ?_
                      refine qm_Ru.go 1 (c' := (39, [.ref 28, .int b], [.int b, .int (-1)], h)) rfl ?_
                      refine hk_cne (ix := (-1)) (iy := b.toInt) rfl rfl rfl (fun z180 => ?_) (fun z180 => by exfalso; omega)
                      refine qm_Ru.go 1 (c' := (47, [.ref 28, .int b], [.int 0], h)) rfl ?_
                      refine qm_Ru.rt (v := (some (.int 0))) (h' := h) rfl ?_
                      refine qm_Ru.go 2 (c' := (18, [.ref 28, .int b, .int y, .int r, .float 0, .float 0], [.int (-1)], h)) rfl ?_
                      refine qm_Ru.rt (v := (some (.int (-1)))) (h' := h) rfl ?_
                      exact k0 (-1) h.2.2.1 (by decide) (by decide)
              · refine qm_Ru.go 2 (c' := (22, [.ref 6, .int b], [.int 1], h)) rfl ?_
                refine qm_Ru.rt (v := (some (.int 1))) (h' := h) rfl ?_
                refine qm_Ru.go 3 (c' := (47, [.ref 28, .int b], [.int 1], h)) rfl ?_
                refine qm_Ru.rt (v := (some (.int 1))) (h' := h) rfl ?_
                refine qm_Ru.go 4 (c' := (22, [.ref 28, .int b, .int y, .int r, .float 0, .float 0], [.int r, .int y, .ref 28], h)) rfl ?_
                refine hk_inv (o := 28) (r := []) (as := [.ref 28, .int y, .int r]) rfl rfl (hH.1 28 (9, 8) rfl) rfl rfl rfl rfl ?_
                refine qm_Ru.go 2 (c' := (2, [.ref 28, .int y, .int r, .float 0], [.int y, .ref 28], h)) rfl ?_
                refine hk_inv (o := 28) (r := []) (as := [.ref 28, .int y]) rfl rfl (hH.1 28 (9, 8) rfl) rfl rfl rfl rfl ?_
                refine qm_Ru.go 2 (c' := (2, [.ref 28, .int y], [.int y, .ref 28], h)) rfl ?_
                refine hk_inv (o := 28) (r := []) (as := [.ref 28, .int y]) rfl rfl (hH.1 28 (9, 8) rfl) rfl rfl rfl rfl ?_
                refine qm_Ru.go 1 (c' := (1, [.ref 28, .int y], [.ref 28], h)) rfl ?_
                obtain ⟨v181, q_v181⟩ : ∃ v, h.2.1 28 4 = v := ⟨_, rfl⟩
                refine hk_geti (v := v181) rfl (hH.1 28 (9, 8) rfl) rfl q_v181 ?_
                refine qm_Ru.go 2 (c' := (6, [.ref 28, .int y], [.int (v181 >>> (y &&& 31))], h)) rfl ?_
                obtain ⟨v182, q_v182⟩ : ∃ v, (v181 >>> (y &&& 31)) = v := ⟨_, rfl⟩
                rw [q_v182]
                refine qm_Ru.go 2 (c' := (8, [.ref 28, .int y], [.int (v182 &&& 1)], h)) rfl ?_
                obtain ⟨v183, q_v183⟩ : ∃ v, (v182 &&& 1) = v := ⟨_, rfl⟩
                rw [q_v183]
                refine qm_Ru.go 1 (c' := (9, [.ref 28, .int y], [.int 1, .int v183], h)) rfl ?_
                refine hk_cne (ix := v183.toInt) (iy := 1) rfl rfl rfl (fun z184 => ?_) (fun z184 => ?_)
                · refine qm_Ru.go 1 (c' := (17, [.ref 28, .int y], [.int 0], h)) rfl ?_
                  refine qm_Ru.rt (v := (some (.int 0))) (h' := h) rfl ?_
                  refine qm_Ru.go 2 (c' := (13, [.ref 28, .int y], [.int 0], h)) rfl ?_
                  refine qm_Ru.rt (v := (some (.int 0))) (h' := h) rfl ?_
                  refine qm_Ru.go 2 (c' := (7, [.ref 28, .int y, .int r, .int 0], [.ref 28], h)) rfl ?_
                  refine hk_getr rfl (hH.1 28 (9, 8) rfl) rfl (hH.2 28 3 (some 36) rfl) ?_
                  refine qm_Ru.go 3 (c' := (13, [.ref 28, .int y, .int r, .int 0], [.int 0, .int r, .int y, .ref 36], h)) rfl ?_
                  refine qm_Ru.call (j := 75) (as := [.int y, .int r, .int 0]) (c' := (16, [.ref 28, .int y, .int r, .int 0], [.ref 36], h)) rfl rfl rfl ?_
                  refine qm_Ru.go 3 (c' := (3, [.int y, .int r, .int 0], [.int (y * 4)], h)) rfl ?_
                  obtain ⟨v185, q_v185, e_v185⟩ := hk_mul (x := y) (y := 4) (a := y.toInt) (b := 4) rfl rfl (by omega) (by omega)
                  rw [q_v185]
                  refine qm_Ru.go 2 (c' := (5, [.int y, .int r, .int 0], [.int (v185 + r)], h)) rfl ?_
                  obtain ⟨v186, q_v186, e_v186⟩ := hk_add (x := v185) (y := r) (a := v185.toInt) (b := r.toInt) rfl rfl (by omega) (by omega)
                  rw [q_v186]
                  refine qm_Ru.go 2 (c' := (7, [.int y, .int r, .int 0], [.int (v186 * 4)], h)) rfl ?_
                  obtain ⟨v187, q_v187, e_v187⟩ := hk_mul (x := v186) (y := 4) (a := v186.toInt) (b := 4) rfl rfl (by omega) (by omega)
                  rw [q_v187]
                  refine qm_Ru.go 2 (c' := (9, [.int y, .int r, .int 0], [.int (v187 + 0)], h)) rfl ?_
                  obtain ⟨v188, q_v188, e_v188⟩ := hk_add (x := v187) (y := 0) (a := v187.toInt) (b := 0) rfl rfl (by omega) (by omega)
                  rw [q_v188]
                  refine qm_Ru.rt (v := (some (.int v188))) (h' := h) rfl ?_
                  refine qm_Ru.go 0 (c' := (16, [.ref 28, .int y, .int r, .int 0], [.int v188, .ref 36], h)) rfl ?_
                  obtain ⟨v189, q_v189⟩ : ∃ v, h.2.1 36 (v188.toInt.toNat) = v := ⟨_, rfl⟩
                  have b_v189 : (-1 : Int) ≤ v189.toInt ∧ v189.toInt ≤ 29 := by rw [← q_v189]; exact hB 36 (v188.toInt.toNat)
                  refine hk_ial (v := v189) rfl (hH.1 36 (0, 80) rfl) (by omega) (by omega) q_v189 ?_
                  refine qm_Ru.go 1 (c' := (18, [.ref 28, .int y, .int r, .int 0], [.int (-1), .int v189], h)) rfl ?_
                  refine hk_cne (ix := v189.toInt) (iy := (-1)) rfl rfl rfl (fun z190 => ?_) (fun z190 => ?_)
                  · refine qm_Ru.go 1 (c' := (24, [.ref 28, .int y, .int r, .int 0], [.ref 28], h)) rfl ?_
                    refine hk_getr rfl (hH.1 28 (9, 8) rfl) rfl (hH.2 28 3 (some 36) rfl) ?_
                    refine qm_Ru.go 5 (c' := (32, [.ref 28, .int y, .int r, .int 0], [.int 1, .int r, .int y, .ref 36], h)) rfl ?_
                    refine qm_Ru.call (j := 75) (as := [.int y, .int r, .int 1]) (c' := (35, [.ref 28, .int y, .int r, .int 0], [.ref 36], h)) rfl rfl rfl ?_
                    refine qm_Ru.go 3 (c' := (3, [.int y, .int r, .int 1], [.int (y * 4)], h)) rfl ?_
                    rw [q_v185]
                    refine qm_Ru.go 2 (c' := (5, [.int y, .int r, .int 1], [.int (v185 + r)], h)) rfl ?_
                    rw [q_v186]
                    refine qm_Ru.go 2 (c' := (7, [.int y, .int r, .int 1], [.int (v186 * 4)], h)) rfl ?_
                    rw [q_v187]
                    refine qm_Ru.go 2 (c' := (9, [.int y, .int r, .int 1], [.int (v187 + 1)], h)) rfl ?_
                    obtain ⟨v194, q_v194, e_v194⟩ := hk_add (x := v187) (y := 1) (a := v187.toInt) (b := 1) rfl rfl (by omega) (by omega)
                    rw [q_v194]
                    refine qm_Ru.rt (v := (some (.int v194))) (h' := h) rfl ?_
                    refine qm_Ru.go 0 (c' := (35, [.ref 28, .int y, .int r, .int 0], [.int v194, .ref 36], h)) rfl ?_
                    obtain ⟨v195, q_v195⟩ : ∃ v, h.2.1 36 (v194.toInt.toNat) = v := ⟨_, rfl⟩
                    have b_v195 : (-1 : Int) ≤ v195.toInt ∧ v195.toInt ≤ 29 := by rw [← q_v195]; exact hB 36 (v194.toInt.toNat)
                    refine hk_ial (v := v195) rfl (hH.1 36 (0, 80) rfl) (by omega) (by omega) q_v195 ?_
                    refine qm_Ru.go 1 (c' := (37, [.ref 28, .int y, .int r, .int 0], [.int (-1), .int v195], h)) rfl ?_
                    refine hk_cne (ix := v195.toInt) (iy := (-1)) rfl rfl rfl (fun z196 => ?_) (fun z196 => ?_)
                    · refine qm_Ru.go 1 (c' := (47, [.ref 28, .int y, .int r, .int 0], [.int (-1)], h)) rfl ?_
                      refine qm_Ru.rt (v := (some (.int (-1)))) (h' := h) rfl ?_
                      refine qm_Ru.go 5 (c' := (34, [.ref 28, .int b, .int y, .int r, .int (-1), .float 0], [.int (-1)], h)) rfl ?_
                      refine qm_Ru.rt (v := (some (.int (-1)))) (h' := h) rfl ?_
                      exact k0 (-1) h.2.2.1 (by decide) (by decide)
                    · refine qm_Ru.go 4 (c' := (47, [.ref 28, .int y, .int r, .int 0], [.int 1], h)) rfl ?_
                      refine qm_Ru.rt (v := (some (.int 1))) (h' := h) rfl ?_
                      refine qm_Ru.go 5 (c' := (36, [.ref 28, .int b, .int y, .int r, .int 1, .float 0], [.ref 28], h)) rfl ?_
                      refine hk_getr rfl (hH.1 28 (9, 8) rfl) rfl (hH.2 28 0 (some 6) rfl) ?_
                      refine qm_Ru.go 0 (c' := (39, [.ref 28, .int b, .int y, .int r, .int 1, .float 0], [.ref 6], h)) rfl ?_
                      refine hk_getr rfl (hH.1 6 (6, 9) rfl) rfl (hH.2 6 1 (some 7) rfl) ?_
                      refine qm_Ru.go 1 (c' := (43, [.ref 28, .int b, .int y, .int r, .int 1, .float 0], [.int b, .ref 7], h)) rfl ?_
                      obtain ⟨v197, q_v197⟩ : ∃ v, h.2.1 7 (b.toInt.toNat) = v := ⟨_, rfl⟩
                      have b_v197 : (0 : Int) ≤ v197.toInt ∧ v197.toInt ≤ 40 := by rw [← q_v197]; exact hB 7 (b.toInt.toNat)
                      refine hk_ial (v := v197) rfl (hH.1 7 (0, 30) rfl) (by omega) (by omega) q_v197 ?_
                      refine qm_Ru.go 3 (c' := (49, [.ref 28, .int b, .int y, .int r, .int 1, .int v197], [.ref 28, .int v197], h)) rfl ?_
                      refine hk_getr rfl (hH.1 28 (9, 8) rfl) rfl hT.2 ?_
                      refine qm_Ru.go 0 (c' := (52, [.ref 28, .int b, .int y, .int r, .int 1, .int v197], [.ref 111, .int v197], h)) rfl ?_
                      obtain ⟨v198, q_v198⟩ : ∃ v, h.2.1 111 4 = v := ⟨_, rfl⟩
                      refine hk_geti (v := v198) rfl (hH.1 111 (11, 16) rfl) rfl q_v198 ?_
                      refine qm_Ru.go 0 (c' := (55, [.ref 28, .int b, .int y, .int r, .int 1, .int v197], [.int v198, .int v197], h)) rfl ?_
                      refine hk_cle (ix := v197.toInt) (iy := v198.toInt) rfl rfl rfl (fun z199 => ?_) (fun z199 => ?_)
                      · refine qm_Ru.go 4 (c' := (66, [.ref 28, .int b, .int y, .int r, .int 1, .int v197], [.int v197, .int r, .int y, .ref 28], h)) rfl ?_
                        refine hk_inv (o := 28) (r := []) (as := [.ref 28, .int y, .int r, .int v197]) rfl rfl (hH.1 28 (9, 8) rfl) rfl rfl rfl rfl (hs_borne111 h6 hH hT hB (v_C_ru hV) ⟨by show (0 : Int) ≤ y.toInt; omega, by show y.toInt ≤ (4 : Int); omega⟩ ⟨by show (0 : Int) ≤ r.toInt; omega, by show r.toInt ≤ (3 : Int); omega⟩ (qa_in_full _) (by omega) (fun v200 I201 J202 c_v200 _ e_I201 => ?_))
                        have e_I201 : I201 = h.2.1 := funext fun o => funext fun i => e_I201 o rfl i
                        subst e_I201
                        have b_v200 : (0 : Int) ≤ v200.toInt ∧ v200.toInt ≤ 1 := c_v200
                        refine qm_Ru.go 0 (c' := (69, [.ref 28, .int b, .int y, .int r, .int 1, .int v197], [.int v200], (h.1, h.2.1, J202, h.2.2.2))) rfl ?_
                        refine hk_zne (ix := v200.toInt) rfl rfl (fun z203 => ?_) (fun z203 => ?_)
                        · refine qm_Ru.go 2 (c' := (90, [.ref 28, .int b, .int y, .int r, .int 1, .int v197], [.int 1], (h.1, h.2.1, J202, h.2.2.2))) rfl ?_
                          refine qm_Ru.rt (v := (some (.int 1))) (h' := (h.1, h.2.1, J202, h.2.2.2)) rfl ?_
                          exact k1 1 J202 (t_free1 (t := 1) (by omega) (by omega) (by decide) q_v195 (by omega) (by omega) q_v189 (by omega) (by omega)) (t_had0 (by omega) q_v8 (by omega) q_v95 (by omega))
                        · refine qm_Ru.go 4 (c' := (77, [.ref 28, .int b, .int y, .int r, .int 1, .int v197], [.int v197, .int r, .int y, .ref 28], (h.1, h.2.1, J202, h.2.2.2))) rfl ?_
                          refine hk_inv (o := 28) (r := []) (as := [.ref 28, .int y, .int r, .int v197]) rfl rfl (hH.1 28 (9, 8) rfl) rfl rfl rfl rfl (hs_nowor111 h6 hH hT hB (v_C_ru hV) ⟨by show (0 : Int) ≤ y.toInt; omega, by show y.toInt ≤ (4 : Int); omega⟩ ⟨by show (0 : Int) ≤ r.toInt; omega, by show r.toInt ≤ (3 : Int); omega⟩ (qa_in_full _) (by omega) (fun v204 I205 J206 c_v204 _ e_I205 => ?_))
                          have e_I205 : I205 = h.2.1 := funext fun o => funext fun i => e_I205 o rfl i
                          subst e_I205
                          have b_v204 : (0 : Int) ≤ v204.toInt ∧ v204.toInt ≤ 1 := c_v204
                          refine qm_Ru.go 0 (c' := (80, [.ref 28, .int b, .int y, .int r, .int 1, .int v197], [.int v204], (h.1, h.2.1, J206, h.2.2.2))) rfl ?_
                          refine hk_zeq (ix := v204.toInt) rfl rfl (fun z207 => ?_) (fun z207 => ?_)
                          · refine qm_Ru.go 1 (c' := (90, [.ref 28, .int b, .int y, .int r, .int 1, .int v197], [.int (-3)], (h.1, h.2.1, J206, h.2.2.2))) rfl ?_
                            refine qm_Ru.rt (v := (some (.int (-3)))) (h' := (h.1, h.2.1, J206, h.2.2.2)) rfl ?_
                            exact k0 (-3) J206 (by decide) (by decide)
                          · refine qm_Ru.go 2 (c' := (90, [.ref 28, .int b, .int y, .int r, .int 1, .int v197], [.int 1], (h.1, h.2.1, J206, h.2.2.2))) rfl ?_
                            refine qm_Ru.rt (v := (some (.int 1))) (h' := (h.1, h.2.1, J206, h.2.2.2)) rfl ?_
                            exact k1 1 J206 (t_free1 (t := 1) (by omega) (by omega) (by decide) q_v195 (by omega) (by omega) q_v189 (by omega) (by omega)) (t_had0 (by omega) q_v8 (by omega) q_v95 (by omega))
                      · refine qm_Ru.go 1 (c' := (60, [.ref 28, .int b, .int y, .int r, .int 1, .int v197], [.int (-2)], h)) rfl ?_
                        refine qm_Ru.rt (v := (some (.int (-2)))) (h' := h) rfl ?_
                        exact k0 (-2) h.2.2.1 (by decide) (by decide)
                  · refine qm_Ru.go 1 (c' := (22, [.ref 28, .int y, .int r, .int 0], [.int 0], h)) rfl ?_
                    refine qm_Ru.rt (v := (some (.int 0))) (h' := h) rfl ?_
                    refine qm_Ru.go 5 (c' := (36, [.ref 28, .int b, .int y, .int r, .int 0, .float 0], [.ref 28], h)) rfl ?_
                    refine hk_getr rfl (hH.1 28 (9, 8) rfl) rfl (hH.2 28 0 (some 6) rfl) ?_
                    refine qm_Ru.go 0 (c' := (39, [.ref 28, .int b, .int y, .int r, .int 0, .float 0], [.ref 6], h)) rfl ?_
                    refine hk_getr rfl (hH.1 6 (6, 9) rfl) rfl (hH.2 6 1 (some 7) rfl) ?_
                    refine qm_Ru.go 1 (c' := (43, [.ref 28, .int b, .int y, .int r, .int 0, .float 0], [.int b, .ref 7], h)) rfl ?_
                    obtain ⟨v208, q_v208⟩ : ∃ v, h.2.1 7 (b.toInt.toNat) = v := ⟨_, rfl⟩
                    have b_v208 : (0 : Int) ≤ v208.toInt ∧ v208.toInt ≤ 40 := by rw [← q_v208]; exact hB 7 (b.toInt.toNat)
                    refine hk_ial (v := v208) rfl (hH.1 7 (0, 30) rfl) (by omega) (by omega) q_v208 ?_
                    refine qm_Ru.go 3 (c' := (49, [.ref 28, .int b, .int y, .int r, .int 0, .int v208], [.ref 28, .int v208], h)) rfl ?_
                    refine hk_getr rfl (hH.1 28 (9, 8) rfl) rfl hT.2 ?_
                    refine qm_Ru.go 0 (c' := (52, [.ref 28, .int b, .int y, .int r, .int 0, .int v208], [.ref 111, .int v208], h)) rfl ?_
                    obtain ⟨v209, q_v209⟩ : ∃ v, h.2.1 111 4 = v := ⟨_, rfl⟩
                    refine hk_geti (v := v209) rfl (hH.1 111 (11, 16) rfl) rfl q_v209 ?_
                    refine qm_Ru.go 0 (c' := (55, [.ref 28, .int b, .int y, .int r, .int 0, .int v208], [.int v209, .int v208], h)) rfl ?_
                    refine hk_cle (ix := v208.toInt) (iy := v209.toInt) rfl rfl rfl (fun z210 => ?_) (fun z210 => ?_)
                    · refine qm_Ru.go 4 (c' := (66, [.ref 28, .int b, .int y, .int r, .int 0, .int v208], [.int v208, .int r, .int y, .ref 28], h)) rfl ?_
                      refine hk_inv (o := 28) (r := []) (as := [.ref 28, .int y, .int r, .int v208]) rfl rfl (hH.1 28 (9, 8) rfl) rfl rfl rfl rfl (hs_borne111 h6 hH hT hB (v_C_ru hV) ⟨by show (0 : Int) ≤ y.toInt; omega, by show y.toInt ≤ (4 : Int); omega⟩ ⟨by show (0 : Int) ≤ r.toInt; omega, by show r.toInt ≤ (3 : Int); omega⟩ (qa_in_full _) (by omega) (fun v211 I212 J213 c_v211 _ e_I212 => ?_))
                      have e_I212 : I212 = h.2.1 := funext fun o => funext fun i => e_I212 o rfl i
                      subst e_I212
                      have b_v211 : (0 : Int) ≤ v211.toInt ∧ v211.toInt ≤ 1 := c_v211
                      refine qm_Ru.go 0 (c' := (69, [.ref 28, .int b, .int y, .int r, .int 0, .int v208], [.int v211], (h.1, h.2.1, J213, h.2.2.2))) rfl ?_
                      refine hk_zne (ix := v211.toInt) rfl rfl (fun z214 => ?_) (fun z214 => ?_)
                      · refine qm_Ru.go 2 (c' := (90, [.ref 28, .int b, .int y, .int r, .int 0, .int v208], [.int 0], (h.1, h.2.1, J213, h.2.2.2))) rfl ?_
                        refine qm_Ru.rt (v := (some (.int 0))) (h' := (h.1, h.2.1, J213, h.2.2.2)) rfl ?_
                        exact k1 0 J213 (t_free0 (t := 0) (by omega) (by omega) (by decide) q_v189 (by omega) (by omega)) (t_had0 (by omega) q_v8 (by omega) q_v95 (by omega))
                      · refine qm_Ru.go 4 (c' := (77, [.ref 28, .int b, .int y, .int r, .int 0, .int v208], [.int v208, .int r, .int y, .ref 28], (h.1, h.2.1, J213, h.2.2.2))) rfl ?_
                        refine hk_inv (o := 28) (r := []) (as := [.ref 28, .int y, .int r, .int v208]) rfl rfl (hH.1 28 (9, 8) rfl) rfl rfl rfl rfl (hs_nowor111 h6 hH hT hB (v_C_ru hV) ⟨by show (0 : Int) ≤ y.toInt; omega, by show y.toInt ≤ (4 : Int); omega⟩ ⟨by show (0 : Int) ≤ r.toInt; omega, by show r.toInt ≤ (3 : Int); omega⟩ (qa_in_full _) (by omega) (fun v215 I216 J217 c_v215 _ e_I216 => ?_))
                        have e_I216 : I216 = h.2.1 := funext fun o => funext fun i => e_I216 o rfl i
                        subst e_I216
                        have b_v215 : (0 : Int) ≤ v215.toInt ∧ v215.toInt ≤ 1 := c_v215
                        refine qm_Ru.go 0 (c' := (80, [.ref 28, .int b, .int y, .int r, .int 0, .int v208], [.int v215], (h.1, h.2.1, J217, h.2.2.2))) rfl ?_
                        refine hk_zeq (ix := v215.toInt) rfl rfl (fun z218 => ?_) (fun z218 => ?_)
                        · refine qm_Ru.go 1 (c' := (90, [.ref 28, .int b, .int y, .int r, .int 0, .int v208], [.int (-3)], (h.1, h.2.1, J217, h.2.2.2))) rfl ?_
                          refine qm_Ru.rt (v := (some (.int (-3)))) (h' := (h.1, h.2.1, J217, h.2.2.2)) rfl ?_
                          exact k0 (-3) J217 (by decide) (by decide)
                        · refine qm_Ru.go 2 (c' := (90, [.ref 28, .int b, .int y, .int r, .int 0, .int v208], [.int 0], (h.1, h.2.1, J217, h.2.2.2))) rfl ?_
                          refine qm_Ru.rt (v := (some (.int 0))) (h' := (h.1, h.2.1, J217, h.2.2.2)) rfl ?_
                          exact k1 0 J217 (t_free0 (t := 0) (by omega) (by omega) (by decide) q_v189 (by omega) (by omega)) (t_had0 (by omega) q_v8 (by omega) q_v95 (by omega))
                    · refine qm_Ru.go 1 (c' := (60, [.ref 28, .int b, .int y, .int r, .int 0, .int v208], [.int (-2)], h)) rfl ?_
                      refine qm_Ru.rt (v := (some (.int (-2)))) (h' := h) rfl ?_
                      exact k0 (-2) h.2.2.1 (by decide) (by decide)
                · refine qm_Ru.go 2 (c' := (17, [.ref 28, .int y], [.int 1], h)) rfl ?_
                  refine qm_Ru.rt (v := (some (.int 1))) (h' := h) rfl ?_
                  refine qm_Ru.go 3 (c' := (13, [.ref 28, .int y], [.int 2], h)) rfl ?_
                  refine qm_Ru.rt (v := (some (.int 2))) (h' := h) rfl ?_
                  refine qm_Ru.go 2 (c' := (7, [.ref 28, .int y, .int r, .int 2], [.ref 28], h)) rfl ?_
                  refine hk_getr rfl (hH.1 28 (9, 8) rfl) rfl (hH.2 28 3 (some 36) rfl) ?_
                  refine qm_Ru.go 3 (c' := (13, [.ref 28, .int y, .int r, .int 2], [.int 2, .int r, .int y, .ref 36], h)) rfl ?_
                  refine qm_Ru.call (j := 75) (as := [.int y, .int r, .int 2]) (c' := (16, [.ref 28, .int y, .int r, .int 2], [.ref 36], h)) rfl rfl rfl ?_
                  refine qm_Ru.go 3 (c' := (3, [.int y, .int r, .int 2], [.int (y * 4)], h)) rfl ?_
                  obtain ⟨v219, q_v219, e_v219⟩ := hk_mul (x := y) (y := 4) (a := y.toInt) (b := 4) rfl rfl (by omega) (by omega)
                  rw [q_v219]
                  refine qm_Ru.go 2 (c' := (5, [.int y, .int r, .int 2], [.int (v219 + r)], h)) rfl ?_
                  obtain ⟨v220, q_v220, e_v220⟩ := hk_add (x := v219) (y := r) (a := v219.toInt) (b := r.toInt) rfl rfl (by omega) (by omega)
                  rw [q_v220]
                  refine qm_Ru.go 2 (c' := (7, [.int y, .int r, .int 2], [.int (v220 * 4)], h)) rfl ?_
                  obtain ⟨v221, q_v221, e_v221⟩ := hk_mul (x := v220) (y := 4) (a := v220.toInt) (b := 4) rfl rfl (by omega) (by omega)
                  rw [q_v221]
                  refine qm_Ru.go 2 (c' := (9, [.int y, .int r, .int 2], [.int (v221 + 2)], h)) rfl ?_
                  obtain ⟨v222, q_v222, e_v222⟩ := hk_add (x := v221) (y := 2) (a := v221.toInt) (b := 2) rfl rfl (by omega) (by omega)
                  rw [q_v222]
                  refine qm_Ru.rt (v := (some (.int v222))) (h' := h) rfl ?_
                  refine qm_Ru.go 0 (c' := (16, [.ref 28, .int y, .int r, .int 2], [.int v222, .ref 36], h)) rfl ?_
                  obtain ⟨v223, q_v223⟩ : ∃ v, h.2.1 36 (v222.toInt.toNat) = v := ⟨_, rfl⟩
                  have b_v223 : (-1 : Int) ≤ v223.toInt ∧ v223.toInt ≤ 29 := by rw [← q_v223]; exact hB 36 (v222.toInt.toNat)
                  refine hk_ial (v := v223) rfl (hH.1 36 (0, 80) rfl) (by omega) (by omega) q_v223 ?_
                  refine qm_Ru.go 1 (c' := (18, [.ref 28, .int y, .int r, .int 2], [.int (-1), .int v223], h)) rfl ?_
                  refine hk_cne (ix := v223.toInt) (iy := (-1)) rfl rfl rfl (fun z224 => ?_) (fun z224 => ?_)
                  · refine qm_Ru.go 1 (c' := (24, [.ref 28, .int y, .int r, .int 2], [.ref 28], h)) rfl ?_
                    refine hk_getr rfl (hH.1 28 (9, 8) rfl) rfl (hH.2 28 3 (some 36) rfl) ?_
                    refine qm_Ru.go 5 (c' := (32, [.ref 28, .int y, .int r, .int 2], [.int 3, .int r, .int y, .ref 36], h)) rfl ?_
                    refine qm_Ru.call (j := 75) (as := [.int y, .int r, .int 3]) (c' := (35, [.ref 28, .int y, .int r, .int 2], [.ref 36], h)) rfl rfl rfl ?_
                    refine qm_Ru.go 3 (c' := (3, [.int y, .int r, .int 3], [.int (y * 4)], h)) rfl ?_
                    rw [q_v219]
                    refine qm_Ru.go 2 (c' := (5, [.int y, .int r, .int 3], [.int (v219 + r)], h)) rfl ?_
                    rw [q_v220]
                    refine qm_Ru.go 2 (c' := (7, [.int y, .int r, .int 3], [.int (v220 * 4)], h)) rfl ?_
                    rw [q_v221]
                    refine qm_Ru.go 2 (c' := (9, [.int y, .int r, .int 3], [.int (v221 + 3)], h)) rfl ?_
                    obtain ⟨v228, q_v228, e_v228⟩ := hk_add (x := v221) (y := 3) (a := v221.toInt) (b := 3) rfl rfl (by omega) (by omega)
                    rw [q_v228]
                    refine qm_Ru.rt (v := (some (.int v228))) (h' := h) rfl ?_
                    refine qm_Ru.go 0 (c' := (35, [.ref 28, .int y, .int r, .int 2], [.int v228, .ref 36], h)) rfl ?_
                    obtain ⟨v229, q_v229⟩ : ∃ v, h.2.1 36 (v228.toInt.toNat) = v := ⟨_, rfl⟩
                    have b_v229 : (-1 : Int) ≤ v229.toInt ∧ v229.toInt ≤ 29 := by rw [← q_v229]; exact hB 36 (v228.toInt.toNat)
                    refine hk_ial (v := v229) rfl (hH.1 36 (0, 80) rfl) (by omega) (by omega) q_v229 ?_
                    refine qm_Ru.go 1 (c' := (37, [.ref 28, .int y, .int r, .int 2], [.int (-1), .int v229], h)) rfl ?_
                    refine hk_cne (ix := v229.toInt) (iy := (-1)) rfl rfl rfl (fun z230 => ?_) (fun z230 => ?_)
                    · refine qm_Ru.go 1 (c' := (47, [.ref 28, .int y, .int r, .int 2], [.int (-1)], h)) rfl ?_
                      refine qm_Ru.rt (v := (some (.int (-1)))) (h' := h) rfl ?_
                      refine qm_Ru.go 5 (c' := (34, [.ref 28, .int b, .int y, .int r, .int (-1), .float 0], [.int (-1)], h)) rfl ?_
                      refine qm_Ru.rt (v := (some (.int (-1)))) (h' := h) rfl ?_
                      exact k0 (-1) h.2.2.1 (by decide) (by decide)
                    · refine qm_Ru.go 4 (c' := (47, [.ref 28, .int y, .int r, .int 2], [.int 3], h)) rfl ?_
                      refine qm_Ru.rt (v := (some (.int 3))) (h' := h) rfl ?_
                      refine qm_Ru.go 5 (c' := (36, [.ref 28, .int b, .int y, .int r, .int 3, .float 0], [.ref 28], h)) rfl ?_
                      refine hk_getr rfl (hH.1 28 (9, 8) rfl) rfl (hH.2 28 0 (some 6) rfl) ?_
                      refine qm_Ru.go 0 (c' := (39, [.ref 28, .int b, .int y, .int r, .int 3, .float 0], [.ref 6], h)) rfl ?_
                      refine hk_getr rfl (hH.1 6 (6, 9) rfl) rfl (hH.2 6 1 (some 7) rfl) ?_
                      refine qm_Ru.go 1 (c' := (43, [.ref 28, .int b, .int y, .int r, .int 3, .float 0], [.int b, .ref 7], h)) rfl ?_
                      obtain ⟨v231, q_v231⟩ : ∃ v, h.2.1 7 (b.toInt.toNat) = v := ⟨_, rfl⟩
                      have b_v231 : (0 : Int) ≤ v231.toInt ∧ v231.toInt ≤ 40 := by rw [← q_v231]; exact hB 7 (b.toInt.toNat)
                      refine hk_ial (v := v231) rfl (hH.1 7 (0, 30) rfl) (by omega) (by omega) q_v231 ?_
                      refine qm_Ru.go 3 (c' := (49, [.ref 28, .int b, .int y, .int r, .int 3, .int v231], [.ref 28, .int v231], h)) rfl ?_
                      refine hk_getr rfl (hH.1 28 (9, 8) rfl) rfl hT.2 ?_
                      refine qm_Ru.go 0 (c' := (52, [.ref 28, .int b, .int y, .int r, .int 3, .int v231], [.ref 111, .int v231], h)) rfl ?_
                      obtain ⟨v232, q_v232⟩ : ∃ v, h.2.1 111 4 = v := ⟨_, rfl⟩
                      refine hk_geti (v := v232) rfl (hH.1 111 (11, 16) rfl) rfl q_v232 ?_
                      refine qm_Ru.go 0 (c' := (55, [.ref 28, .int b, .int y, .int r, .int 3, .int v231], [.int v232, .int v231], h)) rfl ?_
                      refine hk_cle (ix := v231.toInt) (iy := v232.toInt) rfl rfl rfl (fun z233 => ?_) (fun z233 => ?_)
                      · refine qm_Ru.go 4 (c' := (66, [.ref 28, .int b, .int y, .int r, .int 3, .int v231], [.int v231, .int r, .int y, .ref 28], h)) rfl ?_
                        refine hk_inv (o := 28) (r := []) (as := [.ref 28, .int y, .int r, .int v231]) rfl rfl (hH.1 28 (9, 8) rfl) rfl rfl rfl rfl (hs_borne111 h6 hH hT hB (v_C_ru hV) ⟨by show (0 : Int) ≤ y.toInt; omega, by show y.toInt ≤ (4 : Int); omega⟩ ⟨by show (0 : Int) ≤ r.toInt; omega, by show r.toInt ≤ (3 : Int); omega⟩ (qa_in_full _) (by omega) (fun v234 I235 J236 c_v234 _ e_I235 => ?_))
                        have e_I235 : I235 = h.2.1 := funext fun o => funext fun i => e_I235 o rfl i
                        subst e_I235
                        have b_v234 : (0 : Int) ≤ v234.toInt ∧ v234.toInt ≤ 1 := c_v234
                        refine qm_Ru.go 0 (c' := (69, [.ref 28, .int b, .int y, .int r, .int 3, .int v231], [.int v234], (h.1, h.2.1, J236, h.2.2.2))) rfl ?_
                        refine hk_zne (ix := v234.toInt) rfl rfl (fun z237 => ?_) (fun z237 => ?_)
                        · refine qm_Ru.go 2 (c' := (90, [.ref 28, .int b, .int y, .int r, .int 3, .int v231], [.int 3], (h.1, h.2.1, J236, h.2.2.2))) rfl ?_
                          refine qm_Ru.rt (v := (some (.int 3))) (h' := (h.1, h.2.1, J236, h.2.2.2)) rfl ?_
                          exact k1 3 J236 (t_free1 (t := 3) (by omega) (by omega) (by decide) q_v229 (by omega) (by omega) q_v223 (by omega) (by omega)) (t_had0 (by omega) q_v8 (by omega) q_v95 (by omega))
                        · refine qm_Ru.go 4 (c' := (77, [.ref 28, .int b, .int y, .int r, .int 3, .int v231], [.int v231, .int r, .int y, .ref 28], (h.1, h.2.1, J236, h.2.2.2))) rfl ?_
                          refine hk_inv (o := 28) (r := []) (as := [.ref 28, .int y, .int r, .int v231]) rfl rfl (hH.1 28 (9, 8) rfl) rfl rfl rfl rfl (hs_nowor111 h6 hH hT hB (v_C_ru hV) ⟨by show (0 : Int) ≤ y.toInt; omega, by show y.toInt ≤ (4 : Int); omega⟩ ⟨by show (0 : Int) ≤ r.toInt; omega, by show r.toInt ≤ (3 : Int); omega⟩ (qa_in_full _) (by omega) (fun v238 I239 J240 c_v238 _ e_I239 => ?_))
                          have e_I239 : I239 = h.2.1 := funext fun o => funext fun i => e_I239 o rfl i
                          subst e_I239
                          have b_v238 : (0 : Int) ≤ v238.toInt ∧ v238.toInt ≤ 1 := c_v238
                          refine qm_Ru.go 0 (c' := (80, [.ref 28, .int b, .int y, .int r, .int 3, .int v231], [.int v238], (h.1, h.2.1, J240, h.2.2.2))) rfl ?_
                          refine hk_zeq (ix := v238.toInt) rfl rfl (fun z241 => ?_) (fun z241 => ?_)
                          · refine qm_Ru.go 1 (c' := (90, [.ref 28, .int b, .int y, .int r, .int 3, .int v231], [.int (-3)], (h.1, h.2.1, J240, h.2.2.2))) rfl ?_
                            refine qm_Ru.rt (v := (some (.int (-3)))) (h' := (h.1, h.2.1, J240, h.2.2.2)) rfl ?_
                            exact k0 (-3) J240 (by decide) (by decide)
                          · refine qm_Ru.go 2 (c' := (90, [.ref 28, .int b, .int y, .int r, .int 3, .int v231], [.int 3], (h.1, h.2.1, J240, h.2.2.2))) rfl ?_
                            refine qm_Ru.rt (v := (some (.int 3))) (h' := (h.1, h.2.1, J240, h.2.2.2)) rfl ?_
                            exact k1 3 J240 (t_free1 (t := 3) (by omega) (by omega) (by decide) q_v229 (by omega) (by omega) q_v223 (by omega) (by omega)) (t_had0 (by omega) q_v8 (by omega) q_v95 (by omega))
                      · refine qm_Ru.go 1 (c' := (60, [.ref 28, .int b, .int y, .int r, .int 3, .int v231], [.int (-2)], h)) rfl ?_
                        refine qm_Ru.rt (v := (some (.int (-2)))) (h' := h) rfl ?_
                        exact k0 (-2) h.2.2.1 (by decide) (by decide)
                  · refine qm_Ru.go 1 (c' := (22, [.ref 28, .int y, .int r, .int 2], [.int 2], h)) rfl ?_
                    refine qm_Ru.rt (v := (some (.int 2))) (h' := h) rfl ?_
                    refine qm_Ru.go 5 (c' := (36, [.ref 28, .int b, .int y, .int r, .int 2, .float 0], [.ref 28], h)) rfl ?_
                    refine hk_getr rfl (hH.1 28 (9, 8) rfl) rfl (hH.2 28 0 (some 6) rfl) ?_
                    refine qm_Ru.go 0 (c' := (39, [.ref 28, .int b, .int y, .int r, .int 2, .float 0], [.ref 6], h)) rfl ?_
                    refine hk_getr rfl (hH.1 6 (6, 9) rfl) rfl (hH.2 6 1 (some 7) rfl) ?_
                    refine qm_Ru.go 1 (c' := (43, [.ref 28, .int b, .int y, .int r, .int 2, .float 0], [.int b, .ref 7], h)) rfl ?_
                    obtain ⟨v242, q_v242⟩ : ∃ v, h.2.1 7 (b.toInt.toNat) = v := ⟨_, rfl⟩
                    have b_v242 : (0 : Int) ≤ v242.toInt ∧ v242.toInt ≤ 40 := by rw [← q_v242]; exact hB 7 (b.toInt.toNat)
                    refine hk_ial (v := v242) rfl (hH.1 7 (0, 30) rfl) (by omega) (by omega) q_v242 ?_
                    refine qm_Ru.go 3 (c' := (49, [.ref 28, .int b, .int y, .int r, .int 2, .int v242], [.ref 28, .int v242], h)) rfl ?_
                    refine hk_getr rfl (hH.1 28 (9, 8) rfl) rfl hT.2 ?_
                    refine qm_Ru.go 0 (c' := (52, [.ref 28, .int b, .int y, .int r, .int 2, .int v242], [.ref 111, .int v242], h)) rfl ?_
                    obtain ⟨v243, q_v243⟩ : ∃ v, h.2.1 111 4 = v := ⟨_, rfl⟩
                    refine hk_geti (v := v243) rfl (hH.1 111 (11, 16) rfl) rfl q_v243 ?_
                    refine qm_Ru.go 0 (c' := (55, [.ref 28, .int b, .int y, .int r, .int 2, .int v242], [.int v243, .int v242], h)) rfl ?_
                    refine hk_cle (ix := v242.toInt) (iy := v243.toInt) rfl rfl rfl (fun z244 => ?_) (fun z244 => ?_)
                    · refine qm_Ru.go 4 (c' := (66, [.ref 28, .int b, .int y, .int r, .int 2, .int v242], [.int v242, .int r, .int y, .ref 28], h)) rfl ?_
                      refine hk_inv (o := 28) (r := []) (as := [.ref 28, .int y, .int r, .int v242]) rfl rfl (hH.1 28 (9, 8) rfl) rfl rfl rfl rfl (hs_borne111 h6 hH hT hB (v_C_ru hV) ⟨by show (0 : Int) ≤ y.toInt; omega, by show y.toInt ≤ (4 : Int); omega⟩ ⟨by show (0 : Int) ≤ r.toInt; omega, by show r.toInt ≤ (3 : Int); omega⟩ (qa_in_full _) (by omega) (fun v245 I246 J247 c_v245 _ e_I246 => ?_))
                      have e_I246 : I246 = h.2.1 := funext fun o => funext fun i => e_I246 o rfl i
                      subst e_I246
                      have b_v245 : (0 : Int) ≤ v245.toInt ∧ v245.toInt ≤ 1 := c_v245
                      refine qm_Ru.go 0 (c' := (69, [.ref 28, .int b, .int y, .int r, .int 2, .int v242], [.int v245], (h.1, h.2.1, J247, h.2.2.2))) rfl ?_
                      refine hk_zne (ix := v245.toInt) rfl rfl (fun z248 => ?_) (fun z248 => ?_)
                      · refine qm_Ru.go 2 (c' := (90, [.ref 28, .int b, .int y, .int r, .int 2, .int v242], [.int 2], (h.1, h.2.1, J247, h.2.2.2))) rfl ?_
                        refine qm_Ru.rt (v := (some (.int 2))) (h' := (h.1, h.2.1, J247, h.2.2.2)) rfl ?_
                        exact k1 2 J247 (t_free0 (t := 2) (by omega) (by omega) (by decide) q_v223 (by omega) (by omega)) (t_had0 (by omega) q_v8 (by omega) q_v95 (by omega))
                      · refine qm_Ru.go 4 (c' := (77, [.ref 28, .int b, .int y, .int r, .int 2, .int v242], [.int v242, .int r, .int y, .ref 28], (h.1, h.2.1, J247, h.2.2.2))) rfl ?_
                        refine hk_inv (o := 28) (r := []) (as := [.ref 28, .int y, .int r, .int v242]) rfl rfl (hH.1 28 (9, 8) rfl) rfl rfl rfl rfl (hs_nowor111 h6 hH hT hB (v_C_ru hV) ⟨by show (0 : Int) ≤ y.toInt; omega, by show y.toInt ≤ (4 : Int); omega⟩ ⟨by show (0 : Int) ≤ r.toInt; omega, by show r.toInt ≤ (3 : Int); omega⟩ (qa_in_full _) (by omega) (fun v249 I250 J251 c_v249 _ e_I250 => ?_))
                        have e_I250 : I250 = h.2.1 := funext fun o => funext fun i => e_I250 o rfl i
                        subst e_I250
                        have b_v249 : (0 : Int) ≤ v249.toInt ∧ v249.toInt ≤ 1 := c_v249
                        refine qm_Ru.go 0 (c' := (80, [.ref 28, .int b, .int y, .int r, .int 2, .int v242], [.int v249], (h.1, h.2.1, J251, h.2.2.2))) rfl ?_
                        refine hk_zeq (ix := v249.toInt) rfl rfl (fun z252 => ?_) (fun z252 => ?_)
                        · refine qm_Ru.go 1 (c' := (90, [.ref 28, .int b, .int y, .int r, .int 2, .int v242], [.int (-3)], (h.1, h.2.1, J251, h.2.2.2))) rfl ?_
                          refine qm_Ru.rt (v := (some (.int (-3)))) (h' := (h.1, h.2.1, J251, h.2.2.2)) rfl ?_
                          exact k0 (-3) J251 (by decide) (by decide)
                        · refine qm_Ru.go 2 (c' := (90, [.ref 28, .int b, .int y, .int r, .int 2, .int v242], [.int 2], (h.1, h.2.1, J251, h.2.2.2))) rfl ?_
                          refine qm_Ru.rt (v := (some (.int 2))) (h' := (h.1, h.2.1, J251, h.2.2.2)) rfl ?_
                          exact k1 2 J251 (t_free0 (t := 2) (by omega) (by omega) (by decide) q_v223 (by omega) (by omega)) (t_had0 (by omega) q_v8 (by omega) q_v95 (by omega))
                    · refine qm_Ru.go 1 (c' := (60, [.ref 28, .int b, .int y, .int r, .int 2, .int v242], [.int (-2)], h)) rfl ?_
                      refine qm_Ru.rt (v := (some (.int (-2)))) (h' := h) rfl ?_
                      exact k0 (-2) h.2.2.1 (by decide) (by decide)
