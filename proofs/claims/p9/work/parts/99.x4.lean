/-! contracts of the reference by hand -/
theorem hq_rload {L : Nat} {xs : Nat → Int32} {d : Nat} {Z : Option Value → qm_H → Prop} {h : qm_H} (h6 : 6 ≤ L) (hH : hk_H h) (hB : hk_B h.2.1) (hV : v_R h.2.1) {b y r : Int32} (k : ∀ (v : Int32) (I : Nat → Nat → Int32) (J : Nat → Nat → Int64), (-3 : Int) ≤ v.toInt ∧ v.toInt ≤ 3 → hk_B I → v_R I → (∀ o, [146, 147, 148, 149, 150, 151, 152, 153, 154, 155, 156].contains o = false → ∀ i, I o i = h.2.1 o i) → (0 ≤ v.toInt → (I 150 (b.toInt.toNat)).toInt = 1 ∧ 0 ≤ b.toInt ∧ b.toInt ≤ 29) → (∀ i, i ≠ b.toInt.toNat → I 150 i = h.2.1 150 i) → Z (some (.int v)) (h.1, I, J, h.2.2.2)) : qm_Ru (some (L, xs)) (d + 60) cd_284 (qm_ent 7 [.ref 118, .int b, .int y, .int r] h) Z := by
  refine qm_Ru.go 2 (c' := (2, [.ref 118, .int b, .int y, .int r, .float 0, .float 0, .float 0], [.int b, .ref 118], h)) rfl ?_
  refine hk_inv (o := 118) (r := []) (as := [.ref 118, .int b]) rfl rfl (hH.1 118 (17, 105) rfl) rfl rfl rfl rfl ?_
  refine qm_Ru.go 3 (c' := (3, [.ref 118, .int b], [.ref 118, .int 0, .int b], h)) rfl ?_
  obtain ⟨v1, q_v1⟩ : ∃ v, h.2.1 118 44 = v := ⟨_, rfl⟩
  have b_v1 : (0 : Int) ≤ v1.toInt ∧ v1.toInt ≤ 30 := by rw [← q_v1]; exact hB 118 44
  refine hk_geti (v := v1) rfl (hH.1 118 (17, 105) rfl) rfl q_v1 ?_
  refine qm_Ru.go 2 (c' := (8, [.ref 118, .int b], [.int (v1 - 1), .int 0, .int b], h)) rfl ?_
  obtain ⟨v2, q_v2, e_v2⟩ := hk_sub (x := v1) (y := 1) (a := v1.toInt) (b := 1) rfl rfl (by omega) (by omega)
  rw [q_v2]
  refine qm_Ru.call (j := 270) (as := [.int b, .int 0, .int v2]) (c' := (11, [.ref 118, .int b], [], h)) rfl rfl rfl ?_
  refine qm_Ru.go 2 (c' := (2, [.int b, .int 0, .int v2], [.int 0, .int b], h)) rfl ?_
  refine hk_clt (ix := b.toInt) (iy := 0) rfl rfl rfl (fun z3 => ?_) (fun z3 => ?_)
  · refine qm_Ru.go 1 (c' := (15, [.int b, .int 0, .int v2], [.int 0], h)) rfl ?_
    refine qm_Ru.rt (v := (some (.int 0))) (h' := h) rfl ?_
    refine qm_Ru.go 0 (c' := (11, [.ref 118, .int b], [.int 0], h)) rfl ?_
    refine qm_Ru.rt (v := (some (.int 0))) (h' := h) rfl ?_
    refine qm_Ru.go 2 (c' := (32, [.ref 118, .int b, .int y, .int r, .float 0, .float 0, .float 0], [.int (-1)], h)) rfl ?_
    refine qm_Ru.rt (v := (some (.int (-1)))) (h' := h) rfl ?_
    exact k (-1) (h.2.1) (h.2.2.1) ⟨by decide, by decide⟩ hB hV (fun o ho i => rfl) (fun c => absurd c (by decide)) (fun i hi => rfl)
  · refine qm_Ru.go 2 (c' := (7, [.int b, .int 0, .int v2], [.int v2, .int b], h)) rfl ?_
    refine hk_cgt (ix := b.toInt) (iy := v2.toInt) rfl rfl rfl (fun z4 => ?_) (fun z4 => ?_)
    · refine qm_Ru.go 1 (c' := (15, [.int b, .int 0, .int v2], [.int 0], h)) rfl ?_
      refine qm_Ru.rt (v := (some (.int 0))) (h' := h) rfl ?_
      refine qm_Ru.go 0 (c' := (11, [.ref 118, .int b], [.int 0], h)) rfl ?_
      refine qm_Ru.rt (v := (some (.int 0))) (h' := h) rfl ?_
      refine qm_Ru.go 2 (c' := (32, [.ref 118, .int b, .int y, .int r, .float 0, .float 0, .float 0], [.int (-1)], h)) rfl ?_
      refine qm_Ru.rt (v := (some (.int (-1)))) (h' := h) rfl ?_
      exact k (-1) (h.2.1) (h.2.2.1) ⟨by decide, by decide⟩ hB hV (fun o ho i => rfl) (fun c => absurd c (by decide)) (fun i hi => rfl)
    · refine qm_Ru.go 2 (c' := (15, [.int b, .int 0, .int v2], [.int 1], h)) rfl ?_
      refine qm_Ru.rt (v := (some (.int 1))) (h' := h) rfl ?_
      refine qm_Ru.go 0 (c' := (11, [.ref 118, .int b], [.int 1], h)) rfl ?_
      refine qm_Ru.rt (v := (some (.int 1))) (h' := h) rfl ?_
      refine qm_Ru.go 3 (c' := (10, [.ref 118, .int b, .int y, .int r, .float 0, .float 0, .float 0], [.int y, .ref 118], h)) rfl ?_
      refine hk_inv (o := 118) (r := []) (as := [.ref 118, .int y]) rfl rfl (hH.1 118 (17, 105) rfl) rfl rfl rfl rfl ?_
      refine qm_Ru.go 3 (c' := (3, [.ref 118, .int y], [.ref 118, .int 0, .int y], h)) rfl ?_
      refine hk_getr rfl (hH.1 118 (17, 105) rfl) rfl (hH.2 118 22 (some 127) rfl) ?_
      refine qm_Ru.go 1 (c' := (7, [.ref 118, .int y], [.ref 118, .ref 127, .int 0, .int y], h)) rfl ?_
      obtain ⟨v5, q_v5⟩ : ∃ v, h.2.1 118 18 = v := ⟨_, rfl⟩
      have b_v5 : (0 : Int) ≤ v5.toInt ∧ v5.toInt ≤ 1 := by rw [← q_v5]; exact hB 118 18
      refine hk_geti (v := v5) rfl (hH.1 118 (17, 105) rfl) rfl q_v5 ?_
      refine qm_Ru.go 0 (c' := (10, [.ref 118, .int y], [.int v5, .ref 127, .int 0, .int y], h)) rfl ?_
      obtain ⟨v6, q_v6⟩ : ∃ v, h.2.1 127 (v5.toInt.toNat) = v := ⟨_, rfl⟩
      have b_v6 : (0 : Int) ≤ v6.toInt ∧ v6.toInt ≤ 5 := by rw [← q_v6]; exact hB 127 (v5.toInt.toNat)
      refine hk_ial (v := v6) rfl (hH.1 127 (0, 2) rfl) (by omega) (by omega) q_v6 ?_
      refine qm_Ru.go 2 (c' := (13, [.ref 118, .int y], [.int (v6 - 1), .int 0, .int y], h)) rfl ?_
      obtain ⟨v7, q_v7, e_v7⟩ := hk_sub (x := v6) (y := 1) (a := v6.toInt) (b := 1) rfl rfl (by omega) (by omega)
      rw [q_v7]
      refine qm_Ru.call (j := 270) (as := [.int y, .int 0, .int v7]) (c' := (16, [.ref 118, .int y], [], h)) rfl rfl rfl ?_
      refine qm_Ru.go 2 (c' := (2, [.int y, .int 0, .int v7], [.int 0, .int y], h)) rfl ?_
      refine hk_clt (ix := y.toInt) (iy := 0) rfl rfl rfl (fun z8 => ?_) (fun z8 => ?_)
      · refine qm_Ru.go 1 (c' := (15, [.int y, .int 0, .int v7], [.int 0], h)) rfl ?_
        refine qm_Ru.rt (v := (some (.int 0))) (h' := h) rfl ?_
        refine qm_Ru.go 0 (c' := (16, [.ref 118, .int y], [.int 0], h)) rfl ?_
        refine qm_Ru.rt (v := (some (.int 0))) (h' := h) rfl ?_
        refine qm_Ru.go 2 (c' := (32, [.ref 118, .int b, .int y, .int r, .float 0, .float 0, .float 0], [.int (-1)], h)) rfl ?_
        refine qm_Ru.rt (v := (some (.int (-1)))) (h' := h) rfl ?_
        exact k (-1) (h.2.1) (h.2.2.1) ⟨by decide, by decide⟩ hB hV (fun o ho i => rfl) (fun c => absurd c (by decide)) (fun i hi => rfl)
      · refine qm_Ru.go 2 (c' := (7, [.int y, .int 0, .int v7], [.int v7, .int y], h)) rfl ?_
        refine hk_cgt (ix := y.toInt) (iy := v7.toInt) rfl rfl rfl (fun z9 => ?_) (fun z9 => ?_)
        · refine qm_Ru.go 1 (c' := (15, [.int y, .int 0, .int v7], [.int 0], h)) rfl ?_
          refine qm_Ru.rt (v := (some (.int 0))) (h' := h) rfl ?_
          refine qm_Ru.go 0 (c' := (16, [.ref 118, .int y], [.int 0], h)) rfl ?_
          refine qm_Ru.rt (v := (some (.int 0))) (h' := h) rfl ?_
          refine qm_Ru.go 2 (c' := (32, [.ref 118, .int b, .int y, .int r, .float 0, .float 0, .float 0], [.int (-1)], h)) rfl ?_
          refine qm_Ru.rt (v := (some (.int (-1)))) (h' := h) rfl ?_
          exact k (-1) (h.2.1) (h.2.2.1) ⟨by decide, by decide⟩ hB hV (fun o ho i => rfl) (fun c => absurd c (by decide)) (fun i hi => rfl)
        · refine qm_Ru.go 2 (c' := (15, [.int y, .int 0, .int v7], [.int 1], h)) rfl ?_
          refine qm_Ru.rt (v := (some (.int 1))) (h' := h) rfl ?_
          refine qm_Ru.go 0 (c' := (16, [.ref 118, .int y], [.int 1], h)) rfl ?_
          refine qm_Ru.rt (v := (some (.int 1))) (h' := h) rfl ?_
          refine qm_Ru.go 2 (c' := (17, [.ref 118, .int b, .int y, .int r, .float 0, .float 0, .float 0], [.int r], h)) rfl ?_
          refine qm_Ru.call (j := 278) (as := [.int r]) (c' := (20, [.ref 118, .int b, .int y, .int r, .float 0, .float 0, .float 0], [], h)) rfl rfl rfl ?_
          refine qm_Ru.go 3 (c' := (3, [.int r], [.int 3, .int 0, .int r], h)) rfl ?_
          refine qm_Ru.call (j := 270) (as := [.int r, .int 0, .int 3]) (c' := (6, [.int r], [], h)) rfl rfl rfl ?_
          refine qm_Ru.go 2 (c' := (2, [.int r, .int 0, .int 3], [.int 0, .int r], h)) rfl ?_
          refine hk_clt (ix := r.toInt) (iy := 0) rfl rfl rfl (fun z10 => ?_) (fun z10 => ?_)
          · refine qm_Ru.go 1 (c' := (15, [.int r, .int 0, .int 3], [.int 0], h)) rfl ?_
            refine qm_Ru.rt (v := (some (.int 0))) (h' := h) rfl ?_
            refine qm_Ru.go 0 (c' := (6, [.int r], [.int 0], h)) rfl ?_
            refine qm_Ru.rt (v := (some (.int 0))) (h' := h) rfl ?_
            refine qm_Ru.go 2 (c' := (32, [.ref 118, .int b, .int y, .int r, .float 0, .float 0, .float 0], [.int (-1)], h)) rfl ?_
            refine qm_Ru.rt (v := (some (.int (-1)))) (h' := h) rfl ?_
            exact k (-1) (h.2.1) (h.2.2.1) ⟨by decide, by decide⟩ hB hV (fun o ho i => rfl) (fun c => absurd c (by decide)) (fun i hi => rfl)
          · refine qm_Ru.go 2 (c' := (7, [.int r, .int 0, .int 3], [.int 3, .int r], h)) rfl ?_
            refine hk_cgt (ix := r.toInt) (iy := 3) rfl rfl rfl (fun z11 => ?_) (fun z11 => ?_)
            · refine qm_Ru.go 1 (c' := (15, [.int r, .int 0, .int 3], [.int 0], h)) rfl ?_
              refine qm_Ru.rt (v := (some (.int 0))) (h' := h) rfl ?_
              refine qm_Ru.go 0 (c' := (6, [.int r], [.int 0], h)) rfl ?_
              refine qm_Ru.rt (v := (some (.int 0))) (h' := h) rfl ?_
              refine qm_Ru.go 2 (c' := (32, [.ref 118, .int b, .int y, .int r, .float 0, .float 0, .float 0], [.int (-1)], h)) rfl ?_
              refine qm_Ru.rt (v := (some (.int (-1)))) (h' := h) rfl ?_
              exact k (-1) (h.2.1) (h.2.2.1) ⟨by decide, by decide⟩ hB hV (fun o ho i => rfl) (fun c => absurd c (by decide)) (fun i hi => rfl)
            · refine qm_Ru.go 2 (c' := (15, [.int r, .int 0, .int 3], [.int 1], h)) rfl ?_
              refine qm_Ru.rt (v := (some (.int 1))) (h' := h) rfl ?_
              refine qm_Ru.go 0 (c' := (6, [.int r], [.int 1], h)) rfl ?_
              refine qm_Ru.rt (v := (some (.int 1))) (h' := h) rfl ?_
              refine qm_Ru.go 3 (c' := (25, [.ref 118, .int b, .int y, .int r, .float 0, .float 0, .float 0], [.int b, .ref 118], h)) rfl ?_
              refine hk_inv (o := 118) (r := []) (as := [.ref 118, .int b]) rfl rfl (hH.1 118 (17, 105) rfl) rfl rfl rfl rfl ?_
              refine qm_Ru.go 1 (c' := (1, [.ref 118, .int b], [.ref 118], h)) rfl ?_
              refine hk_getr rfl (hH.1 118 (17, 105) rfl) rfl (hH.2 118 49 (some 150) rfl) ?_
              refine qm_Ru.go 1 (c' := (5, [.ref 118, .int b], [.int b, .ref 150], h)) rfl ?_
              obtain ⟨v12, q_v12⟩ : ∃ v, h.2.1 150 (b.toInt.toNat) = v := ⟨_, rfl⟩
              have b_v12 : (0 : Int) ≤ v12.toInt ∧ v12.toInt ≤ 2 := by rw [← q_v12]; exact hB 150 (b.toInt.toNat)
              refine hk_ial (v := v12) rfl (hH.1 150 (0, 30) rfl) (by omega) (by omega) q_v12 ?_
              refine qm_Ru.go 0 (c' := (6, [.ref 118, .int b], [.int v12], h)) rfl ?_
              refine hk_zeq (ix := v12.toInt) rfl rfl (fun z13 => ?_) (fun z13 => ?_)
              · refine qm_Ru.go 2 (c' := (50, [.ref 118, .int b], [.int 1], h)) rfl ?_
                refine qm_Ru.rt (v := (some (.int 1))) (h' := h) rfl ?_
                refine qm_Ru.go 4 (c' := (36, [.ref 118, .int b, .int y, .int r, .float 0, .float 0, .float 0], [.int r, .int y, .ref 118], h)) rfl ?_
                refine hk_inv (o := 118) (r := []) (as := [.ref 118, .int y, .int r]) rfl rfl (hH.1 118 (17, 105) rfl) rfl rfl rfl rfl ?_
                refine qm_Ru.go 3 (c' := (4, [.ref 118, .int y, .int r, .float 0], [.int (16 * y)], h)) rfl ?_
                obtain ⟨v14, q_v14, e_v14⟩ := hk_mul (x := 16) (y := y) (a := 16) (b := y.toInt) rfl rfl (by omega) (by omega)
                rw [q_v14]
                refine qm_Ru.go 3 (c' := (7, [.ref 118, .int y, .int r, .float 0], [.int (4 * r), .int v14], h)) rfl ?_
                obtain ⟨v15, q_v15, e_v15⟩ := hk_mul (x := 4) (y := r) (a := 4) (b := r.toInt) rfl rfl (by omega) (by omega)
                rw [q_v15]
                refine qm_Ru.go 1 (c' := (8, [.ref 118, .int y, .int r, .float 0], [.int (v14 + v15)], h)) rfl ?_
                obtain ⟨v16, q_v16, e_v16⟩ := hk_add (x := v14) (y := v15) (a := v14.toInt) (b := v15.toInt) rfl rfl (by omega) (by omega)
                rw [q_v16]
                refine qm_Ru.go 2 (c' := (10, [.ref 118, .int y, .int r, .float 0], [.int y, .ref 118, .int v16], h)) rfl ?_
                refine hk_inv (o := 118) (r := [.int v16]) (as := [.ref 118, .int y]) rfl rfl (hH.1 118 (17, 105) rfl) rfl rfl rfl rfl ?_
                refine qm_Ru.go 1 (c' := (1, [.ref 118, .int y], [.ref 118], h)) rfl ?_
                obtain ⟨v17, q_v17⟩ : ∃ v, h.2.1 118 54 = v := ⟨_, rfl⟩
                refine hk_geti (v := v17) rfl (hH.1 118 (17, 105) rfl) rfl q_v17 ?_
                refine qm_Ru.go 2 (c' := (6, [.ref 118, .int y], [.int (v17 >>> (y &&& 31))], h)) rfl ?_
                obtain ⟨v18, q_v18⟩ : ∃ v, (v17 >>> (y &&& 31)) = v := ⟨_, rfl⟩
                rw [q_v18]
                refine qm_Ru.go 2 (c' := (8, [.ref 118, .int y], [.int (v18 &&& 1)], h)) rfl ?_
                obtain ⟨v19, q_v19⟩ : ∃ v, (v18 &&& 1) = v := ⟨_, rfl⟩
                rw [q_v19]
                refine qm_Ru.go 1 (c' := (9, [.ref 118, .int y], [.int 1, .int v19], h)) rfl ?_
                refine hk_cne (ix := v19.toInt) (iy := 1) rfl rfl rfl (fun z20 => ?_) (fun z20 => ?_)
                · refine qm_Ru.go 1 (c' := (17, [.ref 118, .int y], [.int 0], h)) rfl ?_
                  refine qm_Ru.rt (v := (some (.int 0))) (h' := h) rfl ?_
                  refine qm_Ru.go 3 (c' := (22, [.ref 118, .int y, .int r, .float 0], [.int (v16 + 0)], h)) rfl ?_
                  obtain ⟨v21, q_v21, e_v21⟩ := hk_add (x := v16) (y := 0) (a := v16.toInt) (b := 0) rfl rfl (by omega) (by omega)
                  rw [q_v21]
                  refine qm_Ru.go 2 (c' := (24, [.ref 118, .int y, .int r, .int v21], [.ref 118], h)) rfl ?_
                  refine hk_getr rfl (hH.1 118 (17, 105) rfl) rfl (hH.2 118 51 (some 152) rfl) ?_
                  refine qm_Ru.go 1 (c' := (28, [.ref 118, .int y, .int r, .int v21], [.int v21, .ref 152], h)) rfl ?_
                  obtain ⟨v22, q_v22⟩ : ∃ v, h.2.1 152 (v21.toInt.toNat) = v := ⟨_, rfl⟩
                  have b_v22 : (-1 : Int) ≤ v22.toInt ∧ v22.toInt ≤ 29 := by rw [← q_v22]; exact hB 152 (v21.toInt.toNat)
                  refine hk_ial (v := v22) rfl (hH.1 152 (0, 80) rfl) (by omega) (by omega) q_v22 ?_
                  refine qm_Ru.go 1 (c' := (30, [.ref 118, .int y, .int r, .int v21], [.int (-1), .int v22], h)) rfl ?_
                  refine hk_cne (ix := v22.toInt) (iy := (-1)) rfl rfl rfl (fun z23 => ?_) (fun z23 => ?_)
                  · refine qm_Ru.go 1 (c' := (38, [.ref 118, .int y, .int r, .int v21], [.ref 118], h)) rfl ?_
                    refine hk_getr rfl (hH.1 118 (17, 105) rfl) rfl (hH.2 118 51 (some 152) rfl) ?_
                    refine qm_Ru.go 3 (c' := (44, [.ref 118, .int y, .int r, .int v21], [.int (v21 + 1), .ref 152], h)) rfl ?_
                    obtain ⟨v24, q_v24, e_v24⟩ := hk_add (x := v21) (y := 1) (a := v21.toInt) (b := 1) rfl rfl (by omega) (by omega)
                    rw [q_v24]
                    obtain ⟨v25, q_v25⟩ : ∃ v, h.2.1 152 (v24.toInt.toNat) = v := ⟨_, rfl⟩
                    have b_v25 : (-1 : Int) ≤ v25.toInt ∧ v25.toInt ≤ 29 := by rw [← q_v25]; exact hB 152 (v24.toInt.toNat)
                    refine hk_ial (v := v25) rfl (hH.1 152 (0, 80) rfl) (by omega) (by omega) q_v25 ?_
                    refine qm_Ru.go 1 (c' := (46, [.ref 118, .int y, .int r, .int v21], [.int (-1), .int v25], h)) rfl ?_
                    refine hk_cne (ix := v25.toInt) (iy := (-1)) rfl rfl rfl (fun z26 => ?_) (fun z26 => ?_)
                    · refine qm_Ru.go 1 (c' := (56, [.ref 118, .int y, .int r, .int v21], [.int (-1)], h)) rfl ?_
                      refine qm_Ru.rt (v := (some (.int (-1)))) (h' := h) rfl ?_
                      refine qm_Ru.go 5 (c' := (48, [.ref 118, .int b, .int y, .int r, .int (-1), .float 0, .float 0], [.int (-1)], h)) rfl ?_
                      refine qm_Ru.rt (v := (some (.int (-1)))) (h' := h) rfl ?_
                      exact k (-1) (h.2.1) (h.2.2.1) ⟨by decide, by decide⟩ hB hV (fun o ho i => rfl) (fun c => absurd c (by decide)) (fun i hi => rfl)
                    · refine qm_Ru.go 3 (c' := (52, [.ref 118, .int y, .int r, .int v21], [.int (v21 + 1)], h)) rfl ?_
                      rw [q_v24]
                      refine qm_Ru.go 1 (c' := (56, [.ref 118, .int y, .int r, .int v21], [.int v24], h)) rfl ?_
                      refine qm_Ru.rt (v := (some (.int v24))) (h' := h) rfl ?_
                      refine qm_Ru.go 3 (c' := (44, [.ref 118, .int b, .int y, .int r, .int v24, .float 0, .float 0], [.int (-1), .int v24], h)) rfl ?_
                      refine hk_cne (ix := v24.toInt) (iy := (-1)) rfl rfl rfl (fun z28 => ?_) (fun z28 => by exfalso; omega)
                      refine qm_Ru.go 1 (c' := (50, [.ref 118, .int b, .int y, .int r, .int v24, .float 0, .float 0], [.ref 118], h)) rfl ?_
                      refine hk_getr rfl (hH.1 118 (17, 105) rfl) rfl (hH.2 118 45 (some 146) rfl) ?_
                      refine qm_Ru.go 1 (c' := (54, [.ref 118, .int b, .int y, .int r, .int v24, .float 0, .float 0], [.int b, .ref 146], h)) rfl ?_
                      obtain ⟨v29, q_v29⟩ : ∃ v, h.2.1 146 (b.toInt.toNat) = v := ⟨_, rfl⟩
                      have b_v29 : (0 : Int) ≤ v29.toInt ∧ v29.toInt ≤ 40 := by rw [← q_v29]; exact hB 146 (b.toInt.toNat)
                      refine hk_ial (v := v29) rfl (hH.1 146 (0, 30) rfl) (by omega) (by omega) q_v29 ?_
                      refine qm_Ru.go 1 (c' := (56, [.ref 118, .int b, .int y, .int r, .int v24, .float 0, .float 0], [.ref 118, .int v29], h)) rfl ?_
                      refine hk_getr rfl (hH.1 118 (17, 105) rfl) rfl (hH.2 118 24 (some 129) rfl) ?_
                      refine qm_Ru.go 1 (c' := (60, [.ref 118, .int b, .int y, .int r, .int v24, .float 0, .float 0], [.ref 118, .ref 129, .int v29], h)) rfl ?_
                      refine hk_geti (v := v5) rfl (hH.1 118 (17, 105) rfl) rfl q_v5 ?_
                      refine qm_Ru.go 0 (c' := (63, [.ref 118, .int b, .int y, .int r, .int v24, .float 0, .float 0], [.int v5, .ref 129, .int v29], h)) rfl ?_
                      obtain ⟨v30, q_v30⟩ : ∃ v, h.2.1 129 (v5.toInt.toNat) = v := ⟨_, rfl⟩
                      refine hk_ial (v := v30) rfl (hH.1 129 (0, 2) rfl) (by omega) (by omega) q_v30 ?_
                      refine qm_Ru.go 0 (c' := (64, [.ref 118, .int b, .int y, .int r, .int v24, .float 0, .float 0], [.int v30, .int v29], h)) rfl ?_
                      refine hk_cle (ix := v29.toInt) (iy := v30.toInt) rfl rfl rfl (fun z31 => ?_) (fun z31 => ?_)
                      · refine qm_Ru.go 1 (c' := (71, [.ref 118, .int b, .int y, .int r, .int v24, .float 0, .float 0], [.ref 118], h)) rfl ?_
                        refine hk_inv (o := 118) (r := []) (as := [.ref 118]) rfl rfl (hH.1 118 (17, 105) rfl) rfl rfl rfl rfl (hs_looks (h := h) h6 hH hB (v_R_ru hV)  (by omega) (fun I32 J33 hB_I32 e_I32 => ?_))
                        have hV_I32 : v_R I32 := v_R_cg hV e_I32 rfl
                        refine qm_Ru.go 1 (c' := (75, [.ref 118, .int b, .int y, .int r, .int v24, .float 0, .float 0], [.ref 118], (h.1, I32, J33, h.2.2.2))) rfl ?_
                        refine hk_getr rfl (hH.1 118 (17, 105) rfl) rfl (hH.2 118 49 (some 150) rfl) ?_
                        refine qm_Ru.go 1 (c' := (79, [.ref 118, .int b, .int y, .int r, .int v24, .float 0, .float 0], [.int b, .ref 150], (h.1, I32, J33, h.2.2.2))) rfl ?_
                        refine hk_ial (v := v12) rfl (hH.1 150 (0, 30) rfl) (by omega) (by omega) (show (I32) 150 (b.toInt.toNat) = _ from ((e_I32 150 rfl (b.toInt.toNat)).trans q_v12)) ?_
                        refine qm_Ru.go 2 (c' := (83, [.ref 118, .int b, .int y, .int r, .int v24, .int v12, .float 0], [.ref 118], (h.1, I32, J33, h.2.2.2))) rfl ?_
                        refine hk_getr rfl (hH.1 118 (17, 105) rfl) rfl (hH.2 118 50 (some 151) rfl) ?_
                        refine qm_Ru.go 1 (c' := (87, [.ref 118, .int b, .int y, .int r, .int v24, .int v12, .float 0], [.int b, .ref 151], (h.1, I32, J33, h.2.2.2))) rfl ?_
                        obtain ⟨v34, q_v34⟩ : ∃ v, h.2.1 151 (b.toInt.toNat) = v := ⟨_, rfl⟩
                        have b_v34 : (0 : Int) ≤ v34.toInt ∧ v34.toInt ≤ 79 := by rw [← q_v34]; exact hB 151 (b.toInt.toNat)
                        refine hk_ial (v := v34) rfl (hH.1 151 (0, 30) rfl) (by omega) (by omega) (show (I32) 151 (b.toInt.toNat) = _ from ((e_I32 151 rfl (b.toInt.toNat)).trans q_v34)) ?_
                        refine qm_Ru.go 3 (c' := (92, [.ref 118, .int b, .int y, .int r, .int v24, .int v12, .int v34], [.int b, .ref 118], (h.1, I32, J33, h.2.2.2))) rfl ?_
                        refine hk_inv (o := 118) (r := []) (as := [.ref 118, .int b]) rfl rfl (hH.1 118 (17, 105) rfl) rfl rfl rfl rfl (rl_none (h := (h.1, I32, J33, h.2.2.2)) hH (b := b) (by omega) (show pI (I32) 150 (b.toInt.toNat) = 0 from (congrArg Int32.toInt (show (I32) 150 (b.toInt.toNat) = _ from ((e_I32 150 rfl (b.toInt.toNat)).trans q_v12))).trans (by omega)) ?_)
                        refine qm_Ru.go 3 (c' := (99, [.ref 118, .int b, .int y, .int r, .int v24, .int v12, .int v34], [.int v24, .int b, .ref 118], (h.1, I32, J33, h.2.2.2))) rfl ?_
                        refine hk_inv (o := 118) (r := []) (as := [.ref 118, .int b, .int v24]) rfl rfl (hH.1 118 (17, 105) rfl) rfl rfl rfl rfl (rb_boards (h := (h.1, I32, J33, h.2.2.2)) hH hB_I32 hV_I32 (b := b) (k0 := v24) (by omega) (by omega) (show pI (I32) 150 (b.toInt.toNat) = 0 from (congrArg Int32.toInt (show (I32) 150 (b.toInt.toNat) = _ from ((e_I32 150 rfl (b.toInt.toNat)).trans q_v12))).trans (by omega)) (show ((b.toInt.toNat : Nat) : Int) < ((I32) 118 44).toInt from by rw [(show (I32) 118 44 = _ from ((e_I32 118 rfl 44).trans q_v1))]; omega) (fun I36 hB_I36 hV_I36 e_I36 p0_I36 pn_I36 p1_I36 pm_I36 => ?_))
                        obtain ⟨v37, q_v37⟩ : ∃ v, I36 150 (b.toInt.toNat) = v := ⟨_, rfl⟩
                        have f_v37 : v37.toInt = 1 := by rw [← q_v37]; exact p0_I36
                        obtain ⟨v38, q_v38⟩ : ∃ v, I36 151 (b.toInt.toNat) = v := ⟨_, rfl⟩
                        have f_v38 : v38.toInt = v24.toInt := by rw [← q_v38]; exact (congrArg Int32.toInt p1_I36)
                        refine qm_Ru.go 1 (c' := (103, [.ref 118, .int b, .int y, .int r, .int v24, .int v12, .int v34], [.ref 118], (h.1, I36, J33, h.2.2.2))) rfl ?_
                        refine hk_inv (o := 118) (r := []) (as := [.ref 118]) rfl rfl (hH.1 118 (17, 105) rfl) rfl rfl rfl rfl (hs_maybe (h := (h.1, I36, J33, h.2.2.2)) h6 hH hB_I36 (v_R_ru hV_I36)  (by omega) (fun v41 I39 J40 c_v41 hB_I39 e_I39 => ?_))
                        have hV_I39 : v_R I39 := v_R_cg hV_I36 e_I39 rfl
                        have b_v41 : (0 : Int) ≤ v41.toInt ∧ v41.toInt ≤ 1 := c_v41
                        refine qm_Ru.go 0 (c' := (106, [.ref 118, .int b, .int y, .int r, .int v24, .int v12, .int v34], [.int v41], (h.1, I39, J40, h.2.2.2))) rfl ?_
                        refine hk_zeq (ix := v41.toInt) rfl rfl (fun z42 => ?_) (fun z42 => ?_)
                        · refine qm_Ru.go 2 (c' := (116, [.ref 118, .int b, .int y, .int r, .int v24, .int v12, .int v34], [.int b, .ref 118], (h.1, I39, J40, h.2.2.2))) rfl ?_
                          refine hk_inv (o := 118) (r := []) (as := [.ref 118, .int b]) rfl rfl (hH.1 118 (17, 105) rfl) rfl rfl rfl rfl (rl_away (h := (h.1, I39, J40, h.2.2.2)) hH hB_I39 hV_I39 (b := b) (by omega) (show pI (I39) 150 (b.toInt.toNat) = 1 from (congrArg Int32.toInt (show (I39) 150 (b.toInt.toNat) = _ from ((e_I39 150 rfl (b.toInt.toNat)).trans q_v37))).trans (by omega)) (fun I43 hB_I43 hV_I43 e_I43 p0_I43 pn_I43 => ?_))
                          obtain ⟨v44, q_v44⟩ : ∃ v, I43 150 (b.toInt.toNat) = v := ⟨_, rfl⟩
                          have f_v44 : v44.toInt = 0 := by rw [← q_v44]; exact p0_I43
                          refine qm_Ru.go 2 (c' := (122, [.ref 118, .int b, .int y, .int r, .int v24, .int v12, .int v34], [.int 2, .int v12], (h.1, I43, J40, h.2.2.2))) rfl ?_
                          refine hk_cne (ix := v12.toInt) (iy := 2) rfl rfl rfl (fun z45 => ?_) (fun z45 => by exfalso; omega)
                          refine qm_Ru.go 1 (c' := (136, [.ref 118, .int b, .int y, .int r, .int v24, .int v12, .int v34], [.int (-3)], (h.1, I43, J40, h.2.2.2))) rfl ?_
                          refine qm_Ru.rt (v := (some (.int (-3)))) (h' := (h.1, I43, J40, h.2.2.2)) rfl ?_
                          exact k (-3) (I43) (J40) ⟨by decide, by decide⟩ hB_I43 hV_I43 (fun o ho i => ((e_I43 o (hk_ms rfl ho) i).trans ((e_I39 o (hk_ms rfl ho) i).trans ((e_I36 o (hk_ms rfl ho) i).trans ((e_I32 o (hk_ms rfl ho) i).trans rfl))))) (fun c => absurd c (by decide)) (fun i hi => ((pn_I43 i hi).trans ((e_I39 150 rfl i).trans ((pn_I36 i hi).trans ((e_I32 150 rfl i).trans rfl)))))
                        · refine qm_Ru.go 3 (c' := (113, [.ref 118, .int b, .int y, .int r, .int v24, .int v12, .int v34], [.int (v24 - v24 / 4 * 4)], (h.1, I39, J40, h.2.2.2))) rfl ?_
                          obtain ⟨v46, q_v46, e_v46⟩ := hk_rem (x := v24) (y := 4) (a := v24.toInt) (b := 4) rfl rfl (by omega) (by omega)
                          rw [q_v46]
                          refine qm_Ru.rt (v := (some (.int v46))) (h' := (h.1, I39, J40, h.2.2.2)) rfl ?_
                          exact k v46 (I39) (J40) ⟨by omega, by omega⟩ hB_I39 hV_I39 (fun o ho i => ((e_I39 o (hk_ms rfl ho) i).trans ((e_I36 o (hk_ms rfl ho) i).trans ((e_I32 o (hk_ms rfl ho) i).trans rfl)))) (fun _ => ⟨(congrArg Int32.toInt (show (I39) 150 (b.toInt.toNat) = _ from ((e_I39 150 rfl (b.toInt.toNat)).trans q_v37))).trans (by omega), by omega, by omega⟩) (fun i hi => ((e_I39 150 rfl i).trans ((pn_I36 i hi).trans ((e_I32 150 rfl i).trans rfl))))
                      · refine qm_Ru.go 1 (c' := (69, [.ref 118, .int b, .int y, .int r, .int v24, .float 0, .float 0], [.int (-2)], h)) rfl ?_
                        refine qm_Ru.rt (v := (some (.int (-2)))) (h' := h) rfl ?_
                        exact k (-2) (h.2.1) (h.2.2.1) ⟨by decide, by decide⟩ hB hV (fun o ho i => rfl) (fun c => absurd c (by decide)) (fun i hi => rfl)
                  · refine qm_Ru.go 2 (c' := (56, [.ref 118, .int y, .int r, .int v21], [.int v21], h)) rfl ?_
                    refine qm_Ru.rt (v := (some (.int v21))) (h' := h) rfl ?_
                    refine qm_Ru.go 3 (c' := (44, [.ref 118, .int b, .int y, .int r, .int v21, .float 0, .float 0], [.int (-1), .int v21], h)) rfl ?_
                    refine hk_cne (ix := v21.toInt) (iy := (-1)) rfl rfl rfl (fun z47 => ?_) (fun z47 => by exfalso; omega)
                    refine qm_Ru.go 1 (c' := (50, [.ref 118, .int b, .int y, .int r, .int v21, .float 0, .float 0], [.ref 118], h)) rfl ?_
                    refine hk_getr rfl (hH.1 118 (17, 105) rfl) rfl (hH.2 118 45 (some 146) rfl) ?_
                    refine qm_Ru.go 1 (c' := (54, [.ref 118, .int b, .int y, .int r, .int v21, .float 0, .float 0], [.int b, .ref 146], h)) rfl ?_
                    obtain ⟨v48, q_v48⟩ : ∃ v, h.2.1 146 (b.toInt.toNat) = v := ⟨_, rfl⟩
                    have b_v48 : (0 : Int) ≤ v48.toInt ∧ v48.toInt ≤ 40 := by rw [← q_v48]; exact hB 146 (b.toInt.toNat)
                    refine hk_ial (v := v48) rfl (hH.1 146 (0, 30) rfl) (by omega) (by omega) q_v48 ?_
                    refine qm_Ru.go 1 (c' := (56, [.ref 118, .int b, .int y, .int r, .int v21, .float 0, .float 0], [.ref 118, .int v48], h)) rfl ?_
                    refine hk_getr rfl (hH.1 118 (17, 105) rfl) rfl (hH.2 118 24 (some 129) rfl) ?_
                    refine qm_Ru.go 1 (c' := (60, [.ref 118, .int b, .int y, .int r, .int v21, .float 0, .float 0], [.ref 118, .ref 129, .int v48], h)) rfl ?_
                    refine hk_geti (v := v5) rfl (hH.1 118 (17, 105) rfl) rfl q_v5 ?_
                    refine qm_Ru.go 0 (c' := (63, [.ref 118, .int b, .int y, .int r, .int v21, .float 0, .float 0], [.int v5, .ref 129, .int v48], h)) rfl ?_
                    obtain ⟨v49, q_v49⟩ : ∃ v, h.2.1 129 (v5.toInt.toNat) = v := ⟨_, rfl⟩
                    refine hk_ial (v := v49) rfl (hH.1 129 (0, 2) rfl) (by omega) (by omega) q_v49 ?_
                    refine qm_Ru.go 0 (c' := (64, [.ref 118, .int b, .int y, .int r, .int v21, .float 0, .float 0], [.int v49, .int v48], h)) rfl ?_
                    refine hk_cle (ix := v48.toInt) (iy := v49.toInt) rfl rfl rfl (fun z50 => ?_) (fun z50 => ?_)
                    · refine qm_Ru.go 1 (c' := (71, [.ref 118, .int b, .int y, .int r, .int v21, .float 0, .float 0], [.ref 118], h)) rfl ?_
                      refine hk_inv (o := 118) (r := []) (as := [.ref 118]) rfl rfl (hH.1 118 (17, 105) rfl) rfl rfl rfl rfl (hs_looks (h := h) h6 hH hB (v_R_ru hV)  (by omega) (fun I51 J52 hB_I51 e_I51 => ?_))
                      have hV_I51 : v_R I51 := v_R_cg hV e_I51 rfl
                      refine qm_Ru.go 1 (c' := (75, [.ref 118, .int b, .int y, .int r, .int v21, .float 0, .float 0], [.ref 118], (h.1, I51, J52, h.2.2.2))) rfl ?_
                      refine hk_getr rfl (hH.1 118 (17, 105) rfl) rfl (hH.2 118 49 (some 150) rfl) ?_
                      refine qm_Ru.go 1 (c' := (79, [.ref 118, .int b, .int y, .int r, .int v21, .float 0, .float 0], [.int b, .ref 150], (h.1, I51, J52, h.2.2.2))) rfl ?_
                      refine hk_ial (v := v12) rfl (hH.1 150 (0, 30) rfl) (by omega) (by omega) (show (I51) 150 (b.toInt.toNat) = _ from ((e_I51 150 rfl (b.toInt.toNat)).trans q_v12)) ?_
                      refine qm_Ru.go 2 (c' := (83, [.ref 118, .int b, .int y, .int r, .int v21, .int v12, .float 0], [.ref 118], (h.1, I51, J52, h.2.2.2))) rfl ?_
                      refine hk_getr rfl (hH.1 118 (17, 105) rfl) rfl (hH.2 118 50 (some 151) rfl) ?_
                      refine qm_Ru.go 1 (c' := (87, [.ref 118, .int b, .int y, .int r, .int v21, .int v12, .float 0], [.int b, .ref 151], (h.1, I51, J52, h.2.2.2))) rfl ?_
                      obtain ⟨v53, q_v53⟩ : ∃ v, h.2.1 151 (b.toInt.toNat) = v := ⟨_, rfl⟩
                      have b_v53 : (0 : Int) ≤ v53.toInt ∧ v53.toInt ≤ 79 := by rw [← q_v53]; exact hB 151 (b.toInt.toNat)
                      refine hk_ial (v := v53) rfl (hH.1 151 (0, 30) rfl) (by omega) (by omega) (show (I51) 151 (b.toInt.toNat) = _ from ((e_I51 151 rfl (b.toInt.toNat)).trans q_v53)) ?_
                      refine qm_Ru.go 3 (c' := (92, [.ref 118, .int b, .int y, .int r, .int v21, .int v12, .int v53], [.int b, .ref 118], (h.1, I51, J52, h.2.2.2))) rfl ?_
                      refine hk_inv (o := 118) (r := []) (as := [.ref 118, .int b]) rfl rfl (hH.1 118 (17, 105) rfl) rfl rfl rfl rfl (rl_none (h := (h.1, I51, J52, h.2.2.2)) hH (b := b) (by omega) (show pI (I51) 150 (b.toInt.toNat) = 0 from (congrArg Int32.toInt (show (I51) 150 (b.toInt.toNat) = _ from ((e_I51 150 rfl (b.toInt.toNat)).trans q_v12))).trans (by omega)) ?_)
                      refine qm_Ru.go 3 (c' := (99, [.ref 118, .int b, .int y, .int r, .int v21, .int v12, .int v53], [.int v21, .int b, .ref 118], (h.1, I51, J52, h.2.2.2))) rfl ?_
                      refine hk_inv (o := 118) (r := []) (as := [.ref 118, .int b, .int v21]) rfl rfl (hH.1 118 (17, 105) rfl) rfl rfl rfl rfl (rb_boards (h := (h.1, I51, J52, h.2.2.2)) hH hB_I51 hV_I51 (b := b) (k0 := v21) (by omega) (by omega) (show pI (I51) 150 (b.toInt.toNat) = 0 from (congrArg Int32.toInt (show (I51) 150 (b.toInt.toNat) = _ from ((e_I51 150 rfl (b.toInt.toNat)).trans q_v12))).trans (by omega)) (show ((b.toInt.toNat : Nat) : Int) < ((I51) 118 44).toInt from by rw [(show (I51) 118 44 = _ from ((e_I51 118 rfl 44).trans q_v1))]; omega) (fun I55 hB_I55 hV_I55 e_I55 p0_I55 pn_I55 p1_I55 pm_I55 => ?_))
                      obtain ⟨v56, q_v56⟩ : ∃ v, I55 150 (b.toInt.toNat) = v := ⟨_, rfl⟩
                      have f_v56 : v56.toInt = 1 := by rw [← q_v56]; exact p0_I55
                      obtain ⟨v57, q_v57⟩ : ∃ v, I55 151 (b.toInt.toNat) = v := ⟨_, rfl⟩
                      have f_v57 : v57.toInt = v21.toInt := by rw [← q_v57]; exact (congrArg Int32.toInt p1_I55)
                      refine qm_Ru.go 1 (c' := (103, [.ref 118, .int b, .int y, .int r, .int v21, .int v12, .int v53], [.ref 118], (h.1, I55, J52, h.2.2.2))) rfl ?_
                      refine hk_inv (o := 118) (r := []) (as := [.ref 118]) rfl rfl (hH.1 118 (17, 105) rfl) rfl rfl rfl rfl (hs_maybe (h := (h.1, I55, J52, h.2.2.2)) h6 hH hB_I55 (v_R_ru hV_I55)  (by omega) (fun v60 I58 J59 c_v60 hB_I58 e_I58 => ?_))
                      have hV_I58 : v_R I58 := v_R_cg hV_I55 e_I58 rfl
                      have b_v60 : (0 : Int) ≤ v60.toInt ∧ v60.toInt ≤ 1 := c_v60
                      refine qm_Ru.go 0 (c' := (106, [.ref 118, .int b, .int y, .int r, .int v21, .int v12, .int v53], [.int v60], (h.1, I58, J59, h.2.2.2))) rfl ?_
                      refine hk_zeq (ix := v60.toInt) rfl rfl (fun z61 => ?_) (fun z61 => ?_)
                      · refine qm_Ru.go 2 (c' := (116, [.ref 118, .int b, .int y, .int r, .int v21, .int v12, .int v53], [.int b, .ref 118], (h.1, I58, J59, h.2.2.2))) rfl ?_
                        refine hk_inv (o := 118) (r := []) (as := [.ref 118, .int b]) rfl rfl (hH.1 118 (17, 105) rfl) rfl rfl rfl rfl (rl_away (h := (h.1, I58, J59, h.2.2.2)) hH hB_I58 hV_I58 (b := b) (by omega) (show pI (I58) 150 (b.toInt.toNat) = 1 from (congrArg Int32.toInt (show (I58) 150 (b.toInt.toNat) = _ from ((e_I58 150 rfl (b.toInt.toNat)).trans q_v56))).trans (by omega)) (fun I62 hB_I62 hV_I62 e_I62 p0_I62 pn_I62 => ?_))
                        obtain ⟨v63, q_v63⟩ : ∃ v, I62 150 (b.toInt.toNat) = v := ⟨_, rfl⟩
                        have f_v63 : v63.toInt = 0 := by rw [← q_v63]; exact p0_I62
                        refine qm_Ru.go 2 (c' := (122, [.ref 118, .int b, .int y, .int r, .int v21, .int v12, .int v53], [.int 2, .int v12], (h.1, I62, J59, h.2.2.2))) rfl ?_
                        refine hk_cne (ix := v12.toInt) (iy := 2) rfl rfl rfl (fun z64 => ?_) (fun z64 => by exfalso; omega)
                        refine qm_Ru.go 1 (c' := (136, [.ref 118, .int b, .int y, .int r, .int v21, .int v12, .int v53], [.int (-3)], (h.1, I62, J59, h.2.2.2))) rfl ?_
                        refine qm_Ru.rt (v := (some (.int (-3)))) (h' := (h.1, I62, J59, h.2.2.2)) rfl ?_
                        exact k (-3) (I62) (J59) ⟨by decide, by decide⟩ hB_I62 hV_I62 (fun o ho i => ((e_I62 o (hk_ms rfl ho) i).trans ((e_I58 o (hk_ms rfl ho) i).trans ((e_I55 o (hk_ms rfl ho) i).trans ((e_I51 o (hk_ms rfl ho) i).trans rfl))))) (fun c => absurd c (by decide)) (fun i hi => ((pn_I62 i hi).trans ((e_I58 150 rfl i).trans ((pn_I55 i hi).trans ((e_I51 150 rfl i).trans rfl)))))
                      · refine qm_Ru.go 3 (c' := (113, [.ref 118, .int b, .int y, .int r, .int v21, .int v12, .int v53], [.int (v21 - v21 / 4 * 4)], (h.1, I58, J59, h.2.2.2))) rfl ?_
                        obtain ⟨v65, q_v65, e_v65⟩ := hk_rem (x := v21) (y := 4) (a := v21.toInt) (b := 4) rfl rfl (by omega) (by omega)
                        rw [q_v65]
                        refine qm_Ru.rt (v := (some (.int v65))) (h' := (h.1, I58, J59, h.2.2.2)) rfl ?_
                        exact k v65 (I58) (J59) ⟨by omega, by omega⟩ hB_I58 hV_I58 (fun o ho i => ((e_I58 o (hk_ms rfl ho) i).trans ((e_I55 o (hk_ms rfl ho) i).trans ((e_I51 o (hk_ms rfl ho) i).trans rfl)))) (fun _ => ⟨(congrArg Int32.toInt (show (I58) 150 (b.toInt.toNat) = _ from ((e_I58 150 rfl (b.toInt.toNat)).trans q_v56))).trans (by omega), by omega, by omega⟩) (fun i hi => ((e_I58 150 rfl i).trans ((pn_I55 i hi).trans ((e_I51 150 rfl i).trans rfl))))
                    · refine qm_Ru.go 1 (c' := (69, [.ref 118, .int b, .int y, .int r, .int v21, .float 0, .float 0], [.int (-2)], h)) rfl ?_
                      refine qm_Ru.rt (v := (some (.int (-2)))) (h' := h) rfl ?_
                      exact k (-2) (h.2.1) (h.2.2.1) ⟨by decide, by decide⟩ hB hV (fun o ho i => rfl) (fun c => absurd c (by decide)) (fun i hi => rfl)
                · refine qm_Ru.go 2 (c' := (17, [.ref 118, .int y], [.int 1], h)) rfl ?_
                  refine qm_Ru.rt (v := (some (.int 1))) (h' := h) rfl ?_
                  refine qm_Ru.go 4 (c' := (22, [.ref 118, .int y, .int r, .float 0], [.int (v16 + 2)], h)) rfl ?_
                  obtain ⟨v66, q_v66, e_v66⟩ := hk_add (x := v16) (y := 2) (a := v16.toInt) (b := 2) rfl rfl (by omega) (by omega)
                  rw [q_v66]
                  refine qm_Ru.go 2 (c' := (24, [.ref 118, .int y, .int r, .int v66], [.ref 118], h)) rfl ?_
                  refine hk_getr rfl (hH.1 118 (17, 105) rfl) rfl (hH.2 118 51 (some 152) rfl) ?_
                  refine qm_Ru.go 1 (c' := (28, [.ref 118, .int y, .int r, .int v66], [.int v66, .ref 152], h)) rfl ?_
                  obtain ⟨v67, q_v67⟩ : ∃ v, h.2.1 152 (v66.toInt.toNat) = v := ⟨_, rfl⟩
                  have b_v67 : (-1 : Int) ≤ v67.toInt ∧ v67.toInt ≤ 29 := by rw [← q_v67]; exact hB 152 (v66.toInt.toNat)
                  refine hk_ial (v := v67) rfl (hH.1 152 (0, 80) rfl) (by omega) (by omega) q_v67 ?_
                  refine qm_Ru.go 1 (c' := (30, [.ref 118, .int y, .int r, .int v66], [.int (-1), .int v67], h)) rfl ?_
                  refine hk_cne (ix := v67.toInt) (iy := (-1)) rfl rfl rfl (fun z68 => ?_) (fun z68 => ?_)
                  · refine qm_Ru.go 1 (c' := (38, [.ref 118, .int y, .int r, .int v66], [.ref 118], h)) rfl ?_
                    refine hk_getr rfl (hH.1 118 (17, 105) rfl) rfl (hH.2 118 51 (some 152) rfl) ?_
                    refine qm_Ru.go 3 (c' := (44, [.ref 118, .int y, .int r, .int v66], [.int (v66 + 1), .ref 152], h)) rfl ?_
                    obtain ⟨v69, q_v69, e_v69⟩ := hk_add (x := v66) (y := 1) (a := v66.toInt) (b := 1) rfl rfl (by omega) (by omega)
                    rw [q_v69]
                    obtain ⟨v70, q_v70⟩ : ∃ v, h.2.1 152 (v69.toInt.toNat) = v := ⟨_, rfl⟩
                    have b_v70 : (-1 : Int) ≤ v70.toInt ∧ v70.toInt ≤ 29 := by rw [← q_v70]; exact hB 152 (v69.toInt.toNat)
                    refine hk_ial (v := v70) rfl (hH.1 152 (0, 80) rfl) (by omega) (by omega) q_v70 ?_
                    refine qm_Ru.go 1 (c' := (46, [.ref 118, .int y, .int r, .int v66], [.int (-1), .int v70], h)) rfl ?_
                    refine hk_cne (ix := v70.toInt) (iy := (-1)) rfl rfl rfl (fun z71 => ?_) (fun z71 => ?_)
                    · refine qm_Ru.go 1 (c' := (56, [.ref 118, .int y, .int r, .int v66], [.int (-1)], h)) rfl ?_
                      refine qm_Ru.rt (v := (some (.int (-1)))) (h' := h) rfl ?_
                      refine qm_Ru.go 5 (c' := (48, [.ref 118, .int b, .int y, .int r, .int (-1), .float 0, .float 0], [.int (-1)], h)) rfl ?_
                      refine qm_Ru.rt (v := (some (.int (-1)))) (h' := h) rfl ?_
                      exact k (-1) (h.2.1) (h.2.2.1) ⟨by decide, by decide⟩ hB hV (fun o ho i => rfl) (fun c => absurd c (by decide)) (fun i hi => rfl)
                    · refine qm_Ru.go 3 (c' := (52, [.ref 118, .int y, .int r, .int v66], [.int (v66 + 1)], h)) rfl ?_
                      rw [q_v69]
                      refine qm_Ru.go 1 (c' := (56, [.ref 118, .int y, .int r, .int v66], [.int v69], h)) rfl ?_
                      refine qm_Ru.rt (v := (some (.int v69))) (h' := h) rfl ?_
                      refine qm_Ru.go 3 (c' := (44, [.ref 118, .int b, .int y, .int r, .int v69, .float 0, .float 0], [.int (-1), .int v69], h)) rfl ?_
                      refine hk_cne (ix := v69.toInt) (iy := (-1)) rfl rfl rfl (fun z73 => ?_) (fun z73 => by exfalso; omega)
                      refine qm_Ru.go 1 (c' := (50, [.ref 118, .int b, .int y, .int r, .int v69, .float 0, .float 0], [.ref 118], h)) rfl ?_
                      refine hk_getr rfl (hH.1 118 (17, 105) rfl) rfl (hH.2 118 45 (some 146) rfl) ?_
                      refine qm_Ru.go 1 (c' := (54, [.ref 118, .int b, .int y, .int r, .int v69, .float 0, .float 0], [.int b, .ref 146], h)) rfl ?_
                      obtain ⟨v74, q_v74⟩ : ∃ v, h.2.1 146 (b.toInt.toNat) = v := ⟨_, rfl⟩
                      have b_v74 : (0 : Int) ≤ v74.toInt ∧ v74.toInt ≤ 40 := by rw [← q_v74]; exact hB 146 (b.toInt.toNat)
                      refine hk_ial (v := v74) rfl (hH.1 146 (0, 30) rfl) (by omega) (by omega) q_v74 ?_
                      refine qm_Ru.go 1 (c' := (56, [.ref 118, .int b, .int y, .int r, .int v69, .float 0, .float 0], [.ref 118, .int v74], h)) rfl ?_
                      refine hk_getr rfl (hH.1 118 (17, 105) rfl) rfl (hH.2 118 24 (some 129) rfl) ?_
                      refine qm_Ru.go 1 (c' := (60, [.ref 118, .int b, .int y, .int r, .int v69, .float 0, .float 0], [.ref 118, .ref 129, .int v74], h)) rfl ?_
                      refine hk_geti (v := v5) rfl (hH.1 118 (17, 105) rfl) rfl q_v5 ?_
                      refine qm_Ru.go 0 (c' := (63, [.ref 118, .int b, .int y, .int r, .int v69, .float 0, .float 0], [.int v5, .ref 129, .int v74], h)) rfl ?_
                      obtain ⟨v75, q_v75⟩ : ∃ v, h.2.1 129 (v5.toInt.toNat) = v := ⟨_, rfl⟩
                      refine hk_ial (v := v75) rfl (hH.1 129 (0, 2) rfl) (by omega) (by omega) q_v75 ?_
                      refine qm_Ru.go 0 (c' := (64, [.ref 118, .int b, .int y, .int r, .int v69, .float 0, .float 0], [.int v75, .int v74], h)) rfl ?_
                      refine hk_cle (ix := v74.toInt) (iy := v75.toInt) rfl rfl rfl (fun z76 => ?_) (fun z76 => ?_)
                      · refine qm_Ru.go 1 (c' := (71, [.ref 118, .int b, .int y, .int r, .int v69, .float 0, .float 0], [.ref 118], h)) rfl ?_
                        refine hk_inv (o := 118) (r := []) (as := [.ref 118]) rfl rfl (hH.1 118 (17, 105) rfl) rfl rfl rfl rfl (hs_looks (h := h) h6 hH hB (v_R_ru hV)  (by omega) (fun I77 J78 hB_I77 e_I77 => ?_))
                        have hV_I77 : v_R I77 := v_R_cg hV e_I77 rfl
                        refine qm_Ru.go 1 (c' := (75, [.ref 118, .int b, .int y, .int r, .int v69, .float 0, .float 0], [.ref 118], (h.1, I77, J78, h.2.2.2))) rfl ?_
                        refine hk_getr rfl (hH.1 118 (17, 105) rfl) rfl (hH.2 118 49 (some 150) rfl) ?_
                        refine qm_Ru.go 1 (c' := (79, [.ref 118, .int b, .int y, .int r, .int v69, .float 0, .float 0], [.int b, .ref 150], (h.1, I77, J78, h.2.2.2))) rfl ?_
                        refine hk_ial (v := v12) rfl (hH.1 150 (0, 30) rfl) (by omega) (by omega) (show (I77) 150 (b.toInt.toNat) = _ from ((e_I77 150 rfl (b.toInt.toNat)).trans q_v12)) ?_
                        refine qm_Ru.go 2 (c' := (83, [.ref 118, .int b, .int y, .int r, .int v69, .int v12, .float 0], [.ref 118], (h.1, I77, J78, h.2.2.2))) rfl ?_
                        refine hk_getr rfl (hH.1 118 (17, 105) rfl) rfl (hH.2 118 50 (some 151) rfl) ?_
                        refine qm_Ru.go 1 (c' := (87, [.ref 118, .int b, .int y, .int r, .int v69, .int v12, .float 0], [.int b, .ref 151], (h.1, I77, J78, h.2.2.2))) rfl ?_
                        obtain ⟨v79, q_v79⟩ : ∃ v, h.2.1 151 (b.toInt.toNat) = v := ⟨_, rfl⟩
                        have b_v79 : (0 : Int) ≤ v79.toInt ∧ v79.toInt ≤ 79 := by rw [← q_v79]; exact hB 151 (b.toInt.toNat)
                        refine hk_ial (v := v79) rfl (hH.1 151 (0, 30) rfl) (by omega) (by omega) (show (I77) 151 (b.toInt.toNat) = _ from ((e_I77 151 rfl (b.toInt.toNat)).trans q_v79)) ?_
                        refine qm_Ru.go 3 (c' := (92, [.ref 118, .int b, .int y, .int r, .int v69, .int v12, .int v79], [.int b, .ref 118], (h.1, I77, J78, h.2.2.2))) rfl ?_
                        refine hk_inv (o := 118) (r := []) (as := [.ref 118, .int b]) rfl rfl (hH.1 118 (17, 105) rfl) rfl rfl rfl rfl (rl_none (h := (h.1, I77, J78, h.2.2.2)) hH (b := b) (by omega) (show pI (I77) 150 (b.toInt.toNat) = 0 from (congrArg Int32.toInt (show (I77) 150 (b.toInt.toNat) = _ from ((e_I77 150 rfl (b.toInt.toNat)).trans q_v12))).trans (by omega)) ?_)
                        refine qm_Ru.go 3 (c' := (99, [.ref 118, .int b, .int y, .int r, .int v69, .int v12, .int v79], [.int v69, .int b, .ref 118], (h.1, I77, J78, h.2.2.2))) rfl ?_
                        refine hk_inv (o := 118) (r := []) (as := [.ref 118, .int b, .int v69]) rfl rfl (hH.1 118 (17, 105) rfl) rfl rfl rfl rfl (rb_boards (h := (h.1, I77, J78, h.2.2.2)) hH hB_I77 hV_I77 (b := b) (k0 := v69) (by omega) (by omega) (show pI (I77) 150 (b.toInt.toNat) = 0 from (congrArg Int32.toInt (show (I77) 150 (b.toInt.toNat) = _ from ((e_I77 150 rfl (b.toInt.toNat)).trans q_v12))).trans (by omega)) (show ((b.toInt.toNat : Nat) : Int) < ((I77) 118 44).toInt from by rw [(show (I77) 118 44 = _ from ((e_I77 118 rfl 44).trans q_v1))]; omega) (fun I81 hB_I81 hV_I81 e_I81 p0_I81 pn_I81 p1_I81 pm_I81 => ?_))
                        obtain ⟨v82, q_v82⟩ : ∃ v, I81 150 (b.toInt.toNat) = v := ⟨_, rfl⟩
                        have f_v82 : v82.toInt = 1 := by rw [← q_v82]; exact p0_I81
                        obtain ⟨v83, q_v83⟩ : ∃ v, I81 151 (b.toInt.toNat) = v := ⟨_, rfl⟩
                        have f_v83 : v83.toInt = v69.toInt := by rw [← q_v83]; exact (congrArg Int32.toInt p1_I81)
                        refine qm_Ru.go 1 (c' := (103, [.ref 118, .int b, .int y, .int r, .int v69, .int v12, .int v79], [.ref 118], (h.1, I81, J78, h.2.2.2))) rfl ?_
                        refine hk_inv (o := 118) (r := []) (as := [.ref 118]) rfl rfl (hH.1 118 (17, 105) rfl) rfl rfl rfl rfl (hs_maybe (h := (h.1, I81, J78, h.2.2.2)) h6 hH hB_I81 (v_R_ru hV_I81)  (by omega) (fun v86 I84 J85 c_v86 hB_I84 e_I84 => ?_))
                        have hV_I84 : v_R I84 := v_R_cg hV_I81 e_I84 rfl
                        have b_v86 : (0 : Int) ≤ v86.toInt ∧ v86.toInt ≤ 1 := c_v86
                        refine qm_Ru.go 0 (c' := (106, [.ref 118, .int b, .int y, .int r, .int v69, .int v12, .int v79], [.int v86], (h.1, I84, J85, h.2.2.2))) rfl ?_
                        refine hk_zeq (ix := v86.toInt) rfl rfl (fun z87 => ?_) (fun z87 => ?_)
                        · refine qm_Ru.go 2 (c' := (116, [.ref 118, .int b, .int y, .int r, .int v69, .int v12, .int v79], [.int b, .ref 118], (h.1, I84, J85, h.2.2.2))) rfl ?_
                          refine hk_inv (o := 118) (r := []) (as := [.ref 118, .int b]) rfl rfl (hH.1 118 (17, 105) rfl) rfl rfl rfl rfl (rl_away (h := (h.1, I84, J85, h.2.2.2)) hH hB_I84 hV_I84 (b := b) (by omega) (show pI (I84) 150 (b.toInt.toNat) = 1 from (congrArg Int32.toInt (show (I84) 150 (b.toInt.toNat) = _ from ((e_I84 150 rfl (b.toInt.toNat)).trans q_v82))).trans (by omega)) (fun I88 hB_I88 hV_I88 e_I88 p0_I88 pn_I88 => ?_))
                          obtain ⟨v89, q_v89⟩ : ∃ v, I88 150 (b.toInt.toNat) = v := ⟨_, rfl⟩
                          have f_v89 : v89.toInt = 0 := by rw [← q_v89]; exact p0_I88
                          refine qm_Ru.go 2 (c' := (122, [.ref 118, .int b, .int y, .int r, .int v69, .int v12, .int v79], [.int 2, .int v12], (h.1, I88, J85, h.2.2.2))) rfl ?_
                          refine hk_cne (ix := v12.toInt) (iy := 2) rfl rfl rfl (fun z90 => ?_) (fun z90 => by exfalso; omega)
                          refine qm_Ru.go 1 (c' := (136, [.ref 118, .int b, .int y, .int r, .int v69, .int v12, .int v79], [.int (-3)], (h.1, I88, J85, h.2.2.2))) rfl ?_
                          refine qm_Ru.rt (v := (some (.int (-3)))) (h' := (h.1, I88, J85, h.2.2.2)) rfl ?_
                          exact k (-3) (I88) (J85) ⟨by decide, by decide⟩ hB_I88 hV_I88 (fun o ho i => ((e_I88 o (hk_ms rfl ho) i).trans ((e_I84 o (hk_ms rfl ho) i).trans ((e_I81 o (hk_ms rfl ho) i).trans ((e_I77 o (hk_ms rfl ho) i).trans rfl))))) (fun c => absurd c (by decide)) (fun i hi => ((pn_I88 i hi).trans ((e_I84 150 rfl i).trans ((pn_I81 i hi).trans ((e_I77 150 rfl i).trans rfl)))))
                        · refine qm_Ru.go 3 (c' := (113, [.ref 118, .int b, .int y, .int r, .int v69, .int v12, .int v79], [.int (v69 - v69 / 4 * 4)], (h.1, I84, J85, h.2.2.2))) rfl ?_
                          obtain ⟨v91, q_v91, e_v91⟩ := hk_rem (x := v69) (y := 4) (a := v69.toInt) (b := 4) rfl rfl (by omega) (by omega)
                          rw [q_v91]
                          refine qm_Ru.rt (v := (some (.int v91))) (h' := (h.1, I84, J85, h.2.2.2)) rfl ?_
                          exact k v91 (I84) (J85) ⟨by omega, by omega⟩ hB_I84 hV_I84 (fun o ho i => ((e_I84 o (hk_ms rfl ho) i).trans ((e_I81 o (hk_ms rfl ho) i).trans ((e_I77 o (hk_ms rfl ho) i).trans rfl)))) (fun _ => ⟨(congrArg Int32.toInt (show (I84) 150 (b.toInt.toNat) = _ from ((e_I84 150 rfl (b.toInt.toNat)).trans q_v82))).trans (by omega), by omega, by omega⟩) (fun i hi => ((e_I84 150 rfl i).trans ((pn_I81 i hi).trans ((e_I77 150 rfl i).trans rfl))))
                      · refine qm_Ru.go 1 (c' := (69, [.ref 118, .int b, .int y, .int r, .int v69, .float 0, .float 0], [.int (-2)], h)) rfl ?_
                        refine qm_Ru.rt (v := (some (.int (-2)))) (h' := h) rfl ?_
                        exact k (-2) (h.2.1) (h.2.2.1) ⟨by decide, by decide⟩ hB hV (fun o ho i => rfl) (fun c => absurd c (by decide)) (fun i hi => rfl)
                  · refine qm_Ru.go 2 (c' := (56, [.ref 118, .int y, .int r, .int v66], [.int v66], h)) rfl ?_
                    refine qm_Ru.rt (v := (some (.int v66))) (h' := h) rfl ?_
                    refine qm_Ru.go 3 (c' := (44, [.ref 118, .int b, .int y, .int r, .int v66, .float 0, .float 0], [.int (-1), .int v66], h)) rfl ?_
                    refine hk_cne (ix := v66.toInt) (iy := (-1)) rfl rfl rfl (fun z92 => ?_) (fun z92 => by exfalso; omega)
                    refine qm_Ru.go 1 (c' := (50, [.ref 118, .int b, .int y, .int r, .int v66, .float 0, .float 0], [.ref 118], h)) rfl ?_
                    refine hk_getr rfl (hH.1 118 (17, 105) rfl) rfl (hH.2 118 45 (some 146) rfl) ?_
                    refine qm_Ru.go 1 (c' := (54, [.ref 118, .int b, .int y, .int r, .int v66, .float 0, .float 0], [.int b, .ref 146], h)) rfl ?_
                    obtain ⟨v93, q_v93⟩ : ∃ v, h.2.1 146 (b.toInt.toNat) = v := ⟨_, rfl⟩
                    have b_v93 : (0 : Int) ≤ v93.toInt ∧ v93.toInt ≤ 40 := by rw [← q_v93]; exact hB 146 (b.toInt.toNat)
                    refine hk_ial (v := v93) rfl (hH.1 146 (0, 30) rfl) (by omega) (by omega) q_v93 ?_
                    refine qm_Ru.go 1 (c' := (56, [.ref 118, .int b, .int y, .int r, .int v66, .float 0, .float 0], [.ref 118, .int v93], h)) rfl ?_
                    refine hk_getr rfl (hH.1 118 (17, 105) rfl) rfl (hH.2 118 24 (some 129) rfl) ?_
                    refine qm_Ru.go 1 (c' := (60, [.ref 118, .int b, .int y, .int r, .int v66, .float 0, .float 0], [.ref 118, .ref 129, .int v93], h)) rfl ?_
                    refine hk_geti (v := v5) rfl (hH.1 118 (17, 105) rfl) rfl q_v5 ?_
                    refine qm_Ru.go 0 (c' := (63, [.ref 118, .int b, .int y, .int r, .int v66, .float 0, .float 0], [.int v5, .ref 129, .int v93], h)) rfl ?_
                    obtain ⟨v94, q_v94⟩ : ∃ v, h.2.1 129 (v5.toInt.toNat) = v := ⟨_, rfl⟩
                    refine hk_ial (v := v94) rfl (hH.1 129 (0, 2) rfl) (by omega) (by omega) q_v94 ?_
                    refine qm_Ru.go 0 (c' := (64, [.ref 118, .int b, .int y, .int r, .int v66, .float 0, .float 0], [.int v94, .int v93], h)) rfl ?_
                    refine hk_cle (ix := v93.toInt) (iy := v94.toInt) rfl rfl rfl (fun z95 => ?_) (fun z95 => ?_)
                    · refine qm_Ru.go 1 (c' := (71, [.ref 118, .int b, .int y, .int r, .int v66, .float 0, .float 0], [.ref 118], h)) rfl ?_
                      refine hk_inv (o := 118) (r := []) (as := [.ref 118]) rfl rfl (hH.1 118 (17, 105) rfl) rfl rfl rfl rfl (hs_looks (h := h) h6 hH hB (v_R_ru hV)  (by omega) (fun I96 J97 hB_I96 e_I96 => ?_))
                      have hV_I96 : v_R I96 := v_R_cg hV e_I96 rfl
                      refine qm_Ru.go 1 (c' := (75, [.ref 118, .int b, .int y, .int r, .int v66, .float 0, .float 0], [.ref 118], (h.1, I96, J97, h.2.2.2))) rfl ?_
                      refine hk_getr rfl (hH.1 118 (17, 105) rfl) rfl (hH.2 118 49 (some 150) rfl) ?_
                      refine qm_Ru.go 1 (c' := (79, [.ref 118, .int b, .int y, .int r, .int v66, .float 0, .float 0], [.int b, .ref 150], (h.1, I96, J97, h.2.2.2))) rfl ?_
                      refine hk_ial (v := v12) rfl (hH.1 150 (0, 30) rfl) (by omega) (by omega) (show (I96) 150 (b.toInt.toNat) = _ from ((e_I96 150 rfl (b.toInt.toNat)).trans q_v12)) ?_
                      refine qm_Ru.go 2 (c' := (83, [.ref 118, .int b, .int y, .int r, .int v66, .int v12, .float 0], [.ref 118], (h.1, I96, J97, h.2.2.2))) rfl ?_
                      refine hk_getr rfl (hH.1 118 (17, 105) rfl) rfl (hH.2 118 50 (some 151) rfl) ?_
                      refine qm_Ru.go 1 (c' := (87, [.ref 118, .int b, .int y, .int r, .int v66, .int v12, .float 0], [.int b, .ref 151], (h.1, I96, J97, h.2.2.2))) rfl ?_
                      obtain ⟨v98, q_v98⟩ : ∃ v, h.2.1 151 (b.toInt.toNat) = v := ⟨_, rfl⟩
                      have b_v98 : (0 : Int) ≤ v98.toInt ∧ v98.toInt ≤ 79 := by rw [← q_v98]; exact hB 151 (b.toInt.toNat)
                      refine hk_ial (v := v98) rfl (hH.1 151 (0, 30) rfl) (by omega) (by omega) (show (I96) 151 (b.toInt.toNat) = _ from ((e_I96 151 rfl (b.toInt.toNat)).trans q_v98)) ?_
                      refine qm_Ru.go 3 (c' := (92, [.ref 118, .int b, .int y, .int r, .int v66, .int v12, .int v98], [.int b, .ref 118], (h.1, I96, J97, h.2.2.2))) rfl ?_
                      refine hk_inv (o := 118) (r := []) (as := [.ref 118, .int b]) rfl rfl (hH.1 118 (17, 105) rfl) rfl rfl rfl rfl (rl_none (h := (h.1, I96, J97, h.2.2.2)) hH (b := b) (by omega) (show pI (I96) 150 (b.toInt.toNat) = 0 from (congrArg Int32.toInt (show (I96) 150 (b.toInt.toNat) = _ from ((e_I96 150 rfl (b.toInt.toNat)).trans q_v12))).trans (by omega)) ?_)
                      refine qm_Ru.go 3 (c' := (99, [.ref 118, .int b, .int y, .int r, .int v66, .int v12, .int v98], [.int v66, .int b, .ref 118], (h.1, I96, J97, h.2.2.2))) rfl ?_
                      refine hk_inv (o := 118) (r := []) (as := [.ref 118, .int b, .int v66]) rfl rfl (hH.1 118 (17, 105) rfl) rfl rfl rfl rfl (rb_boards (h := (h.1, I96, J97, h.2.2.2)) hH hB_I96 hV_I96 (b := b) (k0 := v66) (by omega) (by omega) (show pI (I96) 150 (b.toInt.toNat) = 0 from (congrArg Int32.toInt (show (I96) 150 (b.toInt.toNat) = _ from ((e_I96 150 rfl (b.toInt.toNat)).trans q_v12))).trans (by omega)) (show ((b.toInt.toNat : Nat) : Int) < ((I96) 118 44).toInt from by rw [(show (I96) 118 44 = _ from ((e_I96 118 rfl 44).trans q_v1))]; omega) (fun I100 hB_I100 hV_I100 e_I100 p0_I100 pn_I100 p1_I100 pm_I100 => ?_))
                      obtain ⟨v101, q_v101⟩ : ∃ v, I100 150 (b.toInt.toNat) = v := ⟨_, rfl⟩
                      have f_v101 : v101.toInt = 1 := by rw [← q_v101]; exact p0_I100
                      obtain ⟨v102, q_v102⟩ : ∃ v, I100 151 (b.toInt.toNat) = v := ⟨_, rfl⟩
                      have f_v102 : v102.toInt = v66.toInt := by rw [← q_v102]; exact (congrArg Int32.toInt p1_I100)
                      refine qm_Ru.go 1 (c' := (103, [.ref 118, .int b, .int y, .int r, .int v66, .int v12, .int v98], [.ref 118], (h.1, I100, J97, h.2.2.2))) rfl ?_
                      refine hk_inv (o := 118) (r := []) (as := [.ref 118]) rfl rfl (hH.1 118 (17, 105) rfl) rfl rfl rfl rfl (hs_maybe (h := (h.1, I100, J97, h.2.2.2)) h6 hH hB_I100 (v_R_ru hV_I100)  (by omega) (fun v105 I103 J104 c_v105 hB_I103 e_I103 => ?_))
                      have hV_I103 : v_R I103 := v_R_cg hV_I100 e_I103 rfl
                      have b_v105 : (0 : Int) ≤ v105.toInt ∧ v105.toInt ≤ 1 := c_v105
                      refine qm_Ru.go 0 (c' := (106, [.ref 118, .int b, .int y, .int r, .int v66, .int v12, .int v98], [.int v105], (h.1, I103, J104, h.2.2.2))) rfl ?_
                      refine hk_zeq (ix := v105.toInt) rfl rfl (fun z106 => ?_) (fun z106 => ?_)
                      · refine qm_Ru.go 2 (c' := (116, [.ref 118, .int b, .int y, .int r, .int v66, .int v12, .int v98], [.int b, .ref 118], (h.1, I103, J104, h.2.2.2))) rfl ?_
                        refine hk_inv (o := 118) (r := []) (as := [.ref 118, .int b]) rfl rfl (hH.1 118 (17, 105) rfl) rfl rfl rfl rfl (rl_away (h := (h.1, I103, J104, h.2.2.2)) hH hB_I103 hV_I103 (b := b) (by omega) (show pI (I103) 150 (b.toInt.toNat) = 1 from (congrArg Int32.toInt (show (I103) 150 (b.toInt.toNat) = _ from ((e_I103 150 rfl (b.toInt.toNat)).trans q_v101))).trans (by omega)) (fun I107 hB_I107 hV_I107 e_I107 p0_I107 pn_I107 => ?_))
                        obtain ⟨v108, q_v108⟩ : ∃ v, I107 150 (b.toInt.toNat) = v := ⟨_, rfl⟩
                        have f_v108 : v108.toInt = 0 := by rw [← q_v108]; exact p0_I107
                        refine qm_Ru.go 2 (c' := (122, [.ref 118, .int b, .int y, .int r, .int v66, .int v12, .int v98], [.int 2, .int v12], (h.1, I107, J104, h.2.2.2))) rfl ?_
                        refine hk_cne (ix := v12.toInt) (iy := 2) rfl rfl rfl (fun z109 => ?_) (fun z109 => by exfalso; omega)
                        refine qm_Ru.go 1 (c' := (136, [.ref 118, .int b, .int y, .int r, .int v66, .int v12, .int v98], [.int (-3)], (h.1, I107, J104, h.2.2.2))) rfl ?_
                        refine qm_Ru.rt (v := (some (.int (-3)))) (h' := (h.1, I107, J104, h.2.2.2)) rfl ?_
                        exact k (-3) (I107) (J104) ⟨by decide, by decide⟩ hB_I107 hV_I107 (fun o ho i => ((e_I107 o (hk_ms rfl ho) i).trans ((e_I103 o (hk_ms rfl ho) i).trans ((e_I100 o (hk_ms rfl ho) i).trans ((e_I96 o (hk_ms rfl ho) i).trans rfl))))) (fun c => absurd c (by decide)) (fun i hi => ((pn_I107 i hi).trans ((e_I103 150 rfl i).trans ((pn_I100 i hi).trans ((e_I96 150 rfl i).trans rfl)))))
                      · refine qm_Ru.go 3 (c' := (113, [.ref 118, .int b, .int y, .int r, .int v66, .int v12, .int v98], [.int (v66 - v66 / 4 * 4)], (h.1, I103, J104, h.2.2.2))) rfl ?_
                        obtain ⟨v110, q_v110, e_v110⟩ := hk_rem (x := v66) (y := 4) (a := v66.toInt) (b := 4) rfl rfl (by omega) (by omega)
                        rw [q_v110]
                        refine qm_Ru.rt (v := (some (.int v110))) (h' := (h.1, I103, J104, h.2.2.2)) rfl ?_
                        exact k v110 (I103) (J104) ⟨by omega, by omega⟩ hB_I103 hV_I103 (fun o ho i => ((e_I103 o (hk_ms rfl ho) i).trans ((e_I100 o (hk_ms rfl ho) i).trans ((e_I96 o (hk_ms rfl ho) i).trans rfl)))) (fun _ => ⟨(congrArg Int32.toInt (show (I103) 150 (b.toInt.toNat) = _ from ((e_I103 150 rfl (b.toInt.toNat)).trans q_v101))).trans (by omega), by omega, by omega⟩) (fun i hi => ((e_I103 150 rfl i).trans ((pn_I100 i hi).trans ((e_I96 150 rfl i).trans rfl))))
                    · refine qm_Ru.go 1 (c' := (69, [.ref 118, .int b, .int y, .int r, .int v66, .float 0, .float 0], [.int (-2)], h)) rfl ?_
                      refine qm_Ru.rt (v := (some (.int (-2)))) (h' := h) rfl ?_
                      exact k (-2) (h.2.1) (h.2.2.1) ⟨by decide, by decide⟩ hB hV (fun o ho i => rfl) (fun c => absurd c (by decide)) (fun i hi => rfl)
              · refine qm_Ru.go 1 (c' := (10, [.ref 118, .int b], [.ref 118], h)) rfl ?_
                refine hk_getr rfl (hH.1 118 (17, 105) rfl) rfl (hH.2 118 49 (some 150) rfl) ?_
                refine qm_Ru.go 1 (c' := (14, [.ref 118, .int b], [.int b, .ref 150], h)) rfl ?_
                refine hk_ial (v := v12) rfl (hH.1 150 (0, 30) rfl) (by omega) (by omega) q_v12 ?_
                refine qm_Ru.go 1 (c' := (16, [.ref 118, .int b], [.int 2, .int v12], h)) rfl ?_
                refine hk_cne (ix := v12.toInt) (iy := 2) rfl rfl rfl (fun z111 => ?_) (fun z111 => ?_)
                · refine qm_Ru.go 1 (c' := (50, [.ref 118, .int b], [.int 0], h)) rfl ?_
                  refine qm_Ru.rt (v := (some (.int 0))) (h' := h) rfl ?_
                  refine qm_Ru.go 2 (c' := (32, [.ref 118, .int b, .int y, .int r, .float 0, .float 0, .float 0], [.int (-1)], h)) rfl ?_
                  refine qm_Ru.rt (v := (some (.int (-1)))) (h' := h) rfl ?_
                  exact k (-1) (h.2.1) (h.2.2.1) ⟨by decide, by decide⟩ hB hV (fun o ho i => rfl) (fun c => absurd c (by decide)) (fun i hi => rfl)
                · refine qm_Ru.go 1 (c' := (20, [.ref 118, .int b], [.ref 118], h)) rfl ?_
                  refine hk_getr rfl (hH.1 118 (17, 105) rfl) rfl (hH.2 118 50 (some 151) rfl) ?_
                  refine qm_Ru.go 1 (c' := (24, [.ref 118, .int b], [.int b, .ref 151], h)) rfl ?_
                  obtain ⟨v112, q_v112⟩ : ∃ v, h.2.1 151 (b.toInt.toNat) = v := ⟨_, rfl⟩
                  have b_v112 : (0 : Int) ≤ v112.toInt ∧ v112.toInt ≤ 79 := by rw [← q_v112]; exact hB 151 (b.toInt.toNat)
                  refine hk_ial (v := v112) rfl (hH.1 151 (0, 30) rfl) (by omega) (by omega) q_v112 ?_
                  refine qm_Ru.go 0 (c' := (25, [.ref 118, .int b], [.int v112], h)) rfl ?_
                  have r_v112 : (0 : Int) ≤ v112.toInt ∧ v112.toInt ≤ 15 := by rw [← q_v112]; exact v_R_rr hV.1 _ (by rw [q_v12]; omega)
                  refine qm_Ru.go 2 (c' := (27, [.ref 118, .int b], [.int (v112 - v112 / 4 * 4)], h)) rfl ?_
                  obtain ⟨v113, q_v113, e_v113⟩ := hk_rem (x := v112) (y := 4) (a := v112.toInt) (b := 4) rfl rfl (by omega) (by omega)
                  rw [q_v113]
                  refine qm_Ru.go 1 (c' := (28, [.ref 118, .int b], [.ref 118, .int v113], h)) rfl ?_
                  refine hk_getr rfl (hH.1 118 (17, 105) rfl) rfl (hH.2 118 53 (some 154) rfl) ?_
                  refine qm_Ru.go 1 (c' := (32, [.ref 118, .int b], [.ref 118, .ref 154, .int v113], h)) rfl ?_
                  refine hk_getr rfl (hH.1 118 (17, 105) rfl) rfl (hH.2 118 50 (some 151) rfl) ?_
                  refine qm_Ru.go 1 (c' := (36, [.ref 118, .int b], [.int b, .ref 151, .ref 154, .int v113], h)) rfl ?_
                  refine hk_ial (v := v112) rfl (hH.1 151 (0, 30) rfl) (by omega) (by omega) q_v112 ?_
                  refine qm_Ru.go 2 (c' := (39, [.ref 118, .int b], [.int (v112 / 4), .ref 154, .int v113], h)) rfl ?_
                  obtain ⟨v114, q_v114, e_v114⟩ := hk_div (x := v112) (y := 4) (a := v112.toInt) (b := 4) rfl rfl (by omega) (by omega)
                  rw [q_v114]
                  obtain ⟨v115, q_v115⟩ : ∃ v, h.2.1 154 (v114.toInt.toNat) = v := ⟨_, rfl⟩
                  have b_v115 : (0 : Int) ≤ v115.toInt ∧ v115.toInt ≤ 4 := by rw [← q_v115]; exact hB 154 (v114.toInt.toNat)
                  refine hk_ial (v := v115) rfl (hH.1 154 (0, 4) rfl) (by omega) (by omega) q_v115 ?_
                  refine qm_Ru.go 2 (c' := (42, [.ref 118, .int b], [.int (v115 - 1), .int v113], h)) rfl ?_
                  obtain ⟨v116, q_v116, e_v116⟩ := hk_sub (x := v115) (y := 1) (a := v115.toInt) (b := 1) rfl rfl (by omega) (by omega)
                  rw [q_v116]
                  refine hk_cne (ix := v113.toInt) (iy := v116.toInt) rfl rfl rfl (fun z117 => ?_) (fun z117 => ?_)
                  · refine qm_Ru.go 1 (c' := (50, [.ref 118, .int b], [.int 0], h)) rfl ?_
                    refine qm_Ru.rt (v := (some (.int 0))) (h' := h) rfl ?_
                    refine qm_Ru.go 2 (c' := (32, [.ref 118, .int b, .int y, .int r, .float 0, .float 0, .float 0], [.int (-1)], h)) rfl ?_
                    refine qm_Ru.rt (v := (some (.int (-1)))) (h' := h) rfl ?_
                    exact k (-1) (h.2.1) (h.2.2.1) ⟨by decide, by decide⟩ hB hV (fun o ho i => rfl) (fun c => absurd c (by decide)) (fun i hi => rfl)
                  · refine qm_Ru.go 2 (c' := (50, [.ref 118, .int b], [.int 1], h)) rfl ?_
                    refine qm_Ru.rt (v := (some (.int 1))) (h' := h) rfl ?_
                    refine qm_Ru.go 4 (c' := (36, [.ref 118, .int b, .int y, .int r, .float 0, .float 0, .float 0], [.int r, .int y, .ref 118], h)) rfl ?_
                    refine hk_inv (o := 118) (r := []) (as := [.ref 118, .int y, .int r]) rfl rfl (hH.1 118 (17, 105) rfl) rfl rfl rfl rfl ?_
                    refine qm_Ru.go 3 (c' := (4, [.ref 118, .int y, .int r, .float 0], [.int (16 * y)], h)) rfl ?_
                    obtain ⟨v118, q_v118, e_v118⟩ := hk_mul (x := 16) (y := y) (a := 16) (b := y.toInt) rfl rfl (by omega) (by omega)
                    rw [q_v118]
                    refine qm_Ru.go 3 (c' := (7, [.ref 118, .int y, .int r, .float 0], [.int (4 * r), .int v118], h)) rfl ?_
                    obtain ⟨v119, q_v119, e_v119⟩ := hk_mul (x := 4) (y := r) (a := 4) (b := r.toInt) rfl rfl (by omega) (by omega)
                    rw [q_v119]
                    refine qm_Ru.go 1 (c' := (8, [.ref 118, .int y, .int r, .float 0], [.int (v118 + v119)], h)) rfl ?_
                    obtain ⟨v120, q_v120, e_v120⟩ := hk_add (x := v118) (y := v119) (a := v118.toInt) (b := v119.toInt) rfl rfl (by omega) (by omega)
                    rw [q_v120]
                    refine qm_Ru.go 2 (c' := (10, [.ref 118, .int y, .int r, .float 0], [.int y, .ref 118, .int v120], h)) rfl ?_
                    refine hk_inv (o := 118) (r := [.int v120]) (as := [.ref 118, .int y]) rfl rfl (hH.1 118 (17, 105) rfl) rfl rfl rfl rfl ?_
                    refine qm_Ru.go 1 (c' := (1, [.ref 118, .int y], [.ref 118], h)) rfl ?_
                    obtain ⟨v121, q_v121⟩ : ∃ v, h.2.1 118 54 = v := ⟨_, rfl⟩
                    refine hk_geti (v := v121) rfl (hH.1 118 (17, 105) rfl) rfl q_v121 ?_
                    refine qm_Ru.go 2 (c' := (6, [.ref 118, .int y], [.int (v121 >>> (y &&& 31))], h)) rfl ?_
                    obtain ⟨v122, q_v122⟩ : ∃ v, (v121 >>> (y &&& 31)) = v := ⟨_, rfl⟩
                    rw [q_v122]
                    refine qm_Ru.go 2 (c' := (8, [.ref 118, .int y], [.int (v122 &&& 1)], h)) rfl ?_
                    obtain ⟨v123, q_v123⟩ : ∃ v, (v122 &&& 1) = v := ⟨_, rfl⟩
                    rw [q_v123]
                    refine qm_Ru.go 1 (c' := (9, [.ref 118, .int y], [.int 1, .int v123], h)) rfl ?_
                    refine hk_cne (ix := v123.toInt) (iy := 1) rfl rfl rfl (fun z124 => ?_) (fun z124 => ?_)
                    · refine qm_Ru.go 1 (c' := (17, [.ref 118, .int y], [.int 0], h)) rfl ?_
                      refine qm_Ru.rt (v := (some (.int 0))) (h' := h) rfl ?_
                      refine qm_Ru.go 3 (c' := (22, [.ref 118, .int y, .int r, .float 0], [.int (v120 + 0)], h)) rfl ?_
                      obtain ⟨v125, q_v125, e_v125⟩ := hk_add (x := v120) (y := 0) (a := v120.toInt) (b := 0) rfl rfl (by omega) (by omega)
                      rw [q_v125]
                      refine qm_Ru.go 2 (c' := (24, [.ref 118, .int y, .int r, .int v125], [.ref 118], h)) rfl ?_
                      refine hk_getr rfl (hH.1 118 (17, 105) rfl) rfl (hH.2 118 51 (some 152) rfl) ?_
                      refine qm_Ru.go 1 (c' := (28, [.ref 118, .int y, .int r, .int v125], [.int v125, .ref 152], h)) rfl ?_
                      obtain ⟨v126, q_v126⟩ : ∃ v, h.2.1 152 (v125.toInt.toNat) = v := ⟨_, rfl⟩
                      have b_v126 : (-1 : Int) ≤ v126.toInt ∧ v126.toInt ≤ 29 := by rw [← q_v126]; exact hB 152 (v125.toInt.toNat)
                      refine hk_ial (v := v126) rfl (hH.1 152 (0, 80) rfl) (by omega) (by omega) q_v126 ?_
                      refine qm_Ru.go 1 (c' := (30, [.ref 118, .int y, .int r, .int v125], [.int (-1), .int v126], h)) rfl ?_
                      refine hk_cne (ix := v126.toInt) (iy := (-1)) rfl rfl rfl (fun z127 => ?_) (fun z127 => ?_)
                      · refine qm_Ru.go 1 (c' := (38, [.ref 118, .int y, .int r, .int v125], [.ref 118], h)) rfl ?_
                        refine hk_getr rfl (hH.1 118 (17, 105) rfl) rfl (hH.2 118 51 (some 152) rfl) ?_
                        refine qm_Ru.go 3 (c' := (44, [.ref 118, .int y, .int r, .int v125], [.int (v125 + 1), .ref 152], h)) rfl ?_
                        obtain ⟨v128, q_v128, e_v128⟩ := hk_add (x := v125) (y := 1) (a := v125.toInt) (b := 1) rfl rfl (by omega) (by omega)
                        rw [q_v128]
                        obtain ⟨v129, q_v129⟩ : ∃ v, h.2.1 152 (v128.toInt.toNat) = v := ⟨_, rfl⟩
                        have b_v129 : (-1 : Int) ≤ v129.toInt ∧ v129.toInt ≤ 29 := by rw [← q_v129]; exact hB 152 (v128.toInt.toNat)
                        refine hk_ial (v := v129) rfl (hH.1 152 (0, 80) rfl) (by omega) (by omega) q_v129 ?_
                        refine qm_Ru.go 1 (c' := (46, [.ref 118, .int y, .int r, .int v125], [.int (-1), .int v129], h)) rfl ?_
                        refine hk_cne (ix := v129.toInt) (iy := (-1)) rfl rfl rfl (fun z130 => ?_) (fun z130 => ?_)
                        · refine qm_Ru.go 1 (c' := (56, [.ref 118, .int y, .int r, .int v125], [.int (-1)], h)) rfl ?_
                          refine qm_Ru.rt (v := (some (.int (-1)))) (h' := h) rfl ?_
                          refine qm_Ru.go 5 (c' := (48, [.ref 118, .int b, .int y, .int r, .int (-1), .float 0, .float 0], [.int (-1)], h)) rfl ?_
                          refine qm_Ru.rt (v := (some (.int (-1)))) (h' := h) rfl ?_
                          exact k (-1) (h.2.1) (h.2.2.1) ⟨by decide, by decide⟩ hB hV (fun o ho i => rfl) (fun c => absurd c (by decide)) (fun i hi => rfl)
                        · refine qm_Ru.go 3 (c' := (52, [.ref 118, .int y, .int r, .int v125], [.int (v125 + 1)], h)) rfl ?_
                          rw [q_v128]
                          refine qm_Ru.go 1 (c' := (56, [.ref 118, .int y, .int r, .int v125], [.int v128], h)) rfl ?_
                          refine qm_Ru.rt (v := (some (.int v128))) (h' := h) rfl ?_
                          refine qm_Ru.go 3 (c' := (44, [.ref 118, .int b, .int y, .int r, .int v128, .float 0, .float 0], [.int (-1), .int v128], h)) rfl ?_
                          refine hk_cne (ix := v128.toInt) (iy := (-1)) rfl rfl rfl (fun z132 => ?_) (fun z132 => by exfalso; omega)
                          refine qm_Ru.go 1 (c' := (50, [.ref 118, .int b, .int y, .int r, .int v128, .float 0, .float 0], [.ref 118], h)) rfl ?_
                          refine hk_getr rfl (hH.1 118 (17, 105) rfl) rfl (hH.2 118 45 (some 146) rfl) ?_
                          refine qm_Ru.go 1 (c' := (54, [.ref 118, .int b, .int y, .int r, .int v128, .float 0, .float 0], [.int b, .ref 146], h)) rfl ?_
                          obtain ⟨v133, q_v133⟩ : ∃ v, h.2.1 146 (b.toInt.toNat) = v := ⟨_, rfl⟩
                          have b_v133 : (0 : Int) ≤ v133.toInt ∧ v133.toInt ≤ 40 := by rw [← q_v133]; exact hB 146 (b.toInt.toNat)
                          refine hk_ial (v := v133) rfl (hH.1 146 (0, 30) rfl) (by omega) (by omega) q_v133 ?_
                          refine qm_Ru.go 1 (c' := (56, [.ref 118, .int b, .int y, .int r, .int v128, .float 0, .float 0], [.ref 118, .int v133], h)) rfl ?_
                          refine hk_getr rfl (hH.1 118 (17, 105) rfl) rfl (hH.2 118 24 (some 129) rfl) ?_
                          refine qm_Ru.go 1 (c' := (60, [.ref 118, .int b, .int y, .int r, .int v128, .float 0, .float 0], [.ref 118, .ref 129, .int v133], h)) rfl ?_
                          refine hk_geti (v := v5) rfl (hH.1 118 (17, 105) rfl) rfl q_v5 ?_
                          refine qm_Ru.go 0 (c' := (63, [.ref 118, .int b, .int y, .int r, .int v128, .float 0, .float 0], [.int v5, .ref 129, .int v133], h)) rfl ?_
                          obtain ⟨v134, q_v134⟩ : ∃ v, h.2.1 129 (v5.toInt.toNat) = v := ⟨_, rfl⟩
                          refine hk_ial (v := v134) rfl (hH.1 129 (0, 2) rfl) (by omega) (by omega) q_v134 ?_
                          refine qm_Ru.go 0 (c' := (64, [.ref 118, .int b, .int y, .int r, .int v128, .float 0, .float 0], [.int v134, .int v133], h)) rfl ?_
                          refine hk_cle (ix := v133.toInt) (iy := v134.toInt) rfl rfl rfl (fun z135 => ?_) (fun z135 => ?_)
                          · refine qm_Ru.go 1 (c' := (71, [.ref 118, .int b, .int y, .int r, .int v128, .float 0, .float 0], [.ref 118], h)) rfl ?_
                            refine hk_inv (o := 118) (r := []) (as := [.ref 118]) rfl rfl (hH.1 118 (17, 105) rfl) rfl rfl rfl rfl (hs_looks (h := h) h6 hH hB (v_R_ru hV)  (by omega) (fun I136 J137 hB_I136 e_I136 => ?_))
                            have hV_I136 : v_R I136 := v_R_cg hV e_I136 rfl
                            refine qm_Ru.go 1 (c' := (75, [.ref 118, .int b, .int y, .int r, .int v128, .float 0, .float 0], [.ref 118], (h.1, I136, J137, h.2.2.2))) rfl ?_
                            refine hk_getr rfl (hH.1 118 (17, 105) rfl) rfl (hH.2 118 49 (some 150) rfl) ?_
                            refine qm_Ru.go 1 (c' := (79, [.ref 118, .int b, .int y, .int r, .int v128, .float 0, .float 0], [.int b, .ref 150], (h.1, I136, J137, h.2.2.2))) rfl ?_
                            refine hk_ial (v := v12) rfl (hH.1 150 (0, 30) rfl) (by omega) (by omega) (show (I136) 150 (b.toInt.toNat) = _ from ((e_I136 150 rfl (b.toInt.toNat)).trans q_v12)) ?_
                            refine qm_Ru.go 2 (c' := (83, [.ref 118, .int b, .int y, .int r, .int v128, .int v12, .float 0], [.ref 118], (h.1, I136, J137, h.2.2.2))) rfl ?_
                            refine hk_getr rfl (hH.1 118 (17, 105) rfl) rfl (hH.2 118 50 (some 151) rfl) ?_
                            refine qm_Ru.go 1 (c' := (87, [.ref 118, .int b, .int y, .int r, .int v128, .int v12, .float 0], [.int b, .ref 151], (h.1, I136, J137, h.2.2.2))) rfl ?_
                            refine hk_ial (v := v112) rfl (hH.1 151 (0, 30) rfl) (by omega) (by omega) (show (I136) 151 (b.toInt.toNat) = _ from ((e_I136 151 rfl (b.toInt.toNat)).trans q_v112)) ?_
                            refine qm_Ru.go 3 (c' := (92, [.ref 118, .int b, .int y, .int r, .int v128, .int v12, .int v112], [.int b, .ref 118], (h.1, I136, J137, h.2.2.2))) rfl ?_
                            refine hk_inv (o := 118) (r := []) (as := [.ref 118, .int b]) rfl rfl (hH.1 118 (17, 105) rfl) rfl rfl rfl rfl (rl_take (h := (h.1, I136, J137, h.2.2.2)) hH hB_I136 hV_I136 (b := b) (g := v114.toInt.toNat) (hv := v115.toInt) (by omega) (show pI (I136) 150 (b.toInt.toNat) = 2 from (congrArg Int32.toInt (show (I136) 150 (b.toInt.toNat) = _ from ((e_I136 150 rfl (b.toInt.toNat)).trans q_v12))).trans (by omega)) (show pI (I136) 151 (b.toInt.toNat) = 4 * ((v114.toInt.toNat : Nat) : Int) + (v115.toInt - 1) from (congrArg Int32.toInt (show (I136) 151 (b.toInt.toNat) = _ from ((e_I136 151 rfl (b.toInt.toNat)).trans q_v112))).trans (by omega)) (congrArg Int32.toInt (show (I136) 154 (v114.toInt.toNat) = _ from ((e_I136 154 rfl (v114.toInt.toNat)).trans q_v115))) (by omega) (by omega) (by omega) (fun I138 hB_I138 hV_I138 e_I138 p0_I138 pn_I138 p4_I138 => ?_))
                            obtain ⟨v139, q_v139⟩ : ∃ v, I138 154 (v114.toInt.toNat) = v := ⟨_, rfl⟩
                            have f_v139 : v139.toInt = v115.toInt - 1 := by rw [← q_v139]; exact p4_I138
                            obtain ⟨v140, q_v140⟩ : ∃ v, I138 150 (b.toInt.toNat) = v := ⟨_, rfl⟩
                            have f_v140 : v140.toInt = 0 := by rw [← q_v140]; exact p0_I138
                            refine qm_Ru.go 3 (c' := (99, [.ref 118, .int b, .int y, .int r, .int v128, .int v12, .int v112], [.int v128, .int b, .ref 118], (h.1, I138, J137, h.2.2.2))) rfl ?_
                            refine hk_inv (o := 118) (r := []) (as := [.ref 118, .int b, .int v128]) rfl rfl (hH.1 118 (17, 105) rfl) rfl rfl rfl rfl (rb_boards (h := (h.1, I138, J137, h.2.2.2)) hH hB_I138 hV_I138 (b := b) (k0 := v128) (by omega) (by omega) (show pI (I138) 150 (b.toInt.toNat) = 0 from (congrArg Int32.toInt q_v140).trans (by omega)) (show ((b.toInt.toNat : Nat) : Int) < ((I138) 118 44).toInt from by rw [(show (I138) 118 44 = _ from ((e_I138 118 rfl 44).trans ((e_I136 118 rfl 44).trans q_v1)))]; omega) (fun I141 hB_I141 hV_I141 e_I141 p0_I141 pn_I141 p1_I141 pm_I141 => ?_))
                            obtain ⟨v142, q_v142⟩ : ∃ v, I141 150 (b.toInt.toNat) = v := ⟨_, rfl⟩
                            have f_v142 : v142.toInt = 1 := by rw [← q_v142]; exact p0_I141
                            obtain ⟨v143, q_v143⟩ : ∃ v, I141 151 (b.toInt.toNat) = v := ⟨_, rfl⟩
                            have f_v143 : v143.toInt = v128.toInt := by rw [← q_v143]; exact (congrArg Int32.toInt p1_I141)
                            refine qm_Ru.go 1 (c' := (103, [.ref 118, .int b, .int y, .int r, .int v128, .int v12, .int v112], [.ref 118], (h.1, I141, J137, h.2.2.2))) rfl ?_
                            refine hk_inv (o := 118) (r := []) (as := [.ref 118]) rfl rfl (hH.1 118 (17, 105) rfl) rfl rfl rfl rfl (hs_maybe (h := (h.1, I141, J137, h.2.2.2)) h6 hH hB_I141 (v_R_ru hV_I141)  (by omega) (fun v146 I144 J145 c_v146 hB_I144 e_I144 => ?_))
                            have hV_I144 : v_R I144 := v_R_cg hV_I141 e_I144 rfl
                            have b_v146 : (0 : Int) ≤ v146.toInt ∧ v146.toInt ≤ 1 := c_v146
                            refine qm_Ru.go 0 (c' := (106, [.ref 118, .int b, .int y, .int r, .int v128, .int v12, .int v112], [.int v146], (h.1, I144, J145, h.2.2.2))) rfl ?_
                            refine hk_zeq (ix := v146.toInt) rfl rfl (fun z147 => ?_) (fun z147 => ?_)
                            · refine qm_Ru.go 2 (c' := (116, [.ref 118, .int b, .int y, .int r, .int v128, .int v12, .int v112], [.int b, .ref 118], (h.1, I144, J145, h.2.2.2))) rfl ?_
                              refine hk_inv (o := 118) (r := []) (as := [.ref 118, .int b]) rfl rfl (hH.1 118 (17, 105) rfl) rfl rfl rfl rfl (rl_away (h := (h.1, I144, J145, h.2.2.2)) hH hB_I144 hV_I144 (b := b) (by omega) (show pI (I144) 150 (b.toInt.toNat) = 1 from (congrArg Int32.toInt (show (I144) 150 (b.toInt.toNat) = _ from ((e_I144 150 rfl (b.toInt.toNat)).trans q_v142))).trans (by omega)) (fun I148 hB_I148 hV_I148 e_I148 p0_I148 pn_I148 => ?_))
                              obtain ⟨v149, q_v149⟩ : ∃ v, I148 150 (b.toInt.toNat) = v := ⟨_, rfl⟩
                              have f_v149 : v149.toInt = 0 := by rw [← q_v149]; exact p0_I148
                              refine qm_Ru.go 2 (c' := (122, [.ref 118, .int b, .int y, .int r, .int v128, .int v12, .int v112], [.int 2, .int v12], (h.1, I148, J145, h.2.2.2))) rfl ?_
                              refine hk_cne (ix := v12.toInt) (iy := 2) rfl rfl rfl (fun z150 => by exfalso; omega) (fun z150 => ?_)
                              refine qm_Ru.go 5 (c' := (131, [.ref 118, .int b, .int y, .int r, .int v128, .int v12, .int v112], [.int (v112 / 4), .int b, .ref 118], (h.1, I148, J145, h.2.2.2))) rfl ?_
                              rw [q_v114]
                              refine hk_inv (o := 118) (r := []) (as := [.ref 118, .int b, .int v114]) rfl rfl (hH.1 118 (17, 105) rfl) rfl rfl rfl rfl (rp_puts (h := (h.1, I148, J145, h.2.2.2)) hH hB_I148 hV_I148 (b := b) (s := v114) (hv := v139.toInt) (by omega) (by omega) (show pI (I148) 150 (b.toInt.toNat) = 0 from (congrArg Int32.toInt q_v149).trans (by omega)) (congrArg Int32.toInt (show (I148) 154 (v114.toInt.toNat) = _ from ((e_I148 154 rfl (v114.toInt.toNat)).trans ((e_I144 154 rfl (v114.toInt.toNat)).trans ((e_I141 154 rfl (v114.toInt.toNat)).trans q_v139))))) (by omega) (by omega) (show ((b.toInt.toNat : Nat) : Int) < ((I148) 118 44).toInt from by rw [(show (I148) 118 44 = _ from ((e_I148 118 rfl 44).trans ((e_I144 118 rfl 44).trans ((e_I141 118 rfl 44).trans ((e_I138 118 rfl 44).trans ((e_I136 118 rfl 44).trans q_v1))))))]; omega) (fun I152 hB_I152 hV_I152 e_I152 p0_I152 pn_I152 pm_I152 p4_I152 => ?_))
                              obtain ⟨v153, q_v153⟩ : ∃ v, I152 150 (b.toInt.toNat) = v := ⟨_, rfl⟩
                              have f_v153 : v153.toInt = 2 := by rw [← q_v153]; exact p0_I152
                              obtain ⟨v154, q_v154⟩ : ∃ v, I152 154 (v114.toInt.toNat) = v := ⟨_, rfl⟩
                              have f_v154 : v154.toInt = v139.toInt + 1 := by rw [← q_v154]; exact p4_I152
                              refine qm_Ru.go 1 (c' := (136, [.ref 118, .int b, .int y, .int r, .int v128, .int v12, .int v112], [.int (-3)], (h.1, I152, J145, h.2.2.2))) rfl ?_
                              refine qm_Ru.rt (v := (some (.int (-3)))) (h' := (h.1, I152, J145, h.2.2.2)) rfl ?_
                              exact k (-3) (I152) (J145) ⟨by decide, by decide⟩ hB_I152 hV_I152 (fun o ho i => ((e_I152 o (hk_ms rfl ho) i).trans ((e_I148 o (hk_ms rfl ho) i).trans ((e_I144 o (hk_ms rfl ho) i).trans ((e_I141 o (hk_ms rfl ho) i).trans ((e_I138 o (hk_ms rfl ho) i).trans ((e_I136 o (hk_ms rfl ho) i).trans rfl))))))) (fun c => absurd c (by decide)) (fun i hi => ((pn_I152 i hi).trans ((pn_I148 i hi).trans ((e_I144 150 rfl i).trans ((pn_I141 i hi).trans ((pn_I138 i hi).trans ((e_I136 150 rfl i).trans rfl)))))))
                            · refine qm_Ru.go 3 (c' := (113, [.ref 118, .int b, .int y, .int r, .int v128, .int v12, .int v112], [.int (v128 - v128 / 4 * 4)], (h.1, I144, J145, h.2.2.2))) rfl ?_
                              obtain ⟨v155, q_v155, e_v155⟩ := hk_rem (x := v128) (y := 4) (a := v128.toInt) (b := 4) rfl rfl (by omega) (by omega)
                              rw [q_v155]
                              refine qm_Ru.rt (v := (some (.int v155))) (h' := (h.1, I144, J145, h.2.2.2)) rfl ?_
                              exact k v155 (I144) (J145) ⟨by omega, by omega⟩ hB_I144 hV_I144 (fun o ho i => ((e_I144 o (hk_ms rfl ho) i).trans ((e_I141 o (hk_ms rfl ho) i).trans ((e_I138 o (hk_ms rfl ho) i).trans ((e_I136 o (hk_ms rfl ho) i).trans rfl))))) (fun _ => ⟨(congrArg Int32.toInt (show (I144) 150 (b.toInt.toNat) = _ from ((e_I144 150 rfl (b.toInt.toNat)).trans q_v142))).trans (by omega), by omega, by omega⟩) (fun i hi => ((e_I144 150 rfl i).trans ((pn_I141 i hi).trans ((pn_I138 i hi).trans ((e_I136 150 rfl i).trans rfl)))))
                          · refine qm_Ru.go 1 (c' := (69, [.ref 118, .int b, .int y, .int r, .int v128, .float 0, .float 0], [.int (-2)], h)) rfl ?_
                            refine qm_Ru.rt (v := (some (.int (-2)))) (h' := h) rfl ?_
                            exact k (-2) (h.2.1) (h.2.2.1) ⟨by decide, by decide⟩ hB hV (fun o ho i => rfl) (fun c => absurd c (by decide)) (fun i hi => rfl)
                      · refine qm_Ru.go 2 (c' := (56, [.ref 118, .int y, .int r, .int v125], [.int v125], h)) rfl ?_
                        refine qm_Ru.rt (v := (some (.int v125))) (h' := h) rfl ?_
                        refine qm_Ru.go 3 (c' := (44, [.ref 118, .int b, .int y, .int r, .int v125, .float 0, .float 0], [.int (-1), .int v125], h)) rfl ?_
                        refine hk_cne (ix := v125.toInt) (iy := (-1)) rfl rfl rfl (fun z156 => ?_) (fun z156 => by exfalso; omega)
                        refine qm_Ru.go 1 (c' := (50, [.ref 118, .int b, .int y, .int r, .int v125, .float 0, .float 0], [.ref 118], h)) rfl ?_
                        refine hk_getr rfl (hH.1 118 (17, 105) rfl) rfl (hH.2 118 45 (some 146) rfl) ?_
                        refine qm_Ru.go 1 (c' := (54, [.ref 118, .int b, .int y, .int r, .int v125, .float 0, .float 0], [.int b, .ref 146], h)) rfl ?_
                        obtain ⟨v157, q_v157⟩ : ∃ v, h.2.1 146 (b.toInt.toNat) = v := ⟨_, rfl⟩
                        have b_v157 : (0 : Int) ≤ v157.toInt ∧ v157.toInt ≤ 40 := by rw [← q_v157]; exact hB 146 (b.toInt.toNat)
                        refine hk_ial (v := v157) rfl (hH.1 146 (0, 30) rfl) (by omega) (by omega) q_v157 ?_
                        refine qm_Ru.go 1 (c' := (56, [.ref 118, .int b, .int y, .int r, .int v125, .float 0, .float 0], [.ref 118, .int v157], h)) rfl ?_
                        refine hk_getr rfl (hH.1 118 (17, 105) rfl) rfl (hH.2 118 24 (some 129) rfl) ?_
                        refine qm_Ru.go 1 (c' := (60, [.ref 118, .int b, .int y, .int r, .int v125, .float 0, .float 0], [.ref 118, .ref 129, .int v157], h)) rfl ?_
                        refine hk_geti (v := v5) rfl (hH.1 118 (17, 105) rfl) rfl q_v5 ?_
                        refine qm_Ru.go 0 (c' := (63, [.ref 118, .int b, .int y, .int r, .int v125, .float 0, .float 0], [.int v5, .ref 129, .int v157], h)) rfl ?_
                        obtain ⟨v158, q_v158⟩ : ∃ v, h.2.1 129 (v5.toInt.toNat) = v := ⟨_, rfl⟩
                        refine hk_ial (v := v158) rfl (hH.1 129 (0, 2) rfl) (by omega) (by omega) q_v158 ?_
                        refine qm_Ru.go 0 (c' := (64, [.ref 118, .int b, .int y, .int r, .int v125, .float 0, .float 0], [.int v158, .int v157], h)) rfl ?_
                        refine hk_cle (ix := v157.toInt) (iy := v158.toInt) rfl rfl rfl (fun z159 => ?_) (fun z159 => ?_)
                        · refine qm_Ru.go 1 (c' := (71, [.ref 118, .int b, .int y, .int r, .int v125, .float 0, .float 0], [.ref 118], h)) rfl ?_
                          refine hk_inv (o := 118) (r := []) (as := [.ref 118]) rfl rfl (hH.1 118 (17, 105) rfl) rfl rfl rfl rfl (hs_looks (h := h) h6 hH hB (v_R_ru hV)  (by omega) (fun I160 J161 hB_I160 e_I160 => ?_))
                          have hV_I160 : v_R I160 := v_R_cg hV e_I160 rfl
                          refine qm_Ru.go 1 (c' := (75, [.ref 118, .int b, .int y, .int r, .int v125, .float 0, .float 0], [.ref 118], (h.1, I160, J161, h.2.2.2))) rfl ?_
                          refine hk_getr rfl (hH.1 118 (17, 105) rfl) rfl (hH.2 118 49 (some 150) rfl) ?_
                          refine qm_Ru.go 1 (c' := (79, [.ref 118, .int b, .int y, .int r, .int v125, .float 0, .float 0], [.int b, .ref 150], (h.1, I160, J161, h.2.2.2))) rfl ?_
                          refine hk_ial (v := v12) rfl (hH.1 150 (0, 30) rfl) (by omega) (by omega) (show (I160) 150 (b.toInt.toNat) = _ from ((e_I160 150 rfl (b.toInt.toNat)).trans q_v12)) ?_
                          refine qm_Ru.go 2 (c' := (83, [.ref 118, .int b, .int y, .int r, .int v125, .int v12, .float 0], [.ref 118], (h.1, I160, J161, h.2.2.2))) rfl ?_
                          refine hk_getr rfl (hH.1 118 (17, 105) rfl) rfl (hH.2 118 50 (some 151) rfl) ?_
                          refine qm_Ru.go 1 (c' := (87, [.ref 118, .int b, .int y, .int r, .int v125, .int v12, .float 0], [.int b, .ref 151], (h.1, I160, J161, h.2.2.2))) rfl ?_
                          refine hk_ial (v := v112) rfl (hH.1 151 (0, 30) rfl) (by omega) (by omega) (show (I160) 151 (b.toInt.toNat) = _ from ((e_I160 151 rfl (b.toInt.toNat)).trans q_v112)) ?_
                          refine qm_Ru.go 3 (c' := (92, [.ref 118, .int b, .int y, .int r, .int v125, .int v12, .int v112], [.int b, .ref 118], (h.1, I160, J161, h.2.2.2))) rfl ?_
                          refine hk_inv (o := 118) (r := []) (as := [.ref 118, .int b]) rfl rfl (hH.1 118 (17, 105) rfl) rfl rfl rfl rfl (rl_take (h := (h.1, I160, J161, h.2.2.2)) hH hB_I160 hV_I160 (b := b) (g := v114.toInt.toNat) (hv := v115.toInt) (by omega) (show pI (I160) 150 (b.toInt.toNat) = 2 from (congrArg Int32.toInt (show (I160) 150 (b.toInt.toNat) = _ from ((e_I160 150 rfl (b.toInt.toNat)).trans q_v12))).trans (by omega)) (show pI (I160) 151 (b.toInt.toNat) = 4 * ((v114.toInt.toNat : Nat) : Int) + (v115.toInt - 1) from (congrArg Int32.toInt (show (I160) 151 (b.toInt.toNat) = _ from ((e_I160 151 rfl (b.toInt.toNat)).trans q_v112))).trans (by omega)) (congrArg Int32.toInt (show (I160) 154 (v114.toInt.toNat) = _ from ((e_I160 154 rfl (v114.toInt.toNat)).trans q_v115))) (by omega) (by omega) (by omega) (fun I162 hB_I162 hV_I162 e_I162 p0_I162 pn_I162 p4_I162 => ?_))
                          obtain ⟨v163, q_v163⟩ : ∃ v, I162 154 (v114.toInt.toNat) = v := ⟨_, rfl⟩
                          have f_v163 : v163.toInt = v115.toInt - 1 := by rw [← q_v163]; exact p4_I162
                          obtain ⟨v164, q_v164⟩ : ∃ v, I162 150 (b.toInt.toNat) = v := ⟨_, rfl⟩
                          have f_v164 : v164.toInt = 0 := by rw [← q_v164]; exact p0_I162
                          refine qm_Ru.go 3 (c' := (99, [.ref 118, .int b, .int y, .int r, .int v125, .int v12, .int v112], [.int v125, .int b, .ref 118], (h.1, I162, J161, h.2.2.2))) rfl ?_
                          refine hk_inv (o := 118) (r := []) (as := [.ref 118, .int b, .int v125]) rfl rfl (hH.1 118 (17, 105) rfl) rfl rfl rfl rfl (rb_boards (h := (h.1, I162, J161, h.2.2.2)) hH hB_I162 hV_I162 (b := b) (k0 := v125) (by omega) (by omega) (show pI (I162) 150 (b.toInt.toNat) = 0 from (congrArg Int32.toInt q_v164).trans (by omega)) (show ((b.toInt.toNat : Nat) : Int) < ((I162) 118 44).toInt from by rw [(show (I162) 118 44 = _ from ((e_I162 118 rfl 44).trans ((e_I160 118 rfl 44).trans q_v1)))]; omega) (fun I165 hB_I165 hV_I165 e_I165 p0_I165 pn_I165 p1_I165 pm_I165 => ?_))
                          obtain ⟨v166, q_v166⟩ : ∃ v, I165 150 (b.toInt.toNat) = v := ⟨_, rfl⟩
                          have f_v166 : v166.toInt = 1 := by rw [← q_v166]; exact p0_I165
                          obtain ⟨v167, q_v167⟩ : ∃ v, I165 151 (b.toInt.toNat) = v := ⟨_, rfl⟩
                          have f_v167 : v167.toInt = v125.toInt := by rw [← q_v167]; exact (congrArg Int32.toInt p1_I165)
                          refine qm_Ru.go 1 (c' := (103, [.ref 118, .int b, .int y, .int r, .int v125, .int v12, .int v112], [.ref 118], (h.1, I165, J161, h.2.2.2))) rfl ?_
                          refine hk_inv (o := 118) (r := []) (as := [.ref 118]) rfl rfl (hH.1 118 (17, 105) rfl) rfl rfl rfl rfl (hs_maybe (h := (h.1, I165, J161, h.2.2.2)) h6 hH hB_I165 (v_R_ru hV_I165)  (by omega) (fun v170 I168 J169 c_v170 hB_I168 e_I168 => ?_))
                          have hV_I168 : v_R I168 := v_R_cg hV_I165 e_I168 rfl
                          have b_v170 : (0 : Int) ≤ v170.toInt ∧ v170.toInt ≤ 1 := c_v170
                          refine qm_Ru.go 0 (c' := (106, [.ref 118, .int b, .int y, .int r, .int v125, .int v12, .int v112], [.int v170], (h.1, I168, J169, h.2.2.2))) rfl ?_
                          refine hk_zeq (ix := v170.toInt) rfl rfl (fun z171 => ?_) (fun z171 => ?_)
                          · refine qm_Ru.go 2 (c' := (116, [.ref 118, .int b, .int y, .int r, .int v125, .int v12, .int v112], [.int b, .ref 118], (h.1, I168, J169, h.2.2.2))) rfl ?_
                            refine hk_inv (o := 118) (r := []) (as := [.ref 118, .int b]) rfl rfl (hH.1 118 (17, 105) rfl) rfl rfl rfl rfl (rl_away (h := (h.1, I168, J169, h.2.2.2)) hH hB_I168 hV_I168 (b := b) (by omega) (show pI (I168) 150 (b.toInt.toNat) = 1 from (congrArg Int32.toInt (show (I168) 150 (b.toInt.toNat) = _ from ((e_I168 150 rfl (b.toInt.toNat)).trans q_v166))).trans (by omega)) (fun I172 hB_I172 hV_I172 e_I172 p0_I172 pn_I172 => ?_))
                            obtain ⟨v173, q_v173⟩ : ∃ v, I172 150 (b.toInt.toNat) = v := ⟨_, rfl⟩
                            have f_v173 : v173.toInt = 0 := by rw [← q_v173]; exact p0_I172
                            refine qm_Ru.go 2 (c' := (122, [.ref 118, .int b, .int y, .int r, .int v125, .int v12, .int v112], [.int 2, .int v12], (h.1, I172, J169, h.2.2.2))) rfl ?_
                            refine hk_cne (ix := v12.toInt) (iy := 2) rfl rfl rfl (fun z174 => by exfalso; omega) (fun z174 => ?_)
                            refine qm_Ru.go 5 (c' := (131, [.ref 118, .int b, .int y, .int r, .int v125, .int v12, .int v112], [.int (v112 / 4), .int b, .ref 118], (h.1, I172, J169, h.2.2.2))) rfl ?_
                            rw [q_v114]
                            refine hk_inv (o := 118) (r := []) (as := [.ref 118, .int b, .int v114]) rfl rfl (hH.1 118 (17, 105) rfl) rfl rfl rfl rfl (rp_puts (h := (h.1, I172, J169, h.2.2.2)) hH hB_I172 hV_I172 (b := b) (s := v114) (hv := v163.toInt) (by omega) (by omega) (show pI (I172) 150 (b.toInt.toNat) = 0 from (congrArg Int32.toInt q_v173).trans (by omega)) (congrArg Int32.toInt (show (I172) 154 (v114.toInt.toNat) = _ from ((e_I172 154 rfl (v114.toInt.toNat)).trans ((e_I168 154 rfl (v114.toInt.toNat)).trans ((e_I165 154 rfl (v114.toInt.toNat)).trans q_v163))))) (by omega) (by omega) (show ((b.toInt.toNat : Nat) : Int) < ((I172) 118 44).toInt from by rw [(show (I172) 118 44 = _ from ((e_I172 118 rfl 44).trans ((e_I168 118 rfl 44).trans ((e_I165 118 rfl 44).trans ((e_I162 118 rfl 44).trans ((e_I160 118 rfl 44).trans q_v1))))))]; omega) (fun I176 hB_I176 hV_I176 e_I176 p0_I176 pn_I176 pm_I176 p4_I176 => ?_))
                            obtain ⟨v177, q_v177⟩ : ∃ v, I176 150 (b.toInt.toNat) = v := ⟨_, rfl⟩
                            have f_v177 : v177.toInt = 2 := by rw [← q_v177]; exact p0_I176
                            obtain ⟨v178, q_v178⟩ : ∃ v, I176 154 (v114.toInt.toNat) = v := ⟨_, rfl⟩
                            have f_v178 : v178.toInt = v163.toInt + 1 := by rw [← q_v178]; exact p4_I176
                            refine qm_Ru.go 1 (c' := (136, [.ref 118, .int b, .int y, .int r, .int v125, .int v12, .int v112], [.int (-3)], (h.1, I176, J169, h.2.2.2))) rfl ?_
                            refine qm_Ru.rt (v := (some (.int (-3)))) (h' := (h.1, I176, J169, h.2.2.2)) rfl ?_
                            exact k (-3) (I176) (J169) ⟨by decide, by decide⟩ hB_I176 hV_I176 (fun o ho i => ((e_I176 o (hk_ms rfl ho) i).trans ((e_I172 o (hk_ms rfl ho) i).trans ((e_I168 o (hk_ms rfl ho) i).trans ((e_I165 o (hk_ms rfl ho) i).trans ((e_I162 o (hk_ms rfl ho) i).trans ((e_I160 o (hk_ms rfl ho) i).trans rfl))))))) (fun c => absurd c (by decide)) (fun i hi => ((pn_I176 i hi).trans ((pn_I172 i hi).trans ((e_I168 150 rfl i).trans ((pn_I165 i hi).trans ((pn_I162 i hi).trans ((e_I160 150 rfl i).trans rfl)))))))
                          · refine qm_Ru.go 3 (c' := (113, [.ref 118, .int b, .int y, .int r, .int v125, .int v12, .int v112], [.int (v125 - v125 / 4 * 4)], (h.1, I168, J169, h.2.2.2))) rfl ?_
                            obtain ⟨v179, q_v179, e_v179⟩ := hk_rem (x := v125) (y := 4) (a := v125.toInt) (b := 4) rfl rfl (by omega) (by omega)
                            rw [q_v179]
                            refine qm_Ru.rt (v := (some (.int v179))) (h' := (h.1, I168, J169, h.2.2.2)) rfl ?_
                            exact k v179 (I168) (J169) ⟨by omega, by omega⟩ hB_I168 hV_I168 (fun o ho i => ((e_I168 o (hk_ms rfl ho) i).trans ((e_I165 o (hk_ms rfl ho) i).trans ((e_I162 o (hk_ms rfl ho) i).trans ((e_I160 o (hk_ms rfl ho) i).trans rfl))))) (fun _ => ⟨(congrArg Int32.toInt (show (I168) 150 (b.toInt.toNat) = _ from ((e_I168 150 rfl (b.toInt.toNat)).trans q_v166))).trans (by omega), by omega, by omega⟩) (fun i hi => ((e_I168 150 rfl i).trans ((pn_I165 i hi).trans ((pn_I162 i hi).trans ((e_I160 150 rfl i).trans rfl)))))
                        · refine qm_Ru.go 1 (c' := (69, [.ref 118, .int b, .int y, .int r, .int v125, .float 0, .float 0], [.int (-2)], h)) rfl ?_
                          refine qm_Ru.rt (v := (some (.int (-2)))) (h' := h) rfl ?_
                          exact k (-2) (h.2.1) (h.2.2.1) ⟨by decide, by decide⟩ hB hV (fun o ho i => rfl) (fun c => absurd c (by decide)) (fun i hi => rfl)
                    · refine qm_Ru.go 2 (c' := (17, [.ref 118, .int y], [.int 1], h)) rfl ?_
                      refine qm_Ru.rt (v := (some (.int 1))) (h' := h) rfl ?_
                      refine qm_Ru.go 4 (c' := (22, [.ref 118, .int y, .int r, .float 0], [.int (v120 + 2)], h)) rfl ?_
                      obtain ⟨v180, q_v180, e_v180⟩ := hk_add (x := v120) (y := 2) (a := v120.toInt) (b := 2) rfl rfl (by omega) (by omega)
                      rw [q_v180]
                      refine qm_Ru.go 2 (c' := (24, [.ref 118, .int y, .int r, .int v180], [.ref 118], h)) rfl ?_
                      refine hk_getr rfl (hH.1 118 (17, 105) rfl) rfl (hH.2 118 51 (some 152) rfl) ?_
                      refine qm_Ru.go 1 (c' := (28, [.ref 118, .int y, .int r, .int v180], [.int v180, .ref 152], h)) rfl ?_
                      obtain ⟨v181, q_v181⟩ : ∃ v, h.2.1 152 (v180.toInt.toNat) = v := ⟨_, rfl⟩
                      have b_v181 : (-1 : Int) ≤ v181.toInt ∧ v181.toInt ≤ 29 := by rw [← q_v181]; exact hB 152 (v180.toInt.toNat)
                      refine hk_ial (v := v181) rfl (hH.1 152 (0, 80) rfl) (by omega) (by omega) q_v181 ?_
                      refine qm_Ru.go 1 (c' := (30, [.ref 118, .int y, .int r, .int v180], [.int (-1), .int v181], h)) rfl ?_
                      refine hk_cne (ix := v181.toInt) (iy := (-1)) rfl rfl rfl (fun z182 => ?_) (fun z182 => ?_)
                      · refine qm_Ru.go 1 (c' := (38, [.ref 118, .int y, .int r, .int v180], [.ref 118], h)) rfl ?_
                        refine hk_getr rfl (hH.1 118 (17, 105) rfl) rfl (hH.2 118 51 (some 152) rfl) ?_
                        refine qm_Ru.go 3 (c' := (44, [.ref 118, .int y, .int r, .int v180], [.int (v180 + 1), .ref 152], h)) rfl ?_
                        obtain ⟨v183, q_v183, e_v183⟩ := hk_add (x := v180) (y := 1) (a := v180.toInt) (b := 1) rfl rfl (by omega) (by omega)
                        rw [q_v183]
                        obtain ⟨v184, q_v184⟩ : ∃ v, h.2.1 152 (v183.toInt.toNat) = v := ⟨_, rfl⟩
                        have b_v184 : (-1 : Int) ≤ v184.toInt ∧ v184.toInt ≤ 29 := by rw [← q_v184]; exact hB 152 (v183.toInt.toNat)
                        refine hk_ial (v := v184) rfl (hH.1 152 (0, 80) rfl) (by omega) (by omega) q_v184 ?_
                        refine qm_Ru.go 1 (c' := (46, [.ref 118, .int y, .int r, .int v180], [.int (-1), .int v184], h)) rfl ?_
                        refine hk_cne (ix := v184.toInt) (iy := (-1)) rfl rfl rfl (fun z185 => ?_) (fun z185 => ?_)
                        · refine qm_Ru.go 1 (c' := (56, [.ref 118, .int y, .int r, .int v180], [.int (-1)], h)) rfl ?_
                          refine qm_Ru.rt (v := (some (.int (-1)))) (h' := h) rfl ?_
                          refine qm_Ru.go 5 (c' := (48, [.ref 118, .int b, .int y, .int r, .int (-1), .float 0, .float 0], [.int (-1)], h)) rfl ?_
                          refine qm_Ru.rt (v := (some (.int (-1)))) (h' := h) rfl ?_
                          exact k (-1) (h.2.1) (h.2.2.1) ⟨by decide, by decide⟩ hB hV (fun o ho i => rfl) (fun c => absurd c (by decide)) (fun i hi => rfl)
                        · refine qm_Ru.go 3 (c' := (52, [.ref 118, .int y, .int r, .int v180], [.int (v180 + 1)], h)) rfl ?_
                          rw [q_v183]
                          refine qm_Ru.go 1 (c' := (56, [.ref 118, .int y, .int r, .int v180], [.int v183], h)) rfl ?_
                          refine qm_Ru.rt (v := (some (.int v183))) (h' := h) rfl ?_
                          refine qm_Ru.go 3 (c' := (44, [.ref 118, .int b, .int y, .int r, .int v183, .float 0, .float 0], [.int (-1), .int v183], h)) rfl ?_
                          refine hk_cne (ix := v183.toInt) (iy := (-1)) rfl rfl rfl (fun z187 => ?_) (fun z187 => by exfalso; omega)
                          refine qm_Ru.go 1 (c' := (50, [.ref 118, .int b, .int y, .int r, .int v183, .float 0, .float 0], [.ref 118], h)) rfl ?_
                          refine hk_getr rfl (hH.1 118 (17, 105) rfl) rfl (hH.2 118 45 (some 146) rfl) ?_
                          refine qm_Ru.go 1 (c' := (54, [.ref 118, .int b, .int y, .int r, .int v183, .float 0, .float 0], [.int b, .ref 146], h)) rfl ?_
                          obtain ⟨v188, q_v188⟩ : ∃ v, h.2.1 146 (b.toInt.toNat) = v := ⟨_, rfl⟩
                          have b_v188 : (0 : Int) ≤ v188.toInt ∧ v188.toInt ≤ 40 := by rw [← q_v188]; exact hB 146 (b.toInt.toNat)
                          refine hk_ial (v := v188) rfl (hH.1 146 (0, 30) rfl) (by omega) (by omega) q_v188 ?_
                          refine qm_Ru.go 1 (c' := (56, [.ref 118, .int b, .int y, .int r, .int v183, .float 0, .float 0], [.ref 118, .int v188], h)) rfl ?_
                          refine hk_getr rfl (hH.1 118 (17, 105) rfl) rfl (hH.2 118 24 (some 129) rfl) ?_
                          refine qm_Ru.go 1 (c' := (60, [.ref 118, .int b, .int y, .int r, .int v183, .float 0, .float 0], [.ref 118, .ref 129, .int v188], h)) rfl ?_
                          refine hk_geti (v := v5) rfl (hH.1 118 (17, 105) rfl) rfl q_v5 ?_
                          refine qm_Ru.go 0 (c' := (63, [.ref 118, .int b, .int y, .int r, .int v183, .float 0, .float 0], [.int v5, .ref 129, .int v188], h)) rfl ?_
                          obtain ⟨v189, q_v189⟩ : ∃ v, h.2.1 129 (v5.toInt.toNat) = v := ⟨_, rfl⟩
                          refine hk_ial (v := v189) rfl (hH.1 129 (0, 2) rfl) (by omega) (by omega) q_v189 ?_
                          refine qm_Ru.go 0 (c' := (64, [.ref 118, .int b, .int y, .int r, .int v183, .float 0, .float 0], [.int v189, .int v188], h)) rfl ?_
                          refine hk_cle (ix := v188.toInt) (iy := v189.toInt) rfl rfl rfl (fun z190 => ?_) (fun z190 => ?_)
                          · refine qm_Ru.go 1 (c' := (71, [.ref 118, .int b, .int y, .int r, .int v183, .float 0, .float 0], [.ref 118], h)) rfl ?_
                            refine hk_inv (o := 118) (r := []) (as := [.ref 118]) rfl rfl (hH.1 118 (17, 105) rfl) rfl rfl rfl rfl (hs_looks (h := h) h6 hH hB (v_R_ru hV)  (by omega) (fun I191 J192 hB_I191 e_I191 => ?_))
                            have hV_I191 : v_R I191 := v_R_cg hV e_I191 rfl
                            refine qm_Ru.go 1 (c' := (75, [.ref 118, .int b, .int y, .int r, .int v183, .float 0, .float 0], [.ref 118], (h.1, I191, J192, h.2.2.2))) rfl ?_
                            refine hk_getr rfl (hH.1 118 (17, 105) rfl) rfl (hH.2 118 49 (some 150) rfl) ?_
                            refine qm_Ru.go 1 (c' := (79, [.ref 118, .int b, .int y, .int r, .int v183, .float 0, .float 0], [.int b, .ref 150], (h.1, I191, J192, h.2.2.2))) rfl ?_
                            refine hk_ial (v := v12) rfl (hH.1 150 (0, 30) rfl) (by omega) (by omega) (show (I191) 150 (b.toInt.toNat) = _ from ((e_I191 150 rfl (b.toInt.toNat)).trans q_v12)) ?_
                            refine qm_Ru.go 2 (c' := (83, [.ref 118, .int b, .int y, .int r, .int v183, .int v12, .float 0], [.ref 118], (h.1, I191, J192, h.2.2.2))) rfl ?_
                            refine hk_getr rfl (hH.1 118 (17, 105) rfl) rfl (hH.2 118 50 (some 151) rfl) ?_
                            refine qm_Ru.go 1 (c' := (87, [.ref 118, .int b, .int y, .int r, .int v183, .int v12, .float 0], [.int b, .ref 151], (h.1, I191, J192, h.2.2.2))) rfl ?_
                            refine hk_ial (v := v112) rfl (hH.1 151 (0, 30) rfl) (by omega) (by omega) (show (I191) 151 (b.toInt.toNat) = _ from ((e_I191 151 rfl (b.toInt.toNat)).trans q_v112)) ?_
                            refine qm_Ru.go 3 (c' := (92, [.ref 118, .int b, .int y, .int r, .int v183, .int v12, .int v112], [.int b, .ref 118], (h.1, I191, J192, h.2.2.2))) rfl ?_
                            refine hk_inv (o := 118) (r := []) (as := [.ref 118, .int b]) rfl rfl (hH.1 118 (17, 105) rfl) rfl rfl rfl rfl (rl_take (h := (h.1, I191, J192, h.2.2.2)) hH hB_I191 hV_I191 (b := b) (g := v114.toInt.toNat) (hv := v115.toInt) (by omega) (show pI (I191) 150 (b.toInt.toNat) = 2 from (congrArg Int32.toInt (show (I191) 150 (b.toInt.toNat) = _ from ((e_I191 150 rfl (b.toInt.toNat)).trans q_v12))).trans (by omega)) (show pI (I191) 151 (b.toInt.toNat) = 4 * ((v114.toInt.toNat : Nat) : Int) + (v115.toInt - 1) from (congrArg Int32.toInt (show (I191) 151 (b.toInt.toNat) = _ from ((e_I191 151 rfl (b.toInt.toNat)).trans q_v112))).trans (by omega)) (congrArg Int32.toInt (show (I191) 154 (v114.toInt.toNat) = _ from ((e_I191 154 rfl (v114.toInt.toNat)).trans q_v115))) (by omega) (by omega) (by omega) (fun I193 hB_I193 hV_I193 e_I193 p0_I193 pn_I193 p4_I193 => ?_))
                            obtain ⟨v194, q_v194⟩ : ∃ v, I193 154 (v114.toInt.toNat) = v := ⟨_, rfl⟩
                            have f_v194 : v194.toInt = v115.toInt - 1 := by rw [← q_v194]; exact p4_I193
                            obtain ⟨v195, q_v195⟩ : ∃ v, I193 150 (b.toInt.toNat) = v := ⟨_, rfl⟩
                            have f_v195 : v195.toInt = 0 := by rw [← q_v195]; exact p0_I193
                            refine qm_Ru.go 3 (c' := (99, [.ref 118, .int b, .int y, .int r, .int v183, .int v12, .int v112], [.int v183, .int b, .ref 118], (h.1, I193, J192, h.2.2.2))) rfl ?_
                            refine hk_inv (o := 118) (r := []) (as := [.ref 118, .int b, .int v183]) rfl rfl (hH.1 118 (17, 105) rfl) rfl rfl rfl rfl (rb_boards (h := (h.1, I193, J192, h.2.2.2)) hH hB_I193 hV_I193 (b := b) (k0 := v183) (by omega) (by omega) (show pI (I193) 150 (b.toInt.toNat) = 0 from (congrArg Int32.toInt q_v195).trans (by omega)) (show ((b.toInt.toNat : Nat) : Int) < ((I193) 118 44).toInt from by rw [(show (I193) 118 44 = _ from ((e_I193 118 rfl 44).trans ((e_I191 118 rfl 44).trans q_v1)))]; omega) (fun I196 hB_I196 hV_I196 e_I196 p0_I196 pn_I196 p1_I196 pm_I196 => ?_))
                            obtain ⟨v197, q_v197⟩ : ∃ v, I196 150 (b.toInt.toNat) = v := ⟨_, rfl⟩
                            have f_v197 : v197.toInt = 1 := by rw [← q_v197]; exact p0_I196
                            obtain ⟨v198, q_v198⟩ : ∃ v, I196 151 (b.toInt.toNat) = v := ⟨_, rfl⟩
                            have f_v198 : v198.toInt = v183.toInt := by rw [← q_v198]; exact (congrArg Int32.toInt p1_I196)
                            refine qm_Ru.go 1 (c' := (103, [.ref 118, .int b, .int y, .int r, .int v183, .int v12, .int v112], [.ref 118], (h.1, I196, J192, h.2.2.2))) rfl ?_
                            refine hk_inv (o := 118) (r := []) (as := [.ref 118]) rfl rfl (hH.1 118 (17, 105) rfl) rfl rfl rfl rfl (hs_maybe (h := (h.1, I196, J192, h.2.2.2)) h6 hH hB_I196 (v_R_ru hV_I196)  (by omega) (fun v201 I199 J200 c_v201 hB_I199 e_I199 => ?_))
                            have hV_I199 : v_R I199 := v_R_cg hV_I196 e_I199 rfl
                            have b_v201 : (0 : Int) ≤ v201.toInt ∧ v201.toInt ≤ 1 := c_v201
                            refine qm_Ru.go 0 (c' := (106, [.ref 118, .int b, .int y, .int r, .int v183, .int v12, .int v112], [.int v201], (h.1, I199, J200, h.2.2.2))) rfl ?_
                            refine hk_zeq (ix := v201.toInt) rfl rfl (fun z202 => ?_) (fun z202 => ?_)
                            · refine qm_Ru.go 2 (c' := (116, [.ref 118, .int b, .int y, .int r, .int v183, .int v12, .int v112], [.int b, .ref 118], (h.1, I199, J200, h.2.2.2))) rfl ?_
                              refine hk_inv (o := 118) (r := []) (as := [.ref 118, .int b]) rfl rfl (hH.1 118 (17, 105) rfl) rfl rfl rfl rfl (rl_away (h := (h.1, I199, J200, h.2.2.2)) hH hB_I199 hV_I199 (b := b) (by omega) (show pI (I199) 150 (b.toInt.toNat) = 1 from (congrArg Int32.toInt (show (I199) 150 (b.toInt.toNat) = _ from ((e_I199 150 rfl (b.toInt.toNat)).trans q_v197))).trans (by omega)) (fun I203 hB_I203 hV_I203 e_I203 p0_I203 pn_I203 => ?_))
                              obtain ⟨v204, q_v204⟩ : ∃ v, I203 150 (b.toInt.toNat) = v := ⟨_, rfl⟩
                              have f_v204 : v204.toInt = 0 := by rw [← q_v204]; exact p0_I203
                              refine qm_Ru.go 2 (c' := (122, [.ref 118, .int b, .int y, .int r, .int v183, .int v12, .int v112], [.int 2, .int v12], (h.1, I203, J200, h.2.2.2))) rfl ?_
                              refine hk_cne (ix := v12.toInt) (iy := 2) rfl rfl rfl (fun z205 => by exfalso; omega) (fun z205 => ?_)
                              refine qm_Ru.go 5 (c' := (131, [.ref 118, .int b, .int y, .int r, .int v183, .int v12, .int v112], [.int (v112 / 4), .int b, .ref 118], (h.1, I203, J200, h.2.2.2))) rfl ?_
                              rw [q_v114]
                              refine hk_inv (o := 118) (r := []) (as := [.ref 118, .int b, .int v114]) rfl rfl (hH.1 118 (17, 105) rfl) rfl rfl rfl rfl (rp_puts (h := (h.1, I203, J200, h.2.2.2)) hH hB_I203 hV_I203 (b := b) (s := v114) (hv := v194.toInt) (by omega) (by omega) (show pI (I203) 150 (b.toInt.toNat) = 0 from (congrArg Int32.toInt q_v204).trans (by omega)) (congrArg Int32.toInt (show (I203) 154 (v114.toInt.toNat) = _ from ((e_I203 154 rfl (v114.toInt.toNat)).trans ((e_I199 154 rfl (v114.toInt.toNat)).trans ((e_I196 154 rfl (v114.toInt.toNat)).trans q_v194))))) (by omega) (by omega) (show ((b.toInt.toNat : Nat) : Int) < ((I203) 118 44).toInt from by rw [(show (I203) 118 44 = _ from ((e_I203 118 rfl 44).trans ((e_I199 118 rfl 44).trans ((e_I196 118 rfl 44).trans ((e_I193 118 rfl 44).trans ((e_I191 118 rfl 44).trans q_v1))))))]; omega) (fun I207 hB_I207 hV_I207 e_I207 p0_I207 pn_I207 pm_I207 p4_I207 => ?_))
                              obtain ⟨v208, q_v208⟩ : ∃ v, I207 150 (b.toInt.toNat) = v := ⟨_, rfl⟩
                              have f_v208 : v208.toInt = 2 := by rw [← q_v208]; exact p0_I207
                              obtain ⟨v209, q_v209⟩ : ∃ v, I207 154 (v114.toInt.toNat) = v := ⟨_, rfl⟩
                              have f_v209 : v209.toInt = v194.toInt + 1 := by rw [← q_v209]; exact p4_I207
                              refine qm_Ru.go 1 (c' := (136, [.ref 118, .int b, .int y, .int r, .int v183, .int v12, .int v112], [.int (-3)], (h.1, I207, J200, h.2.2.2))) rfl ?_
                              refine qm_Ru.rt (v := (some (.int (-3)))) (h' := (h.1, I207, J200, h.2.2.2)) rfl ?_
                              exact k (-3) (I207) (J200) ⟨by decide, by decide⟩ hB_I207 hV_I207 (fun o ho i => ((e_I207 o (hk_ms rfl ho) i).trans ((e_I203 o (hk_ms rfl ho) i).trans ((e_I199 o (hk_ms rfl ho) i).trans ((e_I196 o (hk_ms rfl ho) i).trans ((e_I193 o (hk_ms rfl ho) i).trans ((e_I191 o (hk_ms rfl ho) i).trans rfl))))))) (fun c => absurd c (by decide)) (fun i hi => ((pn_I207 i hi).trans ((pn_I203 i hi).trans ((e_I199 150 rfl i).trans ((pn_I196 i hi).trans ((pn_I193 i hi).trans ((e_I191 150 rfl i).trans rfl)))))))
                            · refine qm_Ru.go 3 (c' := (113, [.ref 118, .int b, .int y, .int r, .int v183, .int v12, .int v112], [.int (v183 - v183 / 4 * 4)], (h.1, I199, J200, h.2.2.2))) rfl ?_
                              obtain ⟨v210, q_v210, e_v210⟩ := hk_rem (x := v183) (y := 4) (a := v183.toInt) (b := 4) rfl rfl (by omega) (by omega)
                              rw [q_v210]
                              refine qm_Ru.rt (v := (some (.int v210))) (h' := (h.1, I199, J200, h.2.2.2)) rfl ?_
                              exact k v210 (I199) (J200) ⟨by omega, by omega⟩ hB_I199 hV_I199 (fun o ho i => ((e_I199 o (hk_ms rfl ho) i).trans ((e_I196 o (hk_ms rfl ho) i).trans ((e_I193 o (hk_ms rfl ho) i).trans ((e_I191 o (hk_ms rfl ho) i).trans rfl))))) (fun _ => ⟨(congrArg Int32.toInt (show (I199) 150 (b.toInt.toNat) = _ from ((e_I199 150 rfl (b.toInt.toNat)).trans q_v197))).trans (by omega), by omega, by omega⟩) (fun i hi => ((e_I199 150 rfl i).trans ((pn_I196 i hi).trans ((pn_I193 i hi).trans ((e_I191 150 rfl i).trans rfl)))))
                          · refine qm_Ru.go 1 (c' := (69, [.ref 118, .int b, .int y, .int r, .int v183, .float 0, .float 0], [.int (-2)], h)) rfl ?_
                            refine qm_Ru.rt (v := (some (.int (-2)))) (h' := h) rfl ?_
                            exact k (-2) (h.2.1) (h.2.2.1) ⟨by decide, by decide⟩ hB hV (fun o ho i => rfl) (fun c => absurd c (by decide)) (fun i hi => rfl)
                      · refine qm_Ru.go 2 (c' := (56, [.ref 118, .int y, .int r, .int v180], [.int v180], h)) rfl ?_
                        refine qm_Ru.rt (v := (some (.int v180))) (h' := h) rfl ?_
                        refine qm_Ru.go 3 (c' := (44, [.ref 118, .int b, .int y, .int r, .int v180, .float 0, .float 0], [.int (-1), .int v180], h)) rfl ?_
                        refine hk_cne (ix := v180.toInt) (iy := (-1)) rfl rfl rfl (fun z211 => ?_) (fun z211 => by exfalso; omega)
                        refine qm_Ru.go 1 (c' := (50, [.ref 118, .int b, .int y, .int r, .int v180, .float 0, .float 0], [.ref 118], h)) rfl ?_
                        refine hk_getr rfl (hH.1 118 (17, 105) rfl) rfl (hH.2 118 45 (some 146) rfl) ?_
                        refine qm_Ru.go 1 (c' := (54, [.ref 118, .int b, .int y, .int r, .int v180, .float 0, .float 0], [.int b, .ref 146], h)) rfl ?_
                        obtain ⟨v212, q_v212⟩ : ∃ v, h.2.1 146 (b.toInt.toNat) = v := ⟨_, rfl⟩
                        have b_v212 : (0 : Int) ≤ v212.toInt ∧ v212.toInt ≤ 40 := by rw [← q_v212]; exact hB 146 (b.toInt.toNat)
                        refine hk_ial (v := v212) rfl (hH.1 146 (0, 30) rfl) (by omega) (by omega) q_v212 ?_
                        refine qm_Ru.go 1 (c' := (56, [.ref 118, .int b, .int y, .int r, .int v180, .float 0, .float 0], [.ref 118, .int v212], h)) rfl ?_
                        refine hk_getr rfl (hH.1 118 (17, 105) rfl) rfl (hH.2 118 24 (some 129) rfl) ?_
                        refine qm_Ru.go 1 (c' := (60, [.ref 118, .int b, .int y, .int r, .int v180, .float 0, .float 0], [.ref 118, .ref 129, .int v212], h)) rfl ?_
                        refine hk_geti (v := v5) rfl (hH.1 118 (17, 105) rfl) rfl q_v5 ?_
                        refine qm_Ru.go 0 (c' := (63, [.ref 118, .int b, .int y, .int r, .int v180, .float 0, .float 0], [.int v5, .ref 129, .int v212], h)) rfl ?_
                        obtain ⟨v213, q_v213⟩ : ∃ v, h.2.1 129 (v5.toInt.toNat) = v := ⟨_, rfl⟩
                        refine hk_ial (v := v213) rfl (hH.1 129 (0, 2) rfl) (by omega) (by omega) q_v213 ?_
                        refine qm_Ru.go 0 (c' := (64, [.ref 118, .int b, .int y, .int r, .int v180, .float 0, .float 0], [.int v213, .int v212], h)) rfl ?_
                        refine hk_cle (ix := v212.toInt) (iy := v213.toInt) rfl rfl rfl (fun z214 => ?_) (fun z214 => ?_)
                        · refine qm_Ru.go 1 (c' := (71, [.ref 118, .int b, .int y, .int r, .int v180, .float 0, .float 0], [.ref 118], h)) rfl ?_
                          refine hk_inv (o := 118) (r := []) (as := [.ref 118]) rfl rfl (hH.1 118 (17, 105) rfl) rfl rfl rfl rfl (hs_looks (h := h) h6 hH hB (v_R_ru hV)  (by omega) (fun I215 J216 hB_I215 e_I215 => ?_))
                          have hV_I215 : v_R I215 := v_R_cg hV e_I215 rfl
                          refine qm_Ru.go 1 (c' := (75, [.ref 118, .int b, .int y, .int r, .int v180, .float 0, .float 0], [.ref 118], (h.1, I215, J216, h.2.2.2))) rfl ?_
                          refine hk_getr rfl (hH.1 118 (17, 105) rfl) rfl (hH.2 118 49 (some 150) rfl) ?_
                          refine qm_Ru.go 1 (c' := (79, [.ref 118, .int b, .int y, .int r, .int v180, .float 0, .float 0], [.int b, .ref 150], (h.1, I215, J216, h.2.2.2))) rfl ?_
                          refine hk_ial (v := v12) rfl (hH.1 150 (0, 30) rfl) (by omega) (by omega) (show (I215) 150 (b.toInt.toNat) = _ from ((e_I215 150 rfl (b.toInt.toNat)).trans q_v12)) ?_
                          refine qm_Ru.go 2 (c' := (83, [.ref 118, .int b, .int y, .int r, .int v180, .int v12, .float 0], [.ref 118], (h.1, I215, J216, h.2.2.2))) rfl ?_
                          refine hk_getr rfl (hH.1 118 (17, 105) rfl) rfl (hH.2 118 50 (some 151) rfl) ?_
                          refine qm_Ru.go 1 (c' := (87, [.ref 118, .int b, .int y, .int r, .int v180, .int v12, .float 0], [.int b, .ref 151], (h.1, I215, J216, h.2.2.2))) rfl ?_
                          refine hk_ial (v := v112) rfl (hH.1 151 (0, 30) rfl) (by omega) (by omega) (show (I215) 151 (b.toInt.toNat) = _ from ((e_I215 151 rfl (b.toInt.toNat)).trans q_v112)) ?_
                          refine qm_Ru.go 3 (c' := (92, [.ref 118, .int b, .int y, .int r, .int v180, .int v12, .int v112], [.int b, .ref 118], (h.1, I215, J216, h.2.2.2))) rfl ?_
                          refine hk_inv (o := 118) (r := []) (as := [.ref 118, .int b]) rfl rfl (hH.1 118 (17, 105) rfl) rfl rfl rfl rfl (rl_take (h := (h.1, I215, J216, h.2.2.2)) hH hB_I215 hV_I215 (b := b) (g := v114.toInt.toNat) (hv := v115.toInt) (by omega) (show pI (I215) 150 (b.toInt.toNat) = 2 from (congrArg Int32.toInt (show (I215) 150 (b.toInt.toNat) = _ from ((e_I215 150 rfl (b.toInt.toNat)).trans q_v12))).trans (by omega)) (show pI (I215) 151 (b.toInt.toNat) = 4 * ((v114.toInt.toNat : Nat) : Int) + (v115.toInt - 1) from (congrArg Int32.toInt (show (I215) 151 (b.toInt.toNat) = _ from ((e_I215 151 rfl (b.toInt.toNat)).trans q_v112))).trans (by omega)) (congrArg Int32.toInt (show (I215) 154 (v114.toInt.toNat) = _ from ((e_I215 154 rfl (v114.toInt.toNat)).trans q_v115))) (by omega) (by omega) (by omega) (fun I217 hB_I217 hV_I217 e_I217 p0_I217 pn_I217 p4_I217 => ?_))
                          obtain ⟨v218, q_v218⟩ : ∃ v, I217 154 (v114.toInt.toNat) = v := ⟨_, rfl⟩
                          have f_v218 : v218.toInt = v115.toInt - 1 := by rw [← q_v218]; exact p4_I217
                          obtain ⟨v219, q_v219⟩ : ∃ v, I217 150 (b.toInt.toNat) = v := ⟨_, rfl⟩
                          have f_v219 : v219.toInt = 0 := by rw [← q_v219]; exact p0_I217
                          refine qm_Ru.go 3 (c' := (99, [.ref 118, .int b, .int y, .int r, .int v180, .int v12, .int v112], [.int v180, .int b, .ref 118], (h.1, I217, J216, h.2.2.2))) rfl ?_
                          refine hk_inv (o := 118) (r := []) (as := [.ref 118, .int b, .int v180]) rfl rfl (hH.1 118 (17, 105) rfl) rfl rfl rfl rfl (rb_boards (h := (h.1, I217, J216, h.2.2.2)) hH hB_I217 hV_I217 (b := b) (k0 := v180) (by omega) (by omega) (show pI (I217) 150 (b.toInt.toNat) = 0 from (congrArg Int32.toInt q_v219).trans (by omega)) (show ((b.toInt.toNat : Nat) : Int) < ((I217) 118 44).toInt from by rw [(show (I217) 118 44 = _ from ((e_I217 118 rfl 44).trans ((e_I215 118 rfl 44).trans q_v1)))]; omega) (fun I220 hB_I220 hV_I220 e_I220 p0_I220 pn_I220 p1_I220 pm_I220 => ?_))
                          obtain ⟨v221, q_v221⟩ : ∃ v, I220 150 (b.toInt.toNat) = v := ⟨_, rfl⟩
                          have f_v221 : v221.toInt = 1 := by rw [← q_v221]; exact p0_I220
                          obtain ⟨v222, q_v222⟩ : ∃ v, I220 151 (b.toInt.toNat) = v := ⟨_, rfl⟩
                          have f_v222 : v222.toInt = v180.toInt := by rw [← q_v222]; exact (congrArg Int32.toInt p1_I220)
                          refine qm_Ru.go 1 (c' := (103, [.ref 118, .int b, .int y, .int r, .int v180, .int v12, .int v112], [.ref 118], (h.1, I220, J216, h.2.2.2))) rfl ?_
                          refine hk_inv (o := 118) (r := []) (as := [.ref 118]) rfl rfl (hH.1 118 (17, 105) rfl) rfl rfl rfl rfl (hs_maybe (h := (h.1, I220, J216, h.2.2.2)) h6 hH hB_I220 (v_R_ru hV_I220)  (by omega) (fun v225 I223 J224 c_v225 hB_I223 e_I223 => ?_))
                          have hV_I223 : v_R I223 := v_R_cg hV_I220 e_I223 rfl
                          have b_v225 : (0 : Int) ≤ v225.toInt ∧ v225.toInt ≤ 1 := c_v225
                          refine qm_Ru.go 0 (c' := (106, [.ref 118, .int b, .int y, .int r, .int v180, .int v12, .int v112], [.int v225], (h.1, I223, J224, h.2.2.2))) rfl ?_
                          refine hk_zeq (ix := v225.toInt) rfl rfl (fun z226 => ?_) (fun z226 => ?_)
                          · refine qm_Ru.go 2 (c' := (116, [.ref 118, .int b, .int y, .int r, .int v180, .int v12, .int v112], [.int b, .ref 118], (h.1, I223, J224, h.2.2.2))) rfl ?_
                            refine hk_inv (o := 118) (r := []) (as := [.ref 118, .int b]) rfl rfl (hH.1 118 (17, 105) rfl) rfl rfl rfl rfl (rl_away (h := (h.1, I223, J224, h.2.2.2)) hH hB_I223 hV_I223 (b := b) (by omega) (show pI (I223) 150 (b.toInt.toNat) = 1 from (congrArg Int32.toInt (show (I223) 150 (b.toInt.toNat) = _ from ((e_I223 150 rfl (b.toInt.toNat)).trans q_v221))).trans (by omega)) (fun I227 hB_I227 hV_I227 e_I227 p0_I227 pn_I227 => ?_))
                            obtain ⟨v228, q_v228⟩ : ∃ v, I227 150 (b.toInt.toNat) = v := ⟨_, rfl⟩
                            have f_v228 : v228.toInt = 0 := by rw [← q_v228]; exact p0_I227
                            refine qm_Ru.go 2 (c' := (122, [.ref 118, .int b, .int y, .int r, .int v180, .int v12, .int v112], [.int 2, .int v12], (h.1, I227, J224, h.2.2.2))) rfl ?_
                            refine hk_cne (ix := v12.toInt) (iy := 2) rfl rfl rfl (fun z229 => by exfalso; omega) (fun z229 => ?_)
                            refine qm_Ru.go 5 (c' := (131, [.ref 118, .int b, .int y, .int r, .int v180, .int v12, .int v112], [.int (v112 / 4), .int b, .ref 118], (h.1, I227, J224, h.2.2.2))) rfl ?_
                            rw [q_v114]
                            refine hk_inv (o := 118) (r := []) (as := [.ref 118, .int b, .int v114]) rfl rfl (hH.1 118 (17, 105) rfl) rfl rfl rfl rfl (rp_puts (h := (h.1, I227, J224, h.2.2.2)) hH hB_I227 hV_I227 (b := b) (s := v114) (hv := v218.toInt) (by omega) (by omega) (show pI (I227) 150 (b.toInt.toNat) = 0 from (congrArg Int32.toInt q_v228).trans (by omega)) (congrArg Int32.toInt (show (I227) 154 (v114.toInt.toNat) = _ from ((e_I227 154 rfl (v114.toInt.toNat)).trans ((e_I223 154 rfl (v114.toInt.toNat)).trans ((e_I220 154 rfl (v114.toInt.toNat)).trans q_v218))))) (by omega) (by omega) (show ((b.toInt.toNat : Nat) : Int) < ((I227) 118 44).toInt from by rw [(show (I227) 118 44 = _ from ((e_I227 118 rfl 44).trans ((e_I223 118 rfl 44).trans ((e_I220 118 rfl 44).trans ((e_I217 118 rfl 44).trans ((e_I215 118 rfl 44).trans q_v1))))))]; omega) (fun I231 hB_I231 hV_I231 e_I231 p0_I231 pn_I231 pm_I231 p4_I231 => ?_))
                            obtain ⟨v232, q_v232⟩ : ∃ v, I231 150 (b.toInt.toNat) = v := ⟨_, rfl⟩
                            have f_v232 : v232.toInt = 2 := by rw [← q_v232]; exact p0_I231
                            obtain ⟨v233, q_v233⟩ : ∃ v, I231 154 (v114.toInt.toNat) = v := ⟨_, rfl⟩
                            have f_v233 : v233.toInt = v218.toInt + 1 := by rw [← q_v233]; exact p4_I231
                            refine qm_Ru.go 1 (c' := (136, [.ref 118, .int b, .int y, .int r, .int v180, .int v12, .int v112], [.int (-3)], (h.1, I231, J224, h.2.2.2))) rfl ?_
                            refine qm_Ru.rt (v := (some (.int (-3)))) (h' := (h.1, I231, J224, h.2.2.2)) rfl ?_
                            exact k (-3) (I231) (J224) ⟨by decide, by decide⟩ hB_I231 hV_I231 (fun o ho i => ((e_I231 o (hk_ms rfl ho) i).trans ((e_I227 o (hk_ms rfl ho) i).trans ((e_I223 o (hk_ms rfl ho) i).trans ((e_I220 o (hk_ms rfl ho) i).trans ((e_I217 o (hk_ms rfl ho) i).trans ((e_I215 o (hk_ms rfl ho) i).trans rfl))))))) (fun c => absurd c (by decide)) (fun i hi => ((pn_I231 i hi).trans ((pn_I227 i hi).trans ((e_I223 150 rfl i).trans ((pn_I220 i hi).trans ((pn_I217 i hi).trans ((e_I215 150 rfl i).trans rfl)))))))
                          · refine qm_Ru.go 3 (c' := (113, [.ref 118, .int b, .int y, .int r, .int v180, .int v12, .int v112], [.int (v180 - v180 / 4 * 4)], (h.1, I223, J224, h.2.2.2))) rfl ?_
                            obtain ⟨v234, q_v234, e_v234⟩ := hk_rem (x := v180) (y := 4) (a := v180.toInt) (b := 4) rfl rfl (by omega) (by omega)
                            rw [q_v234]
                            refine qm_Ru.rt (v := (some (.int v234))) (h' := (h.1, I223, J224, h.2.2.2)) rfl ?_
                            exact k v234 (I223) (J224) ⟨by omega, by omega⟩ hB_I223 hV_I223 (fun o ho i => ((e_I223 o (hk_ms rfl ho) i).trans ((e_I220 o (hk_ms rfl ho) i).trans ((e_I217 o (hk_ms rfl ho) i).trans ((e_I215 o (hk_ms rfl ho) i).trans rfl))))) (fun _ => ⟨(congrArg Int32.toInt (show (I223) 150 (b.toInt.toNat) = _ from ((e_I223 150 rfl (b.toInt.toNat)).trans q_v221))).trans (by omega), by omega, by omega⟩) (fun i hi => ((e_I223 150 rfl i).trans ((pn_I220 i hi).trans ((pn_I217 i hi).trans ((e_I215 150 rfl i).trans rfl)))))
                        · refine qm_Ru.go 1 (c' := (69, [.ref 118, .int b, .int y, .int r, .int v180, .float 0, .float 0], [.int (-2)], h)) rfl ?_
                          refine qm_Ru.rt (v := (some (.int (-2)))) (h' := h) rfl ?_
                          exact k (-2) (h.2.1) (h.2.2.1) ⟨by decide, by decide⟩ hB hV (fun o ho i => rfl) (fun c => absurd c (by decide)) (fun i hi => rfl)
theorem hc_rload : hk_ct v_R (fun _ => True) (fun as I => ∃ b y r : Int32, as = [.ref 118, .int b, .int y, .int r]) 284 (some (-3, 3)) [146, 147, 148, 149, 150, 151, 152, 153, 154, 155, 156] 60 := by
  intro L xs d Z h as h6 hH hT hB hV hp hd k
  obtain ⟨b, y, r, rfl⟩ := hp
  obtain ⟨d, rfl⟩ : ∃ e, d = e + 60 := ⟨d - 60, by omega⟩
  exact hq_rload h6 hH hB hV (fun v I J b hB2 hV2 e _ _ => k (some (.int v)) I J ⟨_, rfl, b⟩ hB2 hV2 e)
