/-! contracts of the reference by hand -/
theorem hc_rstore : hk_ct v_R (fun _ => True) (fun as I => ∃ b s : Int32, as = [.ref 118, .int b, .int s]) 277 (some (-1, 3)) [146, 147, 148, 149, 150, 151, 152, 153, 154, 155, 156] 60 := by
  intro L xs d Z h as h6 hH hT hB hV hp hd k
  obtain ⟨b, s, rfl⟩ := hp
  obtain ⟨d, rfl⟩ : ∃ e, d = e + 60 := ⟨d - 60, by omega⟩
  show qm_Ru (some (L, xs)) (d + 60) cd_277 (qm_ent 3 [.ref 118, .int b, .int s] h) Z
  refine qm_Ru.go 2 (c' := (2, [.ref 118, .int b, .int s], [.int b, .ref 118], h)) rfl ?_
  refine hk_inv (o := 118) (r := []) (as := [.ref 118, .int b]) rfl rfl (hH.1 118 (17, 105) rfl) rfl rfl rfl rfl ?_
  refine qm_Ru.go 3 (c' := (3, [.ref 118, .int b], [.ref 118, .int 0, .int b], h)) rfl ?_
  obtain ⟨v1, q_v1⟩ : ∃ v, h.2.1 118 44 = v := ⟨_, rfl⟩
  have b_v1 : (0 : Int) ≤ v1.toInt ∧ v1.toInt ≤ 30 := by rw [← q_v1]; exact hB 118 44
  refine hk_geti (v := v1) rfl (hH.1 118 (17, 105) rfl) rfl q_v1 ?_
  refine qm_Ru.go 2 (c' := (8, [.ref 118, .int b], [.int (v1 - 1), .int 0, .int b], h)) rfl ?_
  obtain ⟨v2, q_v2, e_v2⟩ := hk_sub (x := v1) (y := 1) (a := v1.toInt) (b := 1) rfl rfl (by omega) (by omega)
  rw [q_v2]
  refine qm_Ru.call (j := 270) (as := [.int b, .int 0, .int v2]) (c' := (11, [.ref 118, .int b], [], h)) rfl rfl rfl ?_
  refine qm_Ru.go 2 (c' := (2, [.int b, .int 0, .int v2], [.int 0, .int b], h)) rfl ?_
  refine hk_clt (ix := b.toInt) (iy := 0) rfl rfl rfl (fun z3 => ?_) (fun z3 => ?_)
  · refine qm_Ru.go 1 (c' := (15, [.int b, .int 0, .int v2], [.int 0], h)) rfl ?_
    refine qm_Ru.rt (v := (some (.int 0))) (h' := h) rfl ?_
    refine qm_Ru.go 0 (c' := (11, [.ref 118, .int b], [.int 0], h)) rfl ?_
    refine qm_Ru.rt (v := (some (.int 0))) (h' := h) rfl ?_
    refine qm_Ru.go 2 (c' := (35, [.ref 118, .int b, .int s], [.int (-1)], h)) rfl ?_
    refine qm_Ru.rt (v := (some (.int (-1)))) (h' := h) rfl ?_
    exact k (some (.int (-1))) (h.2.1) (h.2.2.1) ⟨_, rfl, ⟨by decide, by decide⟩⟩ hB hV (fun o ho i => rfl)
  · refine qm_Ru.go 2 (c' := (7, [.int b, .int 0, .int v2], [.int v2, .int b], h)) rfl ?_
    refine hk_cgt (ix := b.toInt) (iy := v2.toInt) rfl rfl rfl (fun z4 => ?_) (fun z4 => ?_)
    · refine qm_Ru.go 1 (c' := (15, [.int b, .int 0, .int v2], [.int 0], h)) rfl ?_
      refine qm_Ru.rt (v := (some (.int 0))) (h' := h) rfl ?_
      refine qm_Ru.go 0 (c' := (11, [.ref 118, .int b], [.int 0], h)) rfl ?_
      refine qm_Ru.rt (v := (some (.int 0))) (h' := h) rfl ?_
      refine qm_Ru.go 2 (c' := (35, [.ref 118, .int b, .int s], [.int (-1)], h)) rfl ?_
      refine qm_Ru.rt (v := (some (.int (-1)))) (h' := h) rfl ?_
      exact k (some (.int (-1))) (h.2.1) (h.2.2.1) ⟨_, rfl, ⟨by decide, by decide⟩⟩ hB hV (fun o ho i => rfl)
    · refine qm_Ru.go 2 (c' := (15, [.int b, .int 0, .int v2], [.int 1], h)) rfl ?_
      refine qm_Ru.rt (v := (some (.int 1))) (h' := h) rfl ?_
      refine qm_Ru.go 0 (c' := (11, [.ref 118, .int b], [.int 1], h)) rfl ?_
      refine qm_Ru.rt (v := (some (.int 1))) (h' := h) rfl ?_
      refine qm_Ru.go 2 (c' := (9, [.ref 118, .int b, .int s], [.int s], h)) rfl ?_
      refine qm_Ru.call (j := 278) (as := [.int s]) (c' := (12, [.ref 118, .int b, .int s], [], h)) rfl rfl rfl ?_
      refine qm_Ru.go 3 (c' := (3, [.int s], [.int 3, .int 0, .int s], h)) rfl ?_
      refine qm_Ru.call (j := 270) (as := [.int s, .int 0, .int 3]) (c' := (6, [.int s], [], h)) rfl rfl rfl ?_
      refine qm_Ru.go 2 (c' := (2, [.int s, .int 0, .int 3], [.int 0, .int s], h)) rfl ?_
      refine hk_clt (ix := s.toInt) (iy := 0) rfl rfl rfl (fun z5 => ?_) (fun z5 => ?_)
      · refine qm_Ru.go 1 (c' := (15, [.int s, .int 0, .int 3], [.int 0], h)) rfl ?_
        refine qm_Ru.rt (v := (some (.int 0))) (h' := h) rfl ?_
        refine qm_Ru.go 0 (c' := (6, [.int s], [.int 0], h)) rfl ?_
        refine qm_Ru.rt (v := (some (.int 0))) (h' := h) rfl ?_
        refine qm_Ru.go 2 (c' := (35, [.ref 118, .int b, .int s], [.int (-1)], h)) rfl ?_
        refine qm_Ru.rt (v := (some (.int (-1)))) (h' := h) rfl ?_
        exact k (some (.int (-1))) (h.2.1) (h.2.2.1) ⟨_, rfl, ⟨by decide, by decide⟩⟩ hB hV (fun o ho i => rfl)
      · refine qm_Ru.go 2 (c' := (7, [.int s, .int 0, .int 3], [.int 3, .int s], h)) rfl ?_
        refine hk_cgt (ix := s.toInt) (iy := 3) rfl rfl rfl (fun z6 => ?_) (fun z6 => ?_)
        · refine qm_Ru.go 1 (c' := (15, [.int s, .int 0, .int 3], [.int 0], h)) rfl ?_
          refine qm_Ru.rt (v := (some (.int 0))) (h' := h) rfl ?_
          refine qm_Ru.go 0 (c' := (6, [.int s], [.int 0], h)) rfl ?_
          refine qm_Ru.rt (v := (some (.int 0))) (h' := h) rfl ?_
          refine qm_Ru.go 2 (c' := (35, [.ref 118, .int b, .int s], [.int (-1)], h)) rfl ?_
          refine qm_Ru.rt (v := (some (.int (-1)))) (h' := h) rfl ?_
          exact k (some (.int (-1))) (h.2.1) (h.2.2.1) ⟨_, rfl, ⟨by decide, by decide⟩⟩ hB hV (fun o ho i => rfl)
        · refine qm_Ru.go 2 (c' := (15, [.int s, .int 0, .int 3], [.int 1], h)) rfl ?_
          refine qm_Ru.rt (v := (some (.int 1))) (h' := h) rfl ?_
          refine qm_Ru.go 0 (c' := (6, [.int s], [.int 1], h)) rfl ?_
          refine qm_Ru.rt (v := (some (.int 1))) (h' := h) rfl ?_
          refine qm_Ru.go 2 (c' := (16, [.ref 118, .int b, .int s], [.ref 118], h)) rfl ?_
          refine hk_getr rfl (hH.1 118 (17, 105) rfl) rfl (hH.2 118 49 (some 150) rfl) ?_
          refine qm_Ru.go 1 (c' := (20, [.ref 118, .int b, .int s], [.int b, .ref 150], h)) rfl ?_
          obtain ⟨v7, q_v7⟩ : ∃ v, h.2.1 150 (b.toInt.toNat) = v := ⟨_, rfl⟩
          have b_v7 : (0 : Int) ≤ v7.toInt ∧ v7.toInt ≤ 2 := by rw [← q_v7]; exact hB 150 (b.toInt.toNat)
          refine hk_ial (v := v7) rfl (hH.1 150 (0, 30) rfl) (by omega) (by omega) q_v7 ?_
          refine qm_Ru.go 0 (c' := (21, [.ref 118, .int b, .int s], [.int v7], h)) rfl ?_
          refine hk_zne (ix := v7.toInt) rfl rfl (fun z8 => ?_) (fun z8 => ?_)
          · refine qm_Ru.go 1 (c' := (35, [.ref 118, .int b, .int s], [.int (-1)], h)) rfl ?_
            refine qm_Ru.rt (v := (some (.int (-1)))) (h' := h) rfl ?_
            exact k (some (.int (-1))) (h.2.1) (h.2.2.1) ⟨_, rfl, ⟨by decide, by decide⟩⟩ hB hV (fun o ho i => rfl)
          · refine qm_Ru.go 1 (c' := (25, [.ref 118, .int b, .int s], [.ref 118], h)) rfl ?_
            refine hk_getr rfl (hH.1 118 (17, 105) rfl) rfl (hH.2 118 53 (some 154) rfl) ?_
            refine qm_Ru.go 1 (c' := (29, [.ref 118, .int b, .int s], [.int s, .ref 154], h)) rfl ?_
            obtain ⟨v9, q_v9⟩ : ∃ v, h.2.1 154 (s.toInt.toNat) = v := ⟨_, rfl⟩
            have b_v9 : (0 : Int) ≤ v9.toInt ∧ v9.toInt ≤ 4 := by rw [← q_v9]; exact hB 154 (s.toInt.toNat)
            refine hk_ial (v := v9) rfl (hH.1 154 (0, 4) rfl) (by omega) (by omega) q_v9 ?_
            refine qm_Ru.go 1 (c' := (31, [.ref 118, .int b, .int s], [.int 4, .int v9], h)) rfl ?_
            refine hk_cne (ix := v9.toInt) (iy := 4) rfl rfl rfl (fun z10 => ?_) (fun z10 => ?_)
            · refine qm_Ru.go 3 (c' := (39, [.ref 118, .int b, .int s], [.int s, .int b, .ref 118], h)) rfl ?_
              refine hk_inv (o := 118) (r := []) (as := [.ref 118, .int b, .int s]) rfl rfl (hH.1 118 (17, 105) rfl) rfl rfl rfl rfl (rp_puts (h := h) hH hB hV (b := b) (s := s) (hv := v9.toInt) (by omega) (by omega) (show pI (h.2.1) 150 (b.toInt.toNat) = 0 from (congrArg Int32.toInt q_v7).trans (by omega)) (congrArg Int32.toInt q_v9) (by omega) (by omega) (show ((b.toInt.toNat : Nat) : Int) < ((h.2.1) 118 44).toInt from by rw [q_v1]; omega) (fun I11 hB_I11 hV_I11 e_I11 p0_I11 pn_I11 pm_I11 p4_I11 => ?_))
              obtain ⟨v12, q_v12⟩ : ∃ v, I11 150 (b.toInt.toNat) = v := ⟨_, rfl⟩
              have f_v12 : v12.toInt = 2 := by rw [← q_v12]; exact p0_I11
              obtain ⟨v13, q_v13⟩ : ∃ v, I11 154 (s.toInt.toNat) = v := ⟨_, rfl⟩
              have f_v13 : v13.toInt = v9.toInt + 1 := by rw [← q_v13]; exact p4_I11
              refine qm_Ru.go 1 (c' := (43, [.ref 118, .int b, .int s], [.ref 118], (h.1, I11, h.2.2.1, h.2.2.2))) rfl ?_
              refine hk_getr rfl (hH.1 118 (17, 105) rfl) rfl (hH.2 118 53 (some 154) rfl) ?_
              refine qm_Ru.go 1 (c' := (47, [.ref 118, .int b, .int s], [.int s, .ref 154], (h.1, I11, h.2.2.1, h.2.2.2))) rfl ?_
              refine hk_ial (v := v13) rfl (hH.1 154 (0, 4) rfl) (by omega) (by omega) q_v13 ?_
              refine qm_Ru.go 2 (c' := (50, [.ref 118, .int b, .int s], [.int (v13 - 1)], (h.1, I11, h.2.2.1, h.2.2.2))) rfl ?_
              obtain ⟨v14, q_v14, e_v14⟩ := hk_sub (x := v13) (y := 1) (a := v13.toInt) (b := 1) rfl rfl (by omega) (by omega)
              rw [q_v14]
              refine qm_Ru.rt (v := (some (.int v14))) (h' := (h.1, I11, h.2.2.1, h.2.2.2)) rfl ?_
              exact k (some (.int v14)) (I11) (h.2.2.1) ⟨_, rfl, ⟨by show (-1 : Int) ≤ v14.toInt; omega, by show v14.toInt ≤ (3 : Int); omega⟩⟩ hB_I11 hV_I11 (fun o ho i => ((e_I11 o (hk_ms rfl ho) i).trans rfl))
            · refine qm_Ru.go 1 (c' := (35, [.ref 118, .int b, .int s], [.int (-1)], h)) rfl ?_
              refine qm_Ru.rt (v := (some (.int (-1)))) (h' := h) rfl ?_
              exact k (some (.int (-1))) (h.2.1) (h.2.2.1) ⟨_, rfl, ⟨by decide, by decide⟩⟩ hB hV (fun o ho i => rfl)
theorem hc_rfetch : hk_ct v_R (fun _ => True) (fun as I => ∃ s : Int32, as = [.ref 118, .int s]) 280 (some (-2, 29)) [146, 147, 148, 149, 150, 151, 152, 153, 154, 155, 156] 60 := by
  intro L xs d Z h as h6 hH hT hB hV hp hd k
  obtain ⟨s, rfl⟩ := hp
  obtain ⟨d, rfl⟩ : ∃ e, d = e + 60 := ⟨d - 60, by omega⟩
  show qm_Ru (some (L, xs)) (d + 60) cd_280 (qm_ent 3 [.ref 118, .int s] h) Z
  refine qm_Ru.go 1 (c' := (1, [.ref 118, .int s, .float 0], [.int s], h)) rfl ?_
  refine qm_Ru.call (j := 278) (as := [.int s]) (c' := (4, [.ref 118, .int s, .float 0], [], h)) rfl rfl rfl ?_
  refine qm_Ru.go 3 (c' := (3, [.int s], [.int 3, .int 0, .int s], h)) rfl ?_
  refine qm_Ru.call (j := 270) (as := [.int s, .int 0, .int 3]) (c' := (6, [.int s], [], h)) rfl rfl rfl ?_
  refine qm_Ru.go 2 (c' := (2, [.int s, .int 0, .int 3], [.int 0, .int s], h)) rfl ?_
  refine hk_clt (ix := s.toInt) (iy := 0) rfl rfl rfl (fun z1 => ?_) (fun z1 => ?_)
  · refine qm_Ru.go 1 (c' := (15, [.int s, .int 0, .int 3], [.int 0], h)) rfl ?_
    refine qm_Ru.rt (v := (some (.int 0))) (h' := h) rfl ?_
    refine qm_Ru.go 0 (c' := (6, [.int s], [.int 0], h)) rfl ?_
    refine qm_Ru.rt (v := (some (.int 0))) (h' := h) rfl ?_
    refine qm_Ru.go 2 (c' := (17, [.ref 118, .int s, .float 0], [.int (-1)], h)) rfl ?_
    refine qm_Ru.rt (v := (some (.int (-1)))) (h' := h) rfl ?_
    exact k (some (.int (-1))) (h.2.1) (h.2.2.1) ⟨_, rfl, ⟨by decide, by decide⟩⟩ hB hV (fun o ho i => rfl)
  · refine qm_Ru.go 2 (c' := (7, [.int s, .int 0, .int 3], [.int 3, .int s], h)) rfl ?_
    refine hk_cgt (ix := s.toInt) (iy := 3) rfl rfl rfl (fun z2 => ?_) (fun z2 => ?_)
    · refine qm_Ru.go 1 (c' := (15, [.int s, .int 0, .int 3], [.int 0], h)) rfl ?_
      refine qm_Ru.rt (v := (some (.int 0))) (h' := h) rfl ?_
      refine qm_Ru.go 0 (c' := (6, [.int s], [.int 0], h)) rfl ?_
      refine qm_Ru.rt (v := (some (.int 0))) (h' := h) rfl ?_
      refine qm_Ru.go 2 (c' := (17, [.ref 118, .int s, .float 0], [.int (-1)], h)) rfl ?_
      refine qm_Ru.rt (v := (some (.int (-1)))) (h' := h) rfl ?_
      exact k (some (.int (-1))) (h.2.1) (h.2.2.1) ⟨_, rfl, ⟨by decide, by decide⟩⟩ hB hV (fun o ho i => rfl)
    · refine qm_Ru.go 2 (c' := (15, [.int s, .int 0, .int 3], [.int 1], h)) rfl ?_
      refine qm_Ru.rt (v := (some (.int 1))) (h' := h) rfl ?_
      refine qm_Ru.go 0 (c' := (6, [.int s], [.int 1], h)) rfl ?_
      refine qm_Ru.rt (v := (some (.int 1))) (h' := h) rfl ?_
      refine qm_Ru.go 2 (c' := (8, [.ref 118, .int s, .float 0], [.ref 118], h)) rfl ?_
      refine hk_getr rfl (hH.1 118 (17, 105) rfl) rfl (hH.2 118 53 (some 154) rfl) ?_
      refine qm_Ru.go 1 (c' := (12, [.ref 118, .int s, .float 0], [.int s, .ref 154], h)) rfl ?_
      obtain ⟨v3, q_v3⟩ : ∃ v, h.2.1 154 (s.toInt.toNat) = v := ⟨_, rfl⟩
      have b_v3 : (0 : Int) ≤ v3.toInt ∧ v3.toInt ≤ 4 := by rw [← q_v3]; exact hB 154 (s.toInt.toNat)
      refine hk_ial (v := v3) rfl (hH.1 154 (0, 4) rfl) (by omega) (by omega) q_v3 ?_
      refine qm_Ru.go 0 (c' := (13, [.ref 118, .int s, .float 0], [.int v3], h)) rfl ?_
      refine hk_zne (ix := v3.toInt) rfl rfl (fun z4 => ?_) (fun z4 => ?_)
      · refine qm_Ru.go 1 (c' := (19, [.ref 118, .int s, .float 0], [.ref 118], h)) rfl ?_
        refine hk_getr rfl (hH.1 118 (17, 105) rfl) rfl (hH.2 118 52 (some 153) rfl) ?_
        refine qm_Ru.go 3 (c' := (25, [.ref 118, .int s, .float 0], [.int (4 * s), .ref 153], h)) rfl ?_
        obtain ⟨v5, q_v5, e_v5⟩ := hk_mul (x := 4) (y := s) (a := 4) (b := s.toInt) rfl rfl (by omega) (by omega)
        rw [q_v5]
        refine qm_Ru.go 1 (c' := (26, [.ref 118, .int s, .float 0], [.ref 118, .int v5, .ref 153], h)) rfl ?_
        refine hk_getr rfl (hH.1 118 (17, 105) rfl) rfl (hH.2 118 53 (some 154) rfl) ?_
        refine qm_Ru.go 1 (c' := (30, [.ref 118, .int s, .float 0], [.int s, .ref 154, .int v5, .ref 153], h)) rfl ?_
        refine hk_ial (v := v3) rfl (hH.1 154 (0, 4) rfl) (by omega) (by omega) q_v3 ?_
        refine qm_Ru.go 1 (c' := (32, [.ref 118, .int s, .float 0], [.int (v5 + v3), .ref 153], h)) rfl ?_
        obtain ⟨v6, q_v6, e_v6⟩ := hk_add (x := v5) (y := v3) (a := v5.toInt) (b := v3.toInt) rfl rfl (by omega) (by omega)
        rw [q_v6]
        refine qm_Ru.go 2 (c' := (34, [.ref 118, .int s, .float 0], [.int (v6 - 1), .ref 153], h)) rfl ?_
        obtain ⟨v7, q_v7, e_v7⟩ := hk_sub (x := v6) (y := 1) (a := v6.toInt) (b := 1) rfl rfl (by omega) (by omega)
        rw [q_v7]
        obtain ⟨v8, q_v8⟩ : ∃ v, h.2.1 153 (v7.toInt.toNat) = v := ⟨_, rfl⟩
        have b_v8 : (0 : Int) ≤ v8.toInt ∧ v8.toInt ≤ 29 := by rw [← q_v8]; exact hB 153 (v7.toInt.toNat)
        refine hk_ial (v := v8) rfl (hH.1 153 (0, 16) rfl) (by omega) (by omega) q_v8 ?_
        refine qm_Ru.go 0 (c' := (35, [.ref 118, .int s, .float 0], [.int v8], h)) rfl ?_
        have a_v8 := c_of (g := s.toInt.toNat) (i := (v3.toInt - 1).toNat) hV.1 (by omega) (by omega) (congrArg Int32.toInt q_v3) (by omega) q_v8 (by omega)
        obtain ⟨v9, q_v9⟩ : ∃ v, h.2.1 150 (v8.toInt.toNat) = v := ⟨_, rfl⟩
        have b_v9 : (0 : Int) ≤ v9.toInt ∧ v9.toInt ≤ 2 := by rw [← q_v9]; exact hB 150 (v8.toInt.toNat)
        obtain ⟨v10, q_v10⟩ : ∃ v, h.2.1 151 (v8.toInt.toNat) = v := ⟨_, rfl⟩
        have b_v10 : (0 : Int) ≤ v10.toInt ∧ v10.toInt ≤ 79 := by rw [← q_v10]; exact hB 151 (v8.toInt.toNat)
        rw [q_v9, q_v10] at a_v8
        obtain ⟨v11, q_v11, e_v11⟩ := hk_div (x := v10) (y := 4) (a := v10.toInt) (b := 4) rfl rfl (by omega) (by omega)
        obtain ⟨v12, q_v12⟩ : ∃ v, h.2.1 154 (v11.toInt.toNat) = v := ⟨_, rfl⟩
        have b_v12 : (0 : Int) ≤ v12.toInt ∧ v12.toInt ≤ 4 := by rw [← q_v12]; exact hB 154 (v11.toInt.toNat)
        have f_v12 : v12.toInt = v3.toInt := by rw [← q_v12, ← q_v3, show v11.toInt.toNat = s.toInt.toNat from by omega]
        refine qm_Ru.go 4 (c' := (39, [.ref 118, .int s, .int v8], [.ref 118, .int v8, .ref 118], h)) rfl ?_
        obtain ⟨v13, q_v13⟩ : ∃ v, h.2.1 118 70 = v := ⟨_, rfl⟩
        have b_v13 : (0 : Int) ≤ v13.toInt ∧ v13.toInt ≤ 60 := by rw [← q_v13]; exact hB 118 70
        refine hk_geti (v := v13) rfl (hH.1 118 (17, 105) rfl) rfl q_v13 ?_
        refine qm_Ru.go 0 (c' := (42, [.ref 118, .int s, .int v8], [.int v13, .int v8, .ref 118], h)) rfl ?_
        refine hk_inv (o := 118) (r := []) (as := [.ref 118, .int v8, .int v13]) rfl rfl (hH.1 118 (17, 105) rfl) rfl rfl rfl rfl (hs_rstop (h := h) h6 hH hB (v_R_ru hV) ⟨by show (0 : Int) ≤ v8.toInt; omega, by show v8.toInt ≤ (29 : Int); omega⟩ ⟨by show (0 : Int) ≤ v13.toInt; omega, by show v13.toInt ≤ (60 : Int); omega⟩ (by omega) (fun v16 I14 J15 c_v16 hB_I14 e_I14 => ?_))
        have hV_I14 : v_R I14 := v_R_cg hV e_I14 rfl
        have b_v16 : (0 : Int) ≤ v16.toInt ∧ v16.toInt ≤ 1 := c_v16
        refine qm_Ru.go 0 (c' := (45, [.ref 118, .int s, .int v8], [.int v16], (h.1, I14, J15, h.2.2.2))) rfl ?_
        refine hk_zeq (ix := v16.toInt) rfl rfl (fun z17 => ?_) (fun z17 => ?_)
        · refine qm_Ru.go 2 (c' := (53, [.ref 118, .int s, .int v8], [.int v8, .ref 118], (h.1, I14, J15, h.2.2.2))) rfl ?_
          refine hk_inv (o := 118) (r := []) (as := [.ref 118, .int v8]) rfl rfl (hH.1 118 (17, 105) rfl) rfl rfl rfl rfl (rl_take (h := (h.1, I14, J15, h.2.2.2)) hH hB_I14 hV_I14 (b := v8) (g := v11.toInt.toNat) (hv := v12.toInt) (by omega) (show pI (I14) 150 (v8.toInt.toNat) = 2 from (congrArg Int32.toInt (show (I14) 150 (v8.toInt.toNat) = _ from ((e_I14 150 rfl (v8.toInt.toNat)).trans q_v9))).trans (by omega)) (show pI (I14) 151 (v8.toInt.toNat) = 4 * ((v11.toInt.toNat : Nat) : Int) + (v12.toInt - 1) from (congrArg Int32.toInt (show (I14) 151 (v8.toInt.toNat) = _ from ((e_I14 151 rfl (v8.toInt.toNat)).trans q_v10))).trans (by omega)) (congrArg Int32.toInt (show (I14) 154 (v11.toInt.toNat) = _ from ((e_I14 154 rfl (v11.toInt.toNat)).trans q_v12))) (by omega) (by omega) (by omega) (fun I18 hB_I18 hV_I18 e_I18 p0_I18 pn_I18 p4_I18 => ?_))
          obtain ⟨v19, q_v19⟩ : ∃ v, I18 154 (v11.toInt.toNat) = v := ⟨_, rfl⟩
          have f_v19 : v19.toInt = v12.toInt - 1 := by rw [← q_v19]; exact p4_I18
          obtain ⟨v20, q_v20⟩ : ∃ v, I18 150 (v8.toInt.toNat) = v := ⟨_, rfl⟩
          have f_v20 : v20.toInt = 0 := by rw [← q_v20]; exact p0_I18
          refine qm_Ru.go 1 (c' := (57, [.ref 118, .int s, .int v8], [.int v8], (h.1, I18, J15, h.2.2.2))) rfl ?_
          refine qm_Ru.rt (v := (some (.int v8))) (h' := (h.1, I18, J15, h.2.2.2)) rfl ?_
          exact k (some (.int v8)) (I18) (J15) ⟨_, rfl, ⟨by show (-2 : Int) ≤ v8.toInt; omega, by show v8.toInt ≤ (29 : Int); omega⟩⟩ hB_I18 hV_I18 (fun o ho i => ((e_I18 o (hk_ms rfl ho) i).trans ((e_I14 o (hk_ms rfl ho) i).trans rfl)))
        · refine qm_Ru.go 1 (c' := (50, [.ref 118, .int s, .int v8], [.int (-2)], (h.1, I14, J15, h.2.2.2))) rfl ?_
          refine qm_Ru.rt (v := (some (.int (-2)))) (h' := (h.1, I14, J15, h.2.2.2)) rfl ?_
          exact k (some (.int (-2))) (I14) (J15) ⟨_, rfl, ⟨by decide, by decide⟩⟩ hB_I14 hV_I14 (fun o ho i => ((e_I14 o (hk_ms rfl ho) i).trans rfl))
      · refine qm_Ru.go 1 (c' := (17, [.ref 118, .int s, .float 0], [.int (-1)], h)) rfl ?_
        refine qm_Ru.rt (v := (some (.int (-1)))) (h' := h) rfl ?_
        exact k (some (.int (-1))) (h.2.1) (h.2.2.1) ⟨_, rfl, ⟨by decide, by decide⟩⟩ hB hV (fun o ho i => rfl)
