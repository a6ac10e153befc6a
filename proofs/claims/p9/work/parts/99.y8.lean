/-! contracts of the reference by hand -/
theorem hl_best {L : Nat} {xs : Nat → Int32} {d : Nat} {Z : Option Value → qm_H → Prop} {h : qm_H} (h6 : 6 ≤ L) (hH : hk_H h) (hB : hk_B h.2.1) (hP : s_P h.2.1) {b had : Int32} (k : ∀ (v : Int32) (I : Nat → Nat → Int32) (J : Nat → Nat → Int64), hk_B I → v_Q I → (∀ o, [118, 144, 145, 146, 147, 148, 149, 150, 151, 152, 153, 154, 155, 156].contains o = false → ∀ i, I o i = h.2.1 o i) → Z (some (.int v)) (h.1, I, J, h.2.2.2)) : ∀ (m : Nat) (I : Nat → Nat → Int32) (J : Nat → Nat → Int64) (be : Int32) (ru : Int32) (ov : Int32) (q : Int32) (l7 l8 : Value), hk_B I → (∀ o, [118, 144, 145, 146, 147, 148, 149, 150, 151, 152, 153, 154, 155, 156].contains o = false → ∀ i, I o i = h.2.1 o i) → (∀ i, i ≠ 57 → I 118 i = h.2.1 118 i) → (v_R I) → ((0 : Int) ≤ q.toInt ∧ q.toInt ≤ 20) → (20 - q.toInt).toNat = m → qm_Ru (some (L, xs)) (d + 100) cd_377 (27, [.ref 118, .int b, .int had, .int be, .int ru, .int ov, .int q, l7, l8], [], (h.1, I, J, h.2.2.2)) Z := by
  intro m
  induction m using Nat.strongRecOn with
  | ind m ih =>
    intro I J be ru ov q l7 l8 hBI e e8 hVI hq hm
    refine qm_Ru.go 3 (c' := (31, [.ref 118, .int b, .int had, .int be, .int ru, .int ov, .int q, l7, l8], [.ref 118, .int 4, .int q], (h.1, I, J, h.2.2.2))) rfl ?_
    refine hk_getr rfl (hH.1 118 (17, 105) rfl) rfl (hH.2 118 22 (some 127) rfl) ?_
    refine qm_Ru.go 1 (c' := (35, [.ref 118, .int b, .int had, .int be, .int ru, .int ov, .int q, l7, l8], [.ref 118, .ref 127, .int 4, .int q], (h.1, I, J, h.2.2.2))) rfl ?_
    obtain ⟨v1, q_v1⟩ : ∃ v, h.2.1 118 18 = v := ⟨_, rfl⟩
    have b_v1 : (0 : Int) ≤ v1.toInt ∧ v1.toInt ≤ 1 := by rw [← q_v1]; exact hB 118 18
    refine hk_geti (v := v1) rfl (hH.1 118 (17, 105) rfl) rfl (show (I) 118 18 = _ from ((e8 18 (by omega)).trans q_v1)) ?_
    refine qm_Ru.go 0 (c' := (38, [.ref 118, .int b, .int had, .int be, .int ru, .int ov, .int q, l7, l8], [.int v1, .ref 127, .int 4, .int q], (h.1, I, J, h.2.2.2))) rfl ?_
    obtain ⟨v2, q_v2⟩ : ∃ v, h.2.1 127 (v1.toInt.toNat) = v := ⟨_, rfl⟩
    have b_v2 : (0 : Int) ≤ v2.toInt ∧ v2.toInt ≤ 5 := by rw [← q_v2]; exact hB 127 (v1.toInt.toNat)
    refine hk_ial (v := v2) rfl (hH.1 127 (0, 2) rfl) (by omega) (by omega) (show (I) 127 (v1.toInt.toNat) = _ from ((e 127 rfl (v1.toInt.toNat)).trans q_v2)) ?_
    refine qm_Ru.go 1 (c' := (40, [.ref 118, .int b, .int had, .int be, .int ru, .int ov, .int q, l7, l8], [.int (4 * v2), .int q], (h.1, I, J, h.2.2.2))) rfl ?_
    obtain ⟨v3, q_v3, e_v3⟩ := hk_mul (x := 4) (y := v2) (a := 4) (b := v2.toInt) rfl rfl (by omega) (by omega)
    rw [q_v3]
    refine hk_cge (ix := q.toInt) (iy := v3.toInt) rfl rfl rfl (fun z4 => ?_) (fun z4 => ?_)
    · refine qm_Ru.go 1 (c' := (138, [.ref 118, .int b, .int had, .int be, .int ru, .int ov, .int q, l7, l8], [.int be], (h.1, I, J, h.2.2.2))) rfl ?_
      refine qm_Ru.rt (v := (some (.int be))) (h' := (h.1, I, J, h.2.2.2)) rfl ?_
      exact k be (I) (J) hBI ⟨hVI, (s_P_cg3 hP ((funext fun i => congrArg Int32.toInt (e 131 rfl i)).trans rfl) ((funext fun i => congrArg Int32.toInt (e 132 rfl i)).trans rfl) ((funext fun i => congrArg Int32.toInt (e 133 rfl i)).trans rfl) ((funext fun i => congrArg Int32.toInt (e 134 rfl i)).trans rfl) ((funext fun i => congrArg Int32.toInt (e 138 rfl i)).trans rfl) ((funext fun i => congrArg Int32.toInt (e 139 rfl i)).trans rfl) ((funext fun i => congrArg Int32.toInt (e 140 rfl i)).trans rfl) ((funext fun i => congrArg Int32.toInt (e 141 rfl i)).trans rfl) ((funext fun i => congrArg Int32.toInt (e 142 rfl i)).trans rfl) ((e8 18 (by decide)).trans rfl))⟩ (fun o ho i => (e o ho i))
    · refine qm_Ru.go 5 (c' := (49, [.ref 118, .int b, .int had, .int be, .int ru, .int ov, .int q, l7, l8], [.int (q / 4), .int b, .ref 118], (h.1, I, J, h.2.2.2))) rfl ?_
      obtain ⟨v5, q_v5, e_v5⟩ := hk_div (x := q) (y := 4) (a := q.toInt) (b := 4) rfl rfl (by omega) (by omega)
      rw [q_v5]
      refine qm_Ru.go 3 (c' := (53, [.ref 118, .int b, .int had, .int be, .int ru, .int ov, .int q, l7, l8], [.int (q - q / 4 * 4), .int v5, .int b, .ref 118], (h.1, I, J, h.2.2.2))) rfl ?_
      obtain ⟨v6, q_v6, e_v6⟩ := hk_rem (x := q) (y := 4) (a := q.toInt) (b := 4) rfl rfl (by omega) (by omega)
      rw [q_v6]
      refine hk_inv (o := 118) (r := []) (as := [.ref 118, .int b, .int v5, .int v6]) rfl rfl (hH.1 118 (17, 105) rfl) rfl rfl rfl rfl (hq_rload (h := (h.1, I, J, h.2.2.2)) h6 hH hBI hVI (b := b) (y := v5) (r := v6) (fun v9 I7 J8 b_v9 hB_I7 hV_I7 e_I7 p_I7 pn_I7 => ?_))
      refine qm_Ru.go 0 (c' := (56, [.ref 118, .int b, .int had, .int be, .int ru, .int ov, .int q, l7, l8], [.int v9], (h.1, I7, J8, h.2.2.2))) rfl ?_
      refine hk_zge (ix := v9.toInt) rfl rfl (fun z10 => ?_) (fun z10 => ?_)
      · refine qm_Ru.go 0 (c' := (62, [.ref 118, .int b, .int had, .int be, .int ru, .int ov, .int q, l7, l8], [], (h.1, I7, J8, h.2.2.2))) rfl ?_
        have p_I7 := p_I7 (by omega)
        obtain ⟨v11, q_v11⟩ : ∃ v, I7 150 (b.toInt.toNat) = v := ⟨_, rfl⟩
        have f_v11 : v11.toInt = 1 := by rw [← q_v11]; exact p_I7.1
        refine qm_Ru.go 1 (c' := (63, [.ref 118, .int b, .int had, .int be, .int ru, .int ov, .int q, l7, l8], [.ref 118], (h.1, I7, J8, h.2.2.2))) rfl ?_
        refine hk_inv (o := 118) (r := []) (as := [.ref 118]) rfl rfl (hH.1 118 (17, 105) rfl) rfl rfl rfl rfl (hs_broken (h := (h.1, I7, J8, h.2.2.2)) h6 hH hB_I7 (show s_P (I7) from (s_P_cg3 hP ((funext fun i => congrArg Int32.toInt (e_I7 131 rfl i)).trans ((funext fun i => congrArg Int32.toInt (e 131 rfl i)).trans rfl)) ((funext fun i => congrArg Int32.toInt (e_I7 132 rfl i)).trans ((funext fun i => congrArg Int32.toInt (e 132 rfl i)).trans rfl)) ((funext fun i => congrArg Int32.toInt (e_I7 133 rfl i)).trans ((funext fun i => congrArg Int32.toInt (e 133 rfl i)).trans rfl)) ((funext fun i => congrArg Int32.toInt (e_I7 134 rfl i)).trans ((funext fun i => congrArg Int32.toInt (e 134 rfl i)).trans rfl)) ((funext fun i => congrArg Int32.toInt (e_I7 138 rfl i)).trans ((funext fun i => congrArg Int32.toInt (e 138 rfl i)).trans rfl)) ((funext fun i => congrArg Int32.toInt (e_I7 139 rfl i)).trans ((funext fun i => congrArg Int32.toInt (e 139 rfl i)).trans rfl)) ((funext fun i => congrArg Int32.toInt (e_I7 140 rfl i)).trans ((funext fun i => congrArg Int32.toInt (e 140 rfl i)).trans rfl)) ((funext fun i => congrArg Int32.toInt (e_I7 141 rfl i)).trans ((funext fun i => congrArg Int32.toInt (e 141 rfl i)).trans rfl)) ((funext fun i => congrArg Int32.toInt (e_I7 142 rfl i)).trans ((funext fun i => congrArg Int32.toInt (e 142 rfl i)).trans rfl)) ((e_I7 118 rfl 18).trans ((e8 18 (by decide)).trans rfl)))) (fun v14 I12 J13 hB_I12 e_I12 e8_I12 => ?_))
        have hV_I12 : v_R I12 := v_R_cg2 hV_I7 (q_same e_I12 rfl) (e8_I12 44 (by decide))
        refine qm_Ru.go 2 (c' := (68, [.ref 118, .int b, .int had, .int be, .int ru, .int ov, .int q, l7, l8], [.int (v14 - had)], (h.1, I12, J13, h.2.2.2))) rfl ?_
        obtain ⟨v15, q_v15⟩ : ∃ v, (v14 - had) = v := ⟨_, rfl⟩
        rw [q_v15]
        refine qm_Ru.go 3 (c' := (72, [.ref 118, .int b, .int had, .int be, .int ru, .int ov, .int q, .int v15, l8], [.int (-1), .ref 118], (h.1, I12, J13, h.2.2.2))) rfl ?_
        refine hk_inv (o := 118) (r := []) (as := [.ref 118, .int (-1)]) rfl rfl (hH.1 118 (17, 105) rfl) rfl rfl rfl rfl (hs_rover (h := (h.1, I12, J13, h.2.2.2)) h6 hH hB_I12 (v_R_ru hV_I12) ⟨by decide, by decide⟩ (by omega) (fun v18 I16 J17 c_v18 hB_I16 e_I16 => ?_))
        have hV_I16 : v_R I16 := v_R_cg hV_I12 e_I16 rfl
        have b_v18 : (-2147483648 : Int) ≤ v18.toInt ∧ v18.toInt ≤ 2147483647 := c_v18
        refine qm_Ru.go 3 (c' := (79, [.ref 118, .int b, .int had, .int be, .int ru, .int ov, .int q, .int v15, .int v18], [.int b, .ref 118], (h.1, I16, J17, h.2.2.2))) rfl ?_
        refine hk_inv (o := 118) (r := []) (as := [.ref 118, .int b]) rfl rfl (hH.1 118 (17, 105) rfl) rfl rfl rfl rfl (rl_away (h := (h.1, I16, J17, h.2.2.2)) hH hB_I16 hV_I16 (b := b) (by omega) (show pI (I16) 150 (b.toInt.toNat) = 1 from (congrArg Int32.toInt (show (I16) 150 (b.toInt.toNat) = _ from ((e_I16 150 rfl (b.toInt.toNat)).trans ((e_I12 150 rfl (b.toInt.toNat)).trans q_v11)))).trans (by omega)) (fun I19 hB_I19 hV_I19 e_I19 p0_I19 pn_I19 => ?_))
        obtain ⟨v20, q_v20⟩ : ∃ v, I19 150 (b.toInt.toNat) = v := ⟨_, rfl⟩
        have f_v20 : v20.toInt = 0 := by rw [← q_v20]; exact p0_I19
        refine qm_Ru.go 1 (c' := (83, [.ref 118, .int b, .int had, .int be, .int ru, .int ov, .int q, .int v15, .int v18], [.int be], (h.1, I19, J17, h.2.2.2))) rfl ?_
        refine hk_zlt (ix := be.toInt) rfl rfl (fun z21 => ?_) (fun z21 => ?_)
        · refine qm_Ru.go 4 (c' := (116, [.ref 118, .int b, .int had, .int be, .int ru, .int ov, .int q, .int v15, .int v18], [.int (q / 4), .int 10], (h.1, I19, J17, h.2.2.2))) rfl ?_
          rw [q_v5]
          refine qm_Ru.go 1 (c' := (117, [.ref 118, .int b, .int had, .int be, .int ru, .int ov, .int q, .int v15, .int v18], [.int (10 * v5)], (h.1, I19, J17, h.2.2.2))) rfl ?_
          obtain ⟨v23, q_v23, e_v23⟩ := hk_mul (x := 10) (y := v5) (a := 10) (b := v5.toInt) rfl rfl (by omega) (by omega)
          rw [q_v23]
          refine qm_Ru.go 3 (c' := (121, [.ref 118, .int b, .int had, .int be, .int ru, .int ov, .int q, .int v15, .int v18], [.int (q - q / 4 * 4), .int v23], (h.1, I19, J17, h.2.2.2))) rfl ?_
          rw [q_v6]
          refine qm_Ru.go 1 (c' := (122, [.ref 118, .int b, .int had, .int be, .int ru, .int ov, .int q, .int v15, .int v18], [.int (v23 + v6)], (h.1, I19, J17, h.2.2.2))) rfl ?_
          obtain ⟨v25, q_v25, e_v25⟩ := hk_add (x := v23) (y := v6) (a := v23.toInt) (b := v6.toInt) rfl rfl (by omega) (by omega)
          rw [q_v25]
          refine qm_Ru.go 6 (c' := (134, [.ref 118, .int b, .int had, .int v25, .int v15, .int v18, .int (q + 1), .int v15, .int v18], [], (h.1, I19, J17, h.2.2.2))) rfl ?_
          obtain ⟨v26, q_v26, e_v26⟩ := hk_add (x := q) (y := 1) (a := q.toInt) (b := 1) rfl rfl (by omega) (by omega)
          rw [q_v26]
          refine qm_Ru.go 1 (c' := (27, [.ref 118, .int b, .int had, .int v25, .int v15, .int v18, .int v26, .int v15, .int v18], [], (h.1, I19, J17, h.2.2.2))) rfl ?_
          exact ih _ (by omega) (I19) (J17) v25 v15 v18 v26 (.int v15) (.int v18) hB_I19 (fun o ho i => ((e_I19 o (hk_ms rfl ho) i).trans ((e_I16 o (hk_ms rfl ho) i).trans ((e_I12 o (hk_ms rfl ho) i).trans ((e_I7 o (hk_ms rfl ho) i).trans (e o ho i)))))) (fun i hi => ((e_I19 118 rfl i).trans ((e_I16 118 rfl i).trans ((e8_I12 i hi).trans ((e_I7 118 rfl i).trans (e8 i hi)))))) hV_I19 (by omega) rfl
        · refine qm_Ru.go 2 (c' := (90, [.ref 118, .int b, .int had, .int be, .int ru, .int ov, .int q, .int v15, .int v18], [.int ru, .int v15], (h.1, I19, J17, h.2.2.2))) rfl ?_
          refine hk_cgt (ix := v15.toInt) (iy := ru.toInt) rfl rfl rfl (fun z27 => ?_) (fun z27 => ?_)
          · refine qm_Ru.go 1 (c' := (134, [.ref 118, .int b, .int had, .int be, .int ru, .int ov, .int (q + 1), .int v15, .int v18], [], (h.1, I19, J17, h.2.2.2))) rfl ?_
            obtain ⟨v28, q_v28, e_v28⟩ := hk_add (x := q) (y := 1) (a := q.toInt) (b := 1) rfl rfl (by omega) (by omega)
            rw [q_v28]
            refine qm_Ru.go 1 (c' := (27, [.ref 118, .int b, .int had, .int be, .int ru, .int ov, .int v28, .int v15, .int v18], [], (h.1, I19, J17, h.2.2.2))) rfl ?_
            exact ih _ (by omega) (I19) (J17) be ru ov v28 (.int v15) (.int v18) hB_I19 (fun o ho i => ((e_I19 o (hk_ms rfl ho) i).trans ((e_I16 o (hk_ms rfl ho) i).trans ((e_I12 o (hk_ms rfl ho) i).trans ((e_I7 o (hk_ms rfl ho) i).trans (e o ho i)))))) (fun i hi => ((e_I19 118 rfl i).trans ((e_I16 118 rfl i).trans ((e8_I12 i hi).trans ((e_I7 118 rfl i).trans (e8 i hi)))))) hV_I19 (by omega) rfl
          · refine qm_Ru.go 2 (c' := (97, [.ref 118, .int b, .int had, .int be, .int ru, .int ov, .int q, .int v15, .int v18], [.int ru, .int v15], (h.1, I19, J17, h.2.2.2))) rfl ?_
            refine hk_cne (ix := v15.toInt) (iy := ru.toInt) rfl rfl rfl (fun z29 => ?_) (fun z29 => ?_)
            · refine qm_Ru.go 4 (c' := (116, [.ref 118, .int b, .int had, .int be, .int ru, .int ov, .int q, .int v15, .int v18], [.int (q / 4), .int 10], (h.1, I19, J17, h.2.2.2))) rfl ?_
              rw [q_v5]
              refine qm_Ru.go 1 (c' := (117, [.ref 118, .int b, .int had, .int be, .int ru, .int ov, .int q, .int v15, .int v18], [.int (10 * v5)], (h.1, I19, J17, h.2.2.2))) rfl ?_
              obtain ⟨v31, q_v31, e_v31⟩ := hk_mul (x := 10) (y := v5) (a := 10) (b := v5.toInt) rfl rfl (by omega) (by omega)
              rw [q_v31]
              refine qm_Ru.go 3 (c' := (121, [.ref 118, .int b, .int had, .int be, .int ru, .int ov, .int q, .int v15, .int v18], [.int (q - q / 4 * 4), .int v31], (h.1, I19, J17, h.2.2.2))) rfl ?_
              rw [q_v6]
              refine qm_Ru.go 1 (c' := (122, [.ref 118, .int b, .int had, .int be, .int ru, .int ov, .int q, .int v15, .int v18], [.int (v31 + v6)], (h.1, I19, J17, h.2.2.2))) rfl ?_
              obtain ⟨v33, q_v33, e_v33⟩ := hk_add (x := v31) (y := v6) (a := v31.toInt) (b := v6.toInt) rfl rfl (by omega) (by omega)
              rw [q_v33]
              refine qm_Ru.go 6 (c' := (134, [.ref 118, .int b, .int had, .int v33, .int v15, .int v18, .int (q + 1), .int v15, .int v18], [], (h.1, I19, J17, h.2.2.2))) rfl ?_
              obtain ⟨v34, q_v34, e_v34⟩ := hk_add (x := q) (y := 1) (a := q.toInt) (b := 1) rfl rfl (by omega) (by omega)
              rw [q_v34]
              refine qm_Ru.go 1 (c' := (27, [.ref 118, .int b, .int had, .int v33, .int v15, .int v18, .int v34, .int v15, .int v18], [], (h.1, I19, J17, h.2.2.2))) rfl ?_
              exact ih _ (by omega) (I19) (J17) v33 v15 v18 v34 (.int v15) (.int v18) hB_I19 (fun o ho i => ((e_I19 o (hk_ms rfl ho) i).trans ((e_I16 o (hk_ms rfl ho) i).trans ((e_I12 o (hk_ms rfl ho) i).trans ((e_I7 o (hk_ms rfl ho) i).trans (e o ho i)))))) (fun i hi => ((e_I19 118 rfl i).trans ((e_I16 118 rfl i).trans ((e8_I12 i hi).trans ((e_I7 118 rfl i).trans (e8 i hi)))))) hV_I19 (by omega) rfl
            · refine qm_Ru.go 2 (c' := (104, [.ref 118, .int b, .int had, .int be, .int ru, .int ov, .int q, .int v15, .int v18], [.int ov, .int v18], (h.1, I19, J17, h.2.2.2))) rfl ?_
              refine hk_clt (ix := v18.toInt) (iy := ov.toInt) rfl rfl rfl (fun z35 => ?_) (fun z35 => ?_)
              · refine qm_Ru.go 4 (c' := (116, [.ref 118, .int b, .int had, .int be, .int ru, .int ov, .int q, .int v15, .int v18], [.int (q / 4), .int 10], (h.1, I19, J17, h.2.2.2))) rfl ?_
                rw [q_v5]
                refine qm_Ru.go 1 (c' := (117, [.ref 118, .int b, .int had, .int be, .int ru, .int ov, .int q, .int v15, .int v18], [.int (10 * v5)], (h.1, I19, J17, h.2.2.2))) rfl ?_
                obtain ⟨v37, q_v37, e_v37⟩ := hk_mul (x := 10) (y := v5) (a := 10) (b := v5.toInt) rfl rfl (by omega) (by omega)
                rw [q_v37]
                refine qm_Ru.go 3 (c' := (121, [.ref 118, .int b, .int had, .int be, .int ru, .int ov, .int q, .int v15, .int v18], [.int (q - q / 4 * 4), .int v37], (h.1, I19, J17, h.2.2.2))) rfl ?_
                rw [q_v6]
                refine qm_Ru.go 1 (c' := (122, [.ref 118, .int b, .int had, .int be, .int ru, .int ov, .int q, .int v15, .int v18], [.int (v37 + v6)], (h.1, I19, J17, h.2.2.2))) rfl ?_
                obtain ⟨v39, q_v39, e_v39⟩ := hk_add (x := v37) (y := v6) (a := v37.toInt) (b := v6.toInt) rfl rfl (by omega) (by omega)
                rw [q_v39]
                refine qm_Ru.go 6 (c' := (134, [.ref 118, .int b, .int had, .int v39, .int v15, .int v18, .int (q + 1), .int v15, .int v18], [], (h.1, I19, J17, h.2.2.2))) rfl ?_
                obtain ⟨v40, q_v40, e_v40⟩ := hk_add (x := q) (y := 1) (a := q.toInt) (b := 1) rfl rfl (by omega) (by omega)
                rw [q_v40]
                refine qm_Ru.go 1 (c' := (27, [.ref 118, .int b, .int had, .int v39, .int v15, .int v18, .int v40, .int v15, .int v18], [], (h.1, I19, J17, h.2.2.2))) rfl ?_
                exact ih _ (by omega) (I19) (J17) v39 v15 v18 v40 (.int v15) (.int v18) hB_I19 (fun o ho i => ((e_I19 o (hk_ms rfl ho) i).trans ((e_I16 o (hk_ms rfl ho) i).trans ((e_I12 o (hk_ms rfl ho) i).trans ((e_I7 o (hk_ms rfl ho) i).trans (e o ho i)))))) (fun i hi => ((e_I19 118 rfl i).trans ((e_I16 118 rfl i).trans ((e8_I12 i hi).trans ((e_I7 118 rfl i).trans (e8 i hi)))))) hV_I19 (by omega) rfl
              · refine qm_Ru.go 2 (c' := (134, [.ref 118, .int b, .int had, .int be, .int ru, .int ov, .int (q + 1), .int v15, .int v18], [], (h.1, I19, J17, h.2.2.2))) rfl ?_
                obtain ⟨v41, q_v41, e_v41⟩ := hk_add (x := q) (y := 1) (a := q.toInt) (b := 1) rfl rfl (by omega) (by omega)
                rw [q_v41]
                refine qm_Ru.go 1 (c' := (27, [.ref 118, .int b, .int had, .int be, .int ru, .int ov, .int v41, .int v15, .int v18], [], (h.1, I19, J17, h.2.2.2))) rfl ?_
                exact ih _ (by omega) (I19) (J17) be ru ov v41 (.int v15) (.int v18) hB_I19 (fun o ho i => ((e_I19 o (hk_ms rfl ho) i).trans ((e_I16 o (hk_ms rfl ho) i).trans ((e_I12 o (hk_ms rfl ho) i).trans ((e_I7 o (hk_ms rfl ho) i).trans (e o ho i)))))) (fun i hi => ((e_I19 118 rfl i).trans ((e_I16 118 rfl i).trans ((e8_I12 i hi).trans ((e_I7 118 rfl i).trans (e8 i hi)))))) hV_I19 (by omega) rfl
      · refine qm_Ru.go 2 (c' := (134, [.ref 118, .int b, .int had, .int be, .int ru, .int ov, .int (q + 1), l7, l8], [], (h.1, I7, J8, h.2.2.2))) rfl ?_
        obtain ⟨v42, q_v42, e_v42⟩ := hk_add (x := q) (y := 1) (a := q.toInt) (b := 1) rfl rfl (by omega) (by omega)
        rw [q_v42]
        refine qm_Ru.go 1 (c' := (27, [.ref 118, .int b, .int had, .int be, .int ru, .int ov, .int v42, l7, l8], [], (h.1, I7, J8, h.2.2.2))) rfl ?_
        exact ih _ (by omega) (I7) (J8) be ru ov v42 l7 l8 hB_I7 (fun o ho i => ((e_I7 o (hk_ms rfl ho) i).trans (e o ho i))) (fun i hi => ((e_I7 118 rfl i).trans (e8 i hi))) hV_I7 (by omega) rfl
theorem hw_best {L : Nat} {xs : Nat → Int32} {d : Nat} {Z : Option Value → qm_H → Prop} {h : qm_H} (h6 : 6 ≤ L) (hH : hk_H h) (hB : hk_B h.2.1) (hV : v_R h.2.1) (hP : s_P h.2.1) {b : Int32} (k : ∀ (v : Int32) (I : Nat → Nat → Int32) (J : Nat → Nat → Int64), hk_B I → v_Q I → (∀ o, [118, 144, 145, 146, 147, 148, 149, 150, 151, 152, 153, 154, 155, 156].contains o = false → ∀ i, I o i = h.2.1 o i) → Z (some (.int v)) (h.1, I, J, h.2.2.2)) : qm_Ru (some (L, xs)) (d + 100) cd_377 (qm_ent 9 [.ref 118, .int b] h) Z := by
  refine qm_Ru.go 2 (c' := (2, [.ref 118, .int b, .float 0, .float 0, .float 0, .float 0, .float 0, .float 0, .float 0], [.int b, .ref 118], h)) rfl ?_
  refine hk_inv (o := 118) (r := []) (as := [.ref 118, .int b]) rfl rfl (hH.1 118 (17, 105) rfl) rfl rfl rfl rfl ?_
  refine qm_Ru.go 2 (c' := (2, [.ref 118, .int b], [.int b, .ref 118], h)) rfl ?_
  refine hk_inv (o := 118) (r := []) (as := [.ref 118, .int b]) rfl rfl (hH.1 118 (17, 105) rfl) rfl rfl rfl rfl ?_
  refine qm_Ru.go 3 (c' := (3, [.ref 118, .int b], [.ref 118, .int 0, .int b], h)) rfl ?_
  obtain ⟨v1, q_v1⟩ : ∃ v, h.2.1 118 44 = v := ⟨_, rfl⟩
  have b_v1 : (0 : Int) ≤ v1.toInt ∧ v1.toInt ≤ 30 := by rw [← q_v1]; exact hB 118 44
  refine hk_geti (v := v1) rfl (hH.1 118 (17, 105) rfl) rfl q_v1 ?_
  refine qm_Ru.go 2 (c' := (8, [.ref 118, .int b], [.int (v1 - 1), .int 0, .int b], h)) rfl ?_
  obtain ⟨v2, q_v2, e_v2⟩ := hk_sub (x := v1) (y := 1) (a := v1.toInt) (b := 1) rfl rfl (by omega) (by omega)
  rw [q_v2]
  refine qm_Ru.call (j := 270) (as := [.int b, .int 0, .int v2]) (c' := (11, [.ref 118, .int b], [], h)) rfl rfl rfl ?_
  refine qm_Ru.go 2 (c' := (2, [.int b, .int 0, .int v2], [.int 0, .int b], h)) rfl ?_
  refine hk_clt (ix := b.toInt) (iy := 0) rfl rfl rfl (fun z3 => ?_) (fun z3 => ?_)
  · refine qm_Ru.go 1 (c' := (15, [.int b, .int 0, .int v2], [.int 0], h)) rfl ?_
    refine qm_Ru.rt (v := (some (.int 0))) (h' := h) rfl ?_
    refine qm_Ru.go 0 (c' := (11, [.ref 118, .int b], [.int 0], h)) rfl ?_
    refine qm_Ru.rt (v := (some (.int 0))) (h' := h) rfl ?_
    refine qm_Ru.go 2 (c' := (22, [.ref 118, .int b], [.int 0], h)) rfl ?_
    refine qm_Ru.rt (v := (some (.int 0))) (h' := h) rfl ?_
    refine qm_Ru.go 2 (c' := (9, [.ref 118, .int b, .float 0, .float 0, .float 0, .float 0, .float 0, .float 0, .float 0], [.int (-1)], h)) rfl ?_
    refine qm_Ru.rt (v := (some (.int (-1)))) (h' := h) rfl ?_
    exact k (-1) (h.2.1) (h.2.2.1) hB ⟨hV, (s_P_cg3 hP rfl rfl rfl rfl rfl rfl rfl rfl rfl rfl)⟩ (fun o ho i => rfl)
  · refine qm_Ru.go 2 (c' := (7, [.int b, .int 0, .int v2], [.int v2, .int b], h)) rfl ?_
    refine hk_cgt (ix := b.toInt) (iy := v2.toInt) rfl rfl rfl (fun z4 => ?_) (fun z4 => ?_)
    · refine qm_Ru.go 1 (c' := (15, [.int b, .int 0, .int v2], [.int 0], h)) rfl ?_
      refine qm_Ru.rt (v := (some (.int 0))) (h' := h) rfl ?_
      refine qm_Ru.go 0 (c' := (11, [.ref 118, .int b], [.int 0], h)) rfl ?_
      refine qm_Ru.rt (v := (some (.int 0))) (h' := h) rfl ?_
      refine qm_Ru.go 2 (c' := (22, [.ref 118, .int b], [.int 0], h)) rfl ?_
      refine qm_Ru.rt (v := (some (.int 0))) (h' := h) rfl ?_
      refine qm_Ru.go 2 (c' := (9, [.ref 118, .int b, .float 0, .float 0, .float 0, .float 0, .float 0, .float 0, .float 0], [.int (-1)], h)) rfl ?_
      refine qm_Ru.rt (v := (some (.int (-1)))) (h' := h) rfl ?_
      exact k (-1) (h.2.1) (h.2.2.1) hB ⟨hV, (s_P_cg3 hP rfl rfl rfl rfl rfl rfl rfl rfl rfl rfl)⟩ (fun o ho i => rfl)
    · refine qm_Ru.go 2 (c' := (15, [.int b, .int 0, .int v2], [.int 1], h)) rfl ?_
      refine qm_Ru.rt (v := (some (.int 1))) (h' := h) rfl ?_
      refine qm_Ru.go 0 (c' := (11, [.ref 118, .int b], [.int 1], h)) rfl ?_
      refine qm_Ru.rt (v := (some (.int 1))) (h' := h) rfl ?_
      refine qm_Ru.go 2 (c' := (9, [.ref 118, .int b], [.ref 118], h)) rfl ?_
      refine hk_getr rfl (hH.1 118 (17, 105) rfl) rfl (hH.2 118 49 (some 150) rfl) ?_
      refine qm_Ru.go 1 (c' := (13, [.ref 118, .int b], [.int b, .ref 150], h)) rfl ?_
      obtain ⟨v5, q_v5⟩ : ∃ v, h.2.1 150 (b.toInt.toNat) = v := ⟨_, rfl⟩
      have b_v5 : (0 : Int) ≤ v5.toInt ∧ v5.toInt ≤ 2 := by rw [← q_v5]; exact hB 150 (b.toInt.toNat)
      refine hk_ial (v := v5) rfl (hH.1 150 (0, 30) rfl) (by omega) (by omega) q_v5 ?_
      refine qm_Ru.go 0 (c' := (14, [.ref 118, .int b], [.int v5], h)) rfl ?_
      refine hk_zne (ix := v5.toInt) rfl rfl (fun z6 => ?_) (fun z6 => ?_)
      · refine qm_Ru.go 1 (c' := (22, [.ref 118, .int b], [.int 0], h)) rfl ?_
        refine qm_Ru.rt (v := (some (.int 0))) (h' := h) rfl ?_
        refine qm_Ru.go 2 (c' := (9, [.ref 118, .int b, .float 0, .float 0, .float 0, .float 0, .float 0, .float 0, .float 0], [.int (-1)], h)) rfl ?_
        refine qm_Ru.rt (v := (some (.int (-1)))) (h' := h) rfl ?_
        exact k (-1) (h.2.1) (h.2.2.1) hB ⟨hV, (s_P_cg3 hP rfl rfl rfl rfl rfl rfl rfl rfl rfl rfl)⟩ (fun o ho i => rfl)
      · refine qm_Ru.go 2 (c' := (22, [.ref 118, .int b], [.int 1], h)) rfl ?_
        refine qm_Ru.rt (v := (some (.int 1))) (h' := h) rfl ?_
        refine qm_Ru.go 2 (c' := (11, [.ref 118, .int b, .float 0, .float 0, .float 0, .float 0, .float 0, .float 0, .float 0], [.ref 118], h)) rfl ?_
        refine hk_inv (o := 118) (r := []) (as := [.ref 118]) rfl rfl (hH.1 118 (17, 105) rfl) rfl rfl rfl rfl (hs_broken (h := h) h6 hH hB (show s_P (h.2.1) from (s_P_cg3 hP rfl rfl rfl rfl rfl rfl rfl rfl rfl rfl)) (fun v9 I7 J8 hB_I7 e_I7 e8_I7 => ?_))
        have hV_I7 : v_R I7 := v_R_cg2 hV (q_same e_I7 rfl) (e8_I7 44 (by decide))
        refine qm_Ru.go 9 (c' := (27, [.ref 118, .int b, .int v9, .int (-2), .int 0, .int 0, .int 0, .float 0, .float 0], [], (h.1, I7, J8, h.2.2.2))) rfl ?_
        exact hl_best h6 hH hB hP k _ (I7) (J8) (-2) 0 0 0 _ _ hB_I7 (fun o ho i => ((e_I7 o (hk_ms rfl ho) i).trans rfl)) (fun i hi => ((e8_I7 i hi).trans rfl)) hV_I7 (by decide) rfl
theorem hc_rbest : hk_ct v_Q (fun _ => True) (fun as I => ∃ b : Int32, as = [.ref 118, .int b]) 377 (some (-2147483648, 2147483647)) [118, 144, 145, 146, 147, 148, 149, 150, 151, 152, 153, 154, 155, 156] 100 := by
  intro L xs d Z h as h6 hH hT hB hV hp hd k
  obtain ⟨b, rfl⟩ := hp
  obtain ⟨d, rfl⟩ : ∃ e, d = e + 100 := ⟨d - 100, by omega⟩
  exact hw_best h6 hH hB hV.1 hV.2 (fun v I J hB2 hV2 e => k (some (.int v)) I J ⟨_, rfl, qa_in_full _⟩ hB2 hV2 e)
