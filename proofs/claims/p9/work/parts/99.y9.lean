/-! contracts of the reference by hand -/
theorem hl_two1 {L : Nat} {xs : Nat → Int32} {d : Nat} {Z : Option Value → qm_H → Prop} {h : qm_H} (h6 : 6 ≤ L) (hH : hk_H h) (hB : hk_B h.2.1) (hP : s_P h.2.1) {b o had : Int32} (hbo : b.toInt ≠ o.toInt) {q : Int32} (b_b : (0 : Int) ≤ b.toInt ∧ b.toInt ≤ 29) (b_o : (0 : Int) ≤ o.toInt ∧ o.toInt ≤ 29) (hq : (0 : Int) ≤ q.toInt ∧ q.toInt ≤ 19) (ko : ∀ (I : Nat → Nat → Int32) (J : Nat → Nat → Int64) (be le q2 w : Int32) (l8 : Value), hk_B I → v_R I → (∀ o, [118, 144, 145, 146, 147, 148, 149, 150, 151, 152, 153, 154, 155, 156].contains o = false → ∀ i, I o i = h.2.1 o i) → (∀ i, i ≠ 57 → I 118 i = h.2.1 118 i) → q2.toInt = q.toInt + 1 → qm_Ru (some (L, xs)) (d + 100) cd_379 (38, [.ref 118, .int b, .int o, .int had, .int be, .int le, .int q2, .int w, l8], [], (h.1, I, J, h.2.2.2)) Z) : ∀ (m : Nat) (I : Nat → Nat → Int32) (J : Nat → Nat → Int64) (be : Int32) (le : Int32) (w : Int32) (l8 : Value), hk_B I → (∀ o, [118, 144, 145, 146, 147, 148, 149, 150, 151, 152, 153, 154, 155, 156].contains o = false → ∀ i, I o i = h.2.1 o i) → (∀ i, i ≠ 57 → I 118 i = h.2.1 118 i) → (v_R I) → ((I 150 (b.toInt.toNat)).toInt = 1) → ((0 : Int) ≤ w.toInt ∧ w.toInt ≤ 20) → (20 - w.toInt).toNat = m → qm_Ru (some (L, xs)) (d + 100) cd_379 (76, [.ref 118, .int b, .int o, .int had, .int be, .int le, .int q, .int w, l8], [], (h.1, I, J, h.2.2.2)) Z := by
  intro m
  induction m using Nat.strongRecOn with
  | ind m ih =>
    intro I J be le w l8 hBI e e8 hVI h1 hw hm
    refine qm_Ru.go 1 (c' := (78, [.ref 118, .int b, .int o, .int had, .int be, .int le, .int q, .int w, l8], [.int w], (h.1, I, J, h.2.2.2))) rfl ?_
    obtain ⟨v1, q_v1⟩ : ∃ v, I 150 (b.toInt.toNat) = v := ⟨_, rfl⟩
    have f_v1 : v1.toInt = 1 := by rw [← q_v1]; exact h1
    refine qm_Ru.go 2 (c' := (80, [.ref 118, .int b, .int o, .int had, .int be, .int le, .int q, .int w, l8], [.ref 118, .int 4, .int w], (h.1, I, J, h.2.2.2))) rfl ?_
    refine hk_getr rfl (hH.1 118 (17, 105) rfl) rfl (hH.2 118 22 (some 127) rfl) ?_
    refine qm_Ru.go 1 (c' := (84, [.ref 118, .int b, .int o, .int had, .int be, .int le, .int q, .int w, l8], [.ref 118, .ref 127, .int 4, .int w], (h.1, I, J, h.2.2.2))) rfl ?_
    obtain ⟨v2, q_v2⟩ : ∃ v, h.2.1 118 18 = v := ⟨_, rfl⟩
    have b_v2 : (0 : Int) ≤ v2.toInt ∧ v2.toInt ≤ 1 := by rw [← q_v2]; exact hB 118 18
    refine hk_geti (v := v2) rfl (hH.1 118 (17, 105) rfl) rfl (show (I) 118 18 = _ from ((e8 18 (by omega)).trans q_v2)) ?_
    refine qm_Ru.go 0 (c' := (87, [.ref 118, .int b, .int o, .int had, .int be, .int le, .int q, .int w, l8], [.int v2, .ref 127, .int 4, .int w], (h.1, I, J, h.2.2.2))) rfl ?_
    obtain ⟨v3, q_v3⟩ : ∃ v, h.2.1 127 (v2.toInt.toNat) = v := ⟨_, rfl⟩
    have b_v3 : (0 : Int) ≤ v3.toInt ∧ v3.toInt ≤ 5 := by rw [← q_v3]; exact hB 127 (v2.toInt.toNat)
    refine hk_ial (v := v3) rfl (hH.1 127 (0, 2) rfl) (by omega) (by omega) (show (I) 127 (v2.toInt.toNat) = _ from ((e 127 rfl (v2.toInt.toNat)).trans q_v3)) ?_
    refine qm_Ru.go 1 (c' := (89, [.ref 118, .int b, .int o, .int had, .int be, .int le, .int q, .int w, l8], [.int (4 * v3), .int w], (h.1, I, J, h.2.2.2))) rfl ?_
    obtain ⟨v4, q_v4, e_v4⟩ := hk_mul (x := 4) (y := v3) (a := 4) (b := v3.toInt) rfl rfl (by omega) (by omega)
    rw [q_v4]
    refine hk_cge (ix := w.toInt) (iy := v4.toInt) rfl rfl rfl (fun z5 => ?_) (fun z5 => ?_)
    · refine qm_Ru.go 2 (c' := (188, [.ref 118, .int b, .int o, .int had, .int be, .int le, .int q, .int w, l8], [.int b, .ref 118], (h.1, I, J, h.2.2.2))) rfl ?_
      refine hk_inv (o := 118) (r := []) (as := [.ref 118, .int b]) rfl rfl (hH.1 118 (17, 105) rfl) rfl rfl rfl rfl (rl_away (h := (h.1, I, J, h.2.2.2)) hH hBI hVI (b := b) (by omega) (show pI (I) 150 (b.toInt.toNat) = 1 from (congrArg Int32.toInt q_v1).trans (by omega)) (fun I6 hB_I6 hV_I6 e_I6 p0_I6 pn_I6 => ?_))
      obtain ⟨v7, q_v7⟩ : ∃ v, I6 150 (b.toInt.toNat) = v := ⟨_, rfl⟩
      have f_v7 : v7.toInt = 0 := by rw [← q_v7]; exact p0_I6
      refine qm_Ru.go 1 (c' := (194, [.ref 118, .int b, .int o, .int had, .int be, .int le, .int (q + 1), .int w, l8], [], (h.1, I6, J, h.2.2.2))) rfl ?_
      obtain ⟨v8, q_v8, e_v8⟩ := hk_add (x := q) (y := 1) (a := q.toInt) (b := 1) rfl rfl (by omega) (by omega)
      rw [q_v8]
      refine qm_Ru.go 1 (c' := (38, [.ref 118, .int b, .int o, .int had, .int be, .int le, .int v8, .int w, l8], [], (h.1, I6, J, h.2.2.2))) rfl ?_
      exact ko (I6) (J) be le v8 w l8 hB_I6 hV_I6 (fun o ho i => ((e_I6 o (hk_ms rfl ho) i).trans (e o ho i))) (fun i hi => ((e_I6 118 rfl i).trans (e8 i hi))) (by omega)
    · refine qm_Ru.go 5 (c' := (98, [.ref 118, .int b, .int o, .int had, .int be, .int le, .int q, .int w, l8], [.int (w / 4), .int o, .ref 118], (h.1, I, J, h.2.2.2))) rfl ?_
      obtain ⟨v9, q_v9, e_v9⟩ := hk_div (x := w) (y := 4) (a := w.toInt) (b := 4) rfl rfl (by omega) (by omega)
      rw [q_v9]
      refine qm_Ru.go 3 (c' := (102, [.ref 118, .int b, .int o, .int had, .int be, .int le, .int q, .int w, l8], [.int (w - w / 4 * 4), .int v9, .int o, .ref 118], (h.1, I, J, h.2.2.2))) rfl ?_
      obtain ⟨v10, q_v10, e_v10⟩ := hk_rem (x := w) (y := 4) (a := w.toInt) (b := 4) rfl rfl (by omega) (by omega)
      rw [q_v10]
      refine hk_inv (o := 118) (r := []) (as := [.ref 118, .int o, .int v9, .int v10]) rfl rfl (hH.1 118 (17, 105) rfl) rfl rfl rfl rfl (hq_rload (h := (h.1, I, J, h.2.2.2)) h6 hH hBI hVI (b := o) (y := v9) (r := v10) (fun v13 I11 J12 b_v13 hB_I11 hV_I11 e_I11 p_I11 pn_I11 => ?_))
      refine qm_Ru.go 0 (c' := (105, [.ref 118, .int b, .int o, .int had, .int be, .int le, .int q, .int w, l8], [.int v13], (h.1, I11, J12, h.2.2.2))) rfl ?_
      refine hk_zge (ix := v13.toInt) rfl rfl (fun z14 => ?_) (fun z14 => ?_)
      · refine qm_Ru.go 0 (c' := (111, [.ref 118, .int b, .int o, .int had, .int be, .int le, .int q, .int w, l8], [], (h.1, I11, J12, h.2.2.2))) rfl ?_
        have p_I11 := p_I11 (by omega)
        obtain ⟨v15, q_v15⟩ : ∃ v, I11 150 (o.toInt.toNat) = v := ⟨_, rfl⟩
        have f_v15 : v15.toInt = 1 := by rw [← q_v15]; exact p_I11.1
        refine qm_Ru.go 1 (c' := (112, [.ref 118, .int b, .int o, .int had, .int be, .int le, .int q, .int w, l8], [.ref 118], (h.1, I11, J12, h.2.2.2))) rfl ?_
        refine hk_inv (o := 118) (r := []) (as := [.ref 118]) rfl rfl (hH.1 118 (17, 105) rfl) rfl rfl rfl rfl (hs_broken (h := (h.1, I11, J12, h.2.2.2)) h6 hH hB_I11 (show s_P (I11) from (s_P_cg3 hP ((funext fun i => congrArg Int32.toInt (e_I11 131 rfl i)).trans ((funext fun i => congrArg Int32.toInt (e 131 rfl i)).trans rfl)) ((funext fun i => congrArg Int32.toInt (e_I11 132 rfl i)).trans ((funext fun i => congrArg Int32.toInt (e 132 rfl i)).trans rfl)) ((funext fun i => congrArg Int32.toInt (e_I11 133 rfl i)).trans ((funext fun i => congrArg Int32.toInt (e 133 rfl i)).trans rfl)) ((funext fun i => congrArg Int32.toInt (e_I11 134 rfl i)).trans ((funext fun i => congrArg Int32.toInt (e 134 rfl i)).trans rfl)) ((funext fun i => congrArg Int32.toInt (e_I11 138 rfl i)).trans ((funext fun i => congrArg Int32.toInt (e 138 rfl i)).trans rfl)) ((funext fun i => congrArg Int32.toInt (e_I11 139 rfl i)).trans ((funext fun i => congrArg Int32.toInt (e 139 rfl i)).trans rfl)) ((funext fun i => congrArg Int32.toInt (e_I11 140 rfl i)).trans ((funext fun i => congrArg Int32.toInt (e 140 rfl i)).trans rfl)) ((funext fun i => congrArg Int32.toInt (e_I11 141 rfl i)).trans ((funext fun i => congrArg Int32.toInt (e 141 rfl i)).trans rfl)) ((funext fun i => congrArg Int32.toInt (e_I11 142 rfl i)).trans ((funext fun i => congrArg Int32.toInt (e 142 rfl i)).trans rfl)) ((e_I11 118 rfl 18).trans ((e8 18 (by decide)).trans rfl)))) (fun v18 I16 J17 hB_I16 e_I16 e8_I16 => ?_))
        have hV_I16 : v_R I16 := v_R_cg2 hV_I11 (q_same e_I16 rfl) (e8_I16 44 (by decide))
        refine qm_Ru.go 2 (c' := (117, [.ref 118, .int b, .int o, .int had, .int be, .int le, .int q, .int w, l8], [.int (v18 - had)], (h.1, I16, J17, h.2.2.2))) rfl ?_
        obtain ⟨v19, q_v19⟩ : ∃ v, (v18 - had) = v := ⟨_, rfl⟩
        rw [q_v19]
        refine qm_Ru.go 2 (c' := (119, [.ref 118, .int b, .int o, .int had, .int be, .int le, .int q, .int w, l8], [.int (-1), .ref 118, .int v19], (h.1, I16, J17, h.2.2.2))) rfl ?_
        refine hk_inv (o := 118) (r := [.int v19]) (as := [.ref 118, .int (-1)]) rfl rfl (hH.1 118 (17, 105) rfl) rfl rfl rfl rfl (hs_rover (h := (h.1, I16, J17, h.2.2.2)) h6 hH hB_I16 (v_R_ru hV_I16) ⟨by decide, by decide⟩ (by omega) (fun v22 I20 J21 c_v22 hB_I20 e_I20 => ?_))
        have hV_I20 : v_R I20 := v_R_cg hV_I16 e_I20 rfl
        have b_v22 : (-2147483648 : Int) ≤ v22.toInt ∧ v22.toInt ≤ 2147483647 := c_v22
        refine qm_Ru.go 1 (c' := (123, [.ref 118, .int b, .int o, .int had, .int be, .int le, .int q, .int w, l8], [.int (v19 + v22)], (h.1, I20, J21, h.2.2.2))) rfl ?_
        obtain ⟨v23, q_v23⟩ : ∃ v, (v19 + v22) = v := ⟨_, rfl⟩
        rw [q_v23]
        refine qm_Ru.go 3 (c' := (127, [.ref 118, .int b, .int o, .int had, .int be, .int le, .int q, .int w, .int v23], [.int o, .ref 118], (h.1, I20, J21, h.2.2.2))) rfl ?_
        refine hk_inv (o := 118) (r := []) (as := [.ref 118, .int o]) rfl rfl (hH.1 118 (17, 105) rfl) rfl rfl rfl rfl (rl_away (h := (h.1, I20, J21, h.2.2.2)) hH hB_I20 hV_I20 (b := o) (by omega) (show pI (I20) 150 (o.toInt.toNat) = 1 from (congrArg Int32.toInt (show (I20) 150 (o.toInt.toNat) = _ from ((e_I20 150 rfl (o.toInt.toNat)).trans ((e_I16 150 rfl (o.toInt.toNat)).trans q_v15)))).trans (by omega)) (fun I24 hB_I24 hV_I24 e_I24 p0_I24 pn_I24 => ?_))
        obtain ⟨v25, q_v25⟩ : ∃ v, I24 150 (o.toInt.toNat) = v := ⟨_, rfl⟩
        have f_v25 : v25.toInt = 0 := by rw [← q_v25]; exact p0_I24
        refine qm_Ru.go 1 (c' := (132, [.ref 118, .int b, .int o, .int had, .int be, .int le, .int q, .int w, .int v23], [.int be], (h.1, I24, J21, h.2.2.2))) rfl ?_
        refine hk_zlt (ix := be.toInt) rfl rfl (fun z26 => ?_) (fun z26 => ?_)
        · refine qm_Ru.go 4 (c' := (152, [.ref 118, .int b, .int o, .int had, .int be, .int le, .int q, .int w, .int v23], [.int (q / 4), .int 1000], (h.1, I24, J21, h.2.2.2))) rfl ?_
          obtain ⟨v27, q_v27, e_v27⟩ := hk_div (x := q) (y := 4) (a := q.toInt) (b := 4) rfl rfl (by omega) (by omega)
          rw [q_v27]
          refine qm_Ru.go 1 (c' := (153, [.ref 118, .int b, .int o, .int had, .int be, .int le, .int q, .int w, .int v23], [.int (1000 * v27)], (h.1, I24, J21, h.2.2.2))) rfl ?_
          obtain ⟨v28, q_v28, e_v28⟩ := hk_mul (x := 1000) (y := v27) (a := 1000) (b := v27.toInt) rfl rfl (by omega) (by omega)
          rw [q_v28]
          refine qm_Ru.go 4 (c' := (159, [.ref 118, .int b, .int o, .int had, .int be, .int le, .int q, .int w, .int v23], [.int (q - q / 4 * 4), .int 100, .int v28], (h.1, I24, J21, h.2.2.2))) rfl ?_
          obtain ⟨v29, q_v29, e_v29⟩ := hk_rem (x := q) (y := 4) (a := q.toInt) (b := 4) rfl rfl (by omega) (by omega)
          rw [q_v29]
          refine qm_Ru.go 1 (c' := (160, [.ref 118, .int b, .int o, .int had, .int be, .int le, .int q, .int w, .int v23], [.int (100 * v29), .int v28], (h.1, I24, J21, h.2.2.2))) rfl ?_
          obtain ⟨v30, q_v30, e_v30⟩ := hk_mul (x := 100) (y := v29) (a := 100) (b := v29.toInt) rfl rfl (by omega) (by omega)
          rw [q_v30]
          refine qm_Ru.go 1 (c' := (161, [.ref 118, .int b, .int o, .int had, .int be, .int le, .int q, .int w, .int v23], [.int (v28 + v30)], (h.1, I24, J21, h.2.2.2))) rfl ?_
          obtain ⟨v31, q_v31, e_v31⟩ := hk_add (x := v28) (y := v30) (a := v28.toInt) (b := v30.toInt) rfl rfl (by omega) (by omega)
          rw [q_v31]
          refine qm_Ru.go 4 (c' := (167, [.ref 118, .int b, .int o, .int had, .int be, .int le, .int q, .int w, .int v23], [.int (w / 4), .int 10, .int v31], (h.1, I24, J21, h.2.2.2))) rfl ?_
          rw [q_v9]
          refine qm_Ru.go 1 (c' := (168, [.ref 118, .int b, .int o, .int had, .int be, .int le, .int q, .int w, .int v23], [.int (10 * v9), .int v31], (h.1, I24, J21, h.2.2.2))) rfl ?_
          obtain ⟨v33, q_v33, e_v33⟩ := hk_mul (x := 10) (y := v9) (a := 10) (b := v9.toInt) rfl rfl (by omega) (by omega)
          rw [q_v33]
          refine qm_Ru.go 1 (c' := (169, [.ref 118, .int b, .int o, .int had, .int be, .int le, .int q, .int w, .int v23], [.int (v31 + v33)], (h.1, I24, J21, h.2.2.2))) rfl ?_
          obtain ⟨v34, q_v34, e_v34⟩ := hk_add (x := v31) (y := v33) (a := v31.toInt) (b := v33.toInt) rfl rfl (by omega) (by omega)
          rw [q_v34]
          refine qm_Ru.go 3 (c' := (173, [.ref 118, .int b, .int o, .int had, .int be, .int le, .int q, .int w, .int v23], [.int (w - w / 4 * 4), .int v34], (h.1, I24, J21, h.2.2.2))) rfl ?_
          rw [q_v10]
          refine qm_Ru.go 1 (c' := (174, [.ref 118, .int b, .int o, .int had, .int be, .int le, .int q, .int w, .int v23], [.int (v34 + v10)], (h.1, I24, J21, h.2.2.2))) rfl ?_
          obtain ⟨v36, q_v36, e_v36⟩ := hk_add (x := v34) (y := v10) (a := v34.toInt) (b := v10.toInt) rfl rfl (by omega) (by omega)
          rw [q_v36]
          refine qm_Ru.go 4 (c' := (183, [.ref 118, .int b, .int o, .int had, .int v36, .int v23, .int q, .int (w + 1), .int v23], [], (h.1, I24, J21, h.2.2.2))) rfl ?_
          obtain ⟨v37, q_v37, e_v37⟩ := hk_add (x := w) (y := 1) (a := w.toInt) (b := 1) rfl rfl (by omega) (by omega)
          rw [q_v37]
          refine qm_Ru.go 1 (c' := (76, [.ref 118, .int b, .int o, .int had, .int v36, .int v23, .int q, .int v37, .int v23], [], (h.1, I24, J21, h.2.2.2))) rfl ?_
          exact ih _ (by omega) (I24) (J21) v36 v23 v37 (.int v23) hB_I24 (fun o ho i => ((e_I24 o (hk_ms rfl ho) i).trans ((e_I20 o (hk_ms rfl ho) i).trans ((e_I16 o (hk_ms rfl ho) i).trans ((e_I11 o (hk_ms rfl ho) i).trans (e o ho i)))))) (fun i hi => ((e_I24 118 rfl i).trans ((e_I20 118 rfl i).trans ((e8_I16 i hi).trans ((e_I11 118 rfl i).trans (e8 i hi)))))) hV_I24 ((congrArg Int32.toInt (show (I24) 150 (b.toInt.toNat) = _ from ((pn_I24 (b.toInt.toNat) (by omega)).trans ((e_I20 150 rfl (b.toInt.toNat)).trans ((e_I16 150 rfl (b.toInt.toNat)).trans ((pn_I11 (b.toInt.toNat) (by omega)).trans q_v1)))))).trans (by omega)) (by omega) rfl
        · refine qm_Ru.go 2 (c' := (139, [.ref 118, .int b, .int o, .int had, .int be, .int le, .int q, .int w, .int v23], [.int le, .int v23], (h.1, I24, J21, h.2.2.2))) rfl ?_
          refine hk_clt (ix := v23.toInt) (iy := le.toInt) rfl rfl rfl (fun z38 => ?_) (fun z38 => ?_)
          · refine qm_Ru.go 4 (c' := (152, [.ref 118, .int b, .int o, .int had, .int be, .int le, .int q, .int w, .int v23], [.int (q / 4), .int 1000], (h.1, I24, J21, h.2.2.2))) rfl ?_
            obtain ⟨v39, q_v39, e_v39⟩ := hk_div (x := q) (y := 4) (a := q.toInt) (b := 4) rfl rfl (by omega) (by omega)
            rw [q_v39]
            refine qm_Ru.go 1 (c' := (153, [.ref 118, .int b, .int o, .int had, .int be, .int le, .int q, .int w, .int v23], [.int (1000 * v39)], (h.1, I24, J21, h.2.2.2))) rfl ?_
            obtain ⟨v40, q_v40, e_v40⟩ := hk_mul (x := 1000) (y := v39) (a := 1000) (b := v39.toInt) rfl rfl (by omega) (by omega)
            rw [q_v40]
            refine qm_Ru.go 4 (c' := (159, [.ref 118, .int b, .int o, .int had, .int be, .int le, .int q, .int w, .int v23], [.int (q - q / 4 * 4), .int 100, .int v40], (h.1, I24, J21, h.2.2.2))) rfl ?_
            obtain ⟨v41, q_v41, e_v41⟩ := hk_rem (x := q) (y := 4) (a := q.toInt) (b := 4) rfl rfl (by omega) (by omega)
            rw [q_v41]
            refine qm_Ru.go 1 (c' := (160, [.ref 118, .int b, .int o, .int had, .int be, .int le, .int q, .int w, .int v23], [.int (100 * v41), .int v40], (h.1, I24, J21, h.2.2.2))) rfl ?_
            obtain ⟨v42, q_v42, e_v42⟩ := hk_mul (x := 100) (y := v41) (a := 100) (b := v41.toInt) rfl rfl (by omega) (by omega)
            rw [q_v42]
            refine qm_Ru.go 1 (c' := (161, [.ref 118, .int b, .int o, .int had, .int be, .int le, .int q, .int w, .int v23], [.int (v40 + v42)], (h.1, I24, J21, h.2.2.2))) rfl ?_
            obtain ⟨v43, q_v43, e_v43⟩ := hk_add (x := v40) (y := v42) (a := v40.toInt) (b := v42.toInt) rfl rfl (by omega) (by omega)
            rw [q_v43]
            refine qm_Ru.go 4 (c' := (167, [.ref 118, .int b, .int o, .int had, .int be, .int le, .int q, .int w, .int v23], [.int (w / 4), .int 10, .int v43], (h.1, I24, J21, h.2.2.2))) rfl ?_
            rw [q_v9]
            refine qm_Ru.go 1 (c' := (168, [.ref 118, .int b, .int o, .int had, .int be, .int le, .int q, .int w, .int v23], [.int (10 * v9), .int v43], (h.1, I24, J21, h.2.2.2))) rfl ?_
            obtain ⟨v45, q_v45, e_v45⟩ := hk_mul (x := 10) (y := v9) (a := 10) (b := v9.toInt) rfl rfl (by omega) (by omega)
            rw [q_v45]
            refine qm_Ru.go 1 (c' := (169, [.ref 118, .int b, .int o, .int had, .int be, .int le, .int q, .int w, .int v23], [.int (v43 + v45)], (h.1, I24, J21, h.2.2.2))) rfl ?_
            obtain ⟨v46, q_v46, e_v46⟩ := hk_add (x := v43) (y := v45) (a := v43.toInt) (b := v45.toInt) rfl rfl (by omega) (by omega)
            rw [q_v46]
            refine qm_Ru.go 3 (c' := (173, [.ref 118, .int b, .int o, .int had, .int be, .int le, .int q, .int w, .int v23], [.int (w - w / 4 * 4), .int v46], (h.1, I24, J21, h.2.2.2))) rfl ?_
            rw [q_v10]
            refine qm_Ru.go 1 (c' := (174, [.ref 118, .int b, .int o, .int had, .int be, .int le, .int q, .int w, .int v23], [.int (v46 + v10)], (h.1, I24, J21, h.2.2.2))) rfl ?_
            obtain ⟨v48, q_v48, e_v48⟩ := hk_add (x := v46) (y := v10) (a := v46.toInt) (b := v10.toInt) rfl rfl (by omega) (by omega)
            rw [q_v48]
            refine qm_Ru.go 4 (c' := (183, [.ref 118, .int b, .int o, .int had, .int v48, .int v23, .int q, .int (w + 1), .int v23], [], (h.1, I24, J21, h.2.2.2))) rfl ?_
            obtain ⟨v49, q_v49, e_v49⟩ := hk_add (x := w) (y := 1) (a := w.toInt) (b := 1) rfl rfl (by omega) (by omega)
            rw [q_v49]
            refine qm_Ru.go 1 (c' := (76, [.ref 118, .int b, .int o, .int had, .int v48, .int v23, .int q, .int v49, .int v23], [], (h.1, I24, J21, h.2.2.2))) rfl ?_
            exact ih _ (by omega) (I24) (J21) v48 v23 v49 (.int v23) hB_I24 (fun o ho i => ((e_I24 o (hk_ms rfl ho) i).trans ((e_I20 o (hk_ms rfl ho) i).trans ((e_I16 o (hk_ms rfl ho) i).trans ((e_I11 o (hk_ms rfl ho) i).trans (e o ho i)))))) (fun i hi => ((e_I24 118 rfl i).trans ((e_I20 118 rfl i).trans ((e8_I16 i hi).trans ((e_I11 118 rfl i).trans (e8 i hi)))))) hV_I24 ((congrArg Int32.toInt (show (I24) 150 (b.toInt.toNat) = _ from ((pn_I24 (b.toInt.toNat) (by omega)).trans ((e_I20 150 rfl (b.toInt.toNat)).trans ((e_I16 150 rfl (b.toInt.toNat)).trans ((pn_I11 (b.toInt.toNat) (by omega)).trans q_v1)))))).trans (by omega)) (by omega) rfl
          · refine qm_Ru.go 2 (c' := (183, [.ref 118, .int b, .int o, .int had, .int be, .int le, .int q, .int (w + 1), .int v23], [], (h.1, I24, J21, h.2.2.2))) rfl ?_
            obtain ⟨v50, q_v50, e_v50⟩ := hk_add (x := w) (y := 1) (a := w.toInt) (b := 1) rfl rfl (by omega) (by omega)
            rw [q_v50]
            refine qm_Ru.go 1 (c' := (76, [.ref 118, .int b, .int o, .int had, .int be, .int le, .int q, .int v50, .int v23], [], (h.1, I24, J21, h.2.2.2))) rfl ?_
            exact ih _ (by omega) (I24) (J21) be le v50 (.int v23) hB_I24 (fun o ho i => ((e_I24 o (hk_ms rfl ho) i).trans ((e_I20 o (hk_ms rfl ho) i).trans ((e_I16 o (hk_ms rfl ho) i).trans ((e_I11 o (hk_ms rfl ho) i).trans (e o ho i)))))) (fun i hi => ((e_I24 118 rfl i).trans ((e_I20 118 rfl i).trans ((e8_I16 i hi).trans ((e_I11 118 rfl i).trans (e8 i hi)))))) hV_I24 ((congrArg Int32.toInt (show (I24) 150 (b.toInt.toNat) = _ from ((pn_I24 (b.toInt.toNat) (by omega)).trans ((e_I20 150 rfl (b.toInt.toNat)).trans ((e_I16 150 rfl (b.toInt.toNat)).trans ((pn_I11 (b.toInt.toNat) (by omega)).trans q_v1)))))).trans (by omega)) (by omega) rfl
      · refine qm_Ru.go 2 (c' := (183, [.ref 118, .int b, .int o, .int had, .int be, .int le, .int q, .int (w + 1), l8], [], (h.1, I11, J12, h.2.2.2))) rfl ?_
        obtain ⟨v51, q_v51, e_v51⟩ := hk_add (x := w) (y := 1) (a := w.toInt) (b := 1) rfl rfl (by omega) (by omega)
        rw [q_v51]
        refine qm_Ru.go 1 (c' := (76, [.ref 118, .int b, .int o, .int had, .int be, .int le, .int q, .int v51, l8], [], (h.1, I11, J12, h.2.2.2))) rfl ?_
        exact ih _ (by omega) (I11) (J12) be le v51 l8 hB_I11 (fun o ho i => ((e_I11 o (hk_ms rfl ho) i).trans (e o ho i))) (fun i hi => ((e_I11 118 rfl i).trans (e8 i hi))) hV_I11 ((congrArg Int32.toInt (show (I11) 150 (b.toInt.toNat) = _ from ((pn_I11 (b.toInt.toNat) (by omega)).trans q_v1))).trans (by omega)) (by omega) rfl
theorem hl_two2 {L : Nat} {xs : Nat → Int32} {d : Nat} {Z : Option Value → qm_H → Prop} {h : qm_H} (h6 : 6 ≤ L) (hH : hk_H h) (hB : hk_B h.2.1) (hP : s_P h.2.1) {b o had : Int32} (hbo : b.toInt ≠ o.toInt) (b_b : (0 : Int) ≤ b.toInt ∧ b.toInt ≤ 29) (b_o : (0 : Int) ≤ o.toInt ∧ o.toInt ≤ 29) (k : ∀ (v : Int32) (I : Nat → Nat → Int32) (J : Nat → Nat → Int64), hk_B I → v_Q I → (∀ o, [118, 144, 145, 146, 147, 148, 149, 150, 151, 152, 153, 154, 155, 156].contains o = false → ∀ i, I o i = h.2.1 o i) → Z (some (.int v)) (h.1, I, J, h.2.2.2)) : ∀ (m : Nat) (I : Nat → Nat → Int32) (J : Nat → Nat → Int64) (be : Int32) (le : Int32) (q : Int32) (l7 l8 : Value), hk_B I → (∀ o, [118, 144, 145, 146, 147, 148, 149, 150, 151, 152, 153, 154, 155, 156].contains o = false → ∀ i, I o i = h.2.1 o i) → (∀ i, i ≠ 57 → I 118 i = h.2.1 118 i) → (v_R I) → ((0 : Int) ≤ q.toInt ∧ q.toInt ≤ 20) → (20 - q.toInt).toNat = m → qm_Ru (some (L, xs)) (d + 100) cd_379 (38, [.ref 118, .int b, .int o, .int had, .int be, .int le, .int q, l7, l8], [], (h.1, I, J, h.2.2.2)) Z := by
  intro m
  induction m using Nat.strongRecOn with
  | ind m ih =>
    intro I J be le q l7 l8 hBI e e8 hVI hq hm
    refine qm_Ru.go 3 (c' := (42, [.ref 118, .int b, .int o, .int had, .int be, .int le, .int q, l7, l8], [.ref 118, .int 4, .int q], (h.1, I, J, h.2.2.2))) rfl ?_
    refine hk_getr rfl (hH.1 118 (17, 105) rfl) rfl (hH.2 118 22 (some 127) rfl) ?_
    refine qm_Ru.go 1 (c' := (46, [.ref 118, .int b, .int o, .int had, .int be, .int le, .int q, l7, l8], [.ref 118, .ref 127, .int 4, .int q], (h.1, I, J, h.2.2.2))) rfl ?_
    obtain ⟨v1, q_v1⟩ : ∃ v, h.2.1 118 18 = v := ⟨_, rfl⟩
    have b_v1 : (0 : Int) ≤ v1.toInt ∧ v1.toInt ≤ 1 := by rw [← q_v1]; exact hB 118 18
    refine hk_geti (v := v1) rfl (hH.1 118 (17, 105) rfl) rfl (show (I) 118 18 = _ from ((e8 18 (by omega)).trans q_v1)) ?_
    refine qm_Ru.go 0 (c' := (49, [.ref 118, .int b, .int o, .int had, .int be, .int le, .int q, l7, l8], [.int v1, .ref 127, .int 4, .int q], (h.1, I, J, h.2.2.2))) rfl ?_
    obtain ⟨v2, q_v2⟩ : ∃ v, h.2.1 127 (v1.toInt.toNat) = v := ⟨_, rfl⟩
    have b_v2 : (0 : Int) ≤ v2.toInt ∧ v2.toInt ≤ 5 := by rw [← q_v2]; exact hB 127 (v1.toInt.toNat)
    refine hk_ial (v := v2) rfl (hH.1 127 (0, 2) rfl) (by omega) (by omega) (show (I) 127 (v1.toInt.toNat) = _ from ((e 127 rfl (v1.toInt.toNat)).trans q_v2)) ?_
    refine qm_Ru.go 1 (c' := (51, [.ref 118, .int b, .int o, .int had, .int be, .int le, .int q, l7, l8], [.int (4 * v2), .int q], (h.1, I, J, h.2.2.2))) rfl ?_
    obtain ⟨v3, q_v3, e_v3⟩ := hk_mul (x := 4) (y := v2) (a := 4) (b := v2.toInt) rfl rfl (by omega) (by omega)
    rw [q_v3]
    refine hk_cge (ix := q.toInt) (iy := v3.toInt) rfl rfl rfl (fun z4 => ?_) (fun z4 => ?_)
    · refine qm_Ru.go 1 (c' := (199, [.ref 118, .int b, .int o, .int had, .int be, .int le, .int q, l7, l8], [.int be], (h.1, I, J, h.2.2.2))) rfl ?_
      refine qm_Ru.rt (v := (some (.int be))) (h' := (h.1, I, J, h.2.2.2)) rfl ?_
      exact k be (I) (J) hBI ⟨hVI, (s_P_cg3 hP ((funext fun i => congrArg Int32.toInt (e 131 rfl i)).trans rfl) ((funext fun i => congrArg Int32.toInt (e 132 rfl i)).trans rfl) ((funext fun i => congrArg Int32.toInt (e 133 rfl i)).trans rfl) ((funext fun i => congrArg Int32.toInt (e 134 rfl i)).trans rfl) ((funext fun i => congrArg Int32.toInt (e 138 rfl i)).trans rfl) ((funext fun i => congrArg Int32.toInt (e 139 rfl i)).trans rfl) ((funext fun i => congrArg Int32.toInt (e 140 rfl i)).trans rfl) ((funext fun i => congrArg Int32.toInt (e 141 rfl i)).trans rfl) ((funext fun i => congrArg Int32.toInt (e 142 rfl i)).trans rfl) ((e8 18 (by decide)).trans rfl))⟩ (fun o ho i => (e o ho i))
    · refine qm_Ru.go 5 (c' := (60, [.ref 118, .int b, .int o, .int had, .int be, .int le, .int q, l7, l8], [.int (q / 4), .int b, .ref 118], (h.1, I, J, h.2.2.2))) rfl ?_
      obtain ⟨v5, q_v5, e_v5⟩ := hk_div (x := q) (y := 4) (a := q.toInt) (b := 4) rfl rfl (by omega) (by omega)
      rw [q_v5]
      refine qm_Ru.go 3 (c' := (64, [.ref 118, .int b, .int o, .int had, .int be, .int le, .int q, l7, l8], [.int (q - q / 4 * 4), .int v5, .int b, .ref 118], (h.1, I, J, h.2.2.2))) rfl ?_
      obtain ⟨v6, q_v6, e_v6⟩ := hk_rem (x := q) (y := 4) (a := q.toInt) (b := 4) rfl rfl (by omega) (by omega)
      rw [q_v6]
      refine hk_inv (o := 118) (r := []) (as := [.ref 118, .int b, .int v5, .int v6]) rfl rfl (hH.1 118 (17, 105) rfl) rfl rfl rfl rfl (hq_rload (h := (h.1, I, J, h.2.2.2)) h6 hH hBI hVI (b := b) (y := v5) (r := v6) (fun v9 I7 J8 b_v9 hB_I7 hV_I7 e_I7 p_I7 pn_I7 => ?_))
      refine qm_Ru.go 0 (c' := (67, [.ref 118, .int b, .int o, .int had, .int be, .int le, .int q, l7, l8], [.int v9], (h.1, I7, J8, h.2.2.2))) rfl ?_
      refine hk_zge (ix := v9.toInt) rfl rfl (fun z10 => ?_) (fun z10 => ?_)
      · refine qm_Ru.go 0 (c' := (73, [.ref 118, .int b, .int o, .int had, .int be, .int le, .int q, l7, l8], [], (h.1, I7, J8, h.2.2.2))) rfl ?_
        have p_I7 := p_I7 (by omega)
        obtain ⟨v11, q_v11⟩ : ∃ v, I7 150 (b.toInt.toNat) = v := ⟨_, rfl⟩
        have f_v11 : v11.toInt = 1 := by rw [← q_v11]; exact p_I7.1
        refine qm_Ru.go 2 (c' := (76, [.ref 118, .int b, .int o, .int had, .int be, .int le, .int q, .int 0, l8], [], (h.1, I7, J8, h.2.2.2))) rfl ?_
        exact hl_two1 h6 hH hB hP hbo (q := q) (by omega) b_o (by omega) (fun I J be le q2 w l8 hBI hVI e e8 eq => ih _ (by omega) I J be le q2 (.int w) l8 hBI e e8 hVI (by omega) rfl) _ (I7) (J8) be le 0 l8 hB_I7 (fun o ho i => ((e_I7 o (hk_ms rfl ho) i).trans (e o ho i))) (fun i hi => ((e_I7 118 rfl i).trans (e8 i hi))) hV_I7 ((congrArg Int32.toInt q_v11).trans (by omega)) (by decide) rfl
      · refine qm_Ru.go 2 (c' := (194, [.ref 118, .int b, .int o, .int had, .int be, .int le, .int (q + 1), l7, l8], [], (h.1, I7, J8, h.2.2.2))) rfl ?_
        obtain ⟨v12, q_v12, e_v12⟩ := hk_add (x := q) (y := 1) (a := q.toInt) (b := 1) rfl rfl (by omega) (by omega)
        rw [q_v12]
        refine qm_Ru.go 1 (c' := (38, [.ref 118, .int b, .int o, .int had, .int be, .int le, .int v12, l7, l8], [], (h.1, I7, J8, h.2.2.2))) rfl ?_
        exact ih _ (by omega) (I7) (J8) be le v12 l7 l8 hB_I7 (fun o ho i => ((e_I7 o (hk_ms rfl ho) i).trans (e o ho i))) (fun i hi => ((e_I7 118 rfl i).trans (e8 i hi))) hV_I7 (by omega) rfl
theorem hw_two {L : Nat} {xs : Nat → Int32} {d : Nat} {Z : Option Value → qm_H → Prop} {h : qm_H} (h6 : 6 ≤ L) (hH : hk_H h) (hB : hk_B h.2.1) (hV : v_R h.2.1) (hP : s_P h.2.1) {b o : Int32} (k : ∀ (v : Int32) (I : Nat → Nat → Int32) (J : Nat → Nat → Int64), hk_B I → v_Q I → (∀ o, [118, 144, 145, 146, 147, 148, 149, 150, 151, 152, 153, 154, 155, 156].contains o = false → ∀ i, I o i = h.2.1 o i) → Z (some (.int v)) (h.1, I, J, h.2.2.2)) : qm_Ru (some (L, xs)) (d + 100) cd_379 (qm_ent 9 [.ref 118, .int b, .int o] h) Z := by
  refine qm_Ru.go 2 (c' := (2, [.ref 118, .int b, .int o, .float 0, .float 0, .float 0, .float 0, .float 0, .float 0], [.int b, .ref 118], h)) rfl ?_
  refine hk_inv (o := 118) (r := []) (as := [.ref 118, .int b]) rfl rfl (hH.1 118 (17, 105) rfl) rfl rfl rfl rfl ?_
  refine qm_Ru.go 2 (c' := (2, [.ref 118, .int b], [.int b, .ref 118], h)) rfl ?_
  refine hk_inv (o := 118) (r := []) (as := [.ref 118, .int b]) rfl rfl (hH.1 118 (17, 105) rfl) rfl rfl rfl rfl ?_
  refine qm_Ru.go 3 (c' := (3, [.ref 118, .int b], [.ref 118, .int 0, .int b], h)) rfl ?_
  obtain ⟨v1, q_v1⟩ : ∃ v, h.2.1 118 44 = v := ⟨_, rfl⟩
  have b_v1 : (0 : Int) ≤ v1.toInt ∧ v1.toInt ≤ 30 := by rw [← q_v1]; exact hB 118 44
  refine hk_geti (v := v1) rfl (hH.1 118 (17, 105) rfl) rfl q_v1 ?_
  refine qm_Ru.go 2 (c' := (8, [.ref 118, .int b], [.int (v1 - 1), .int 0, .int b], h)) rfl ?_
  obtain ⟨v2, q_v2, e_v2⟩ := hk_sub (x := v1) (y := 1) (a := v1.toInt) (b := 1) rfl rfl (by omega) (by omega)
  rw [q_v2]
  refine qm_Ru.call (j := 270) (as := [.int b, .int 0, .int v2]) (c' := (11, [.ref 118, .int b], [], h)) rfl rfl rfl ?_
  refine qm_Ru.go 2 (c' := (2, [.int b, .int 0, .int v2], [.int 0, .int b], h)) rfl ?_
  refine hk_clt (ix := b.toInt) (iy := 0) rfl rfl rfl (fun z3 => ?_) (fun z3 => ?_)
  · refine qm_Ru.go 1 (c' := (15, [.int b, .int 0, .int v2], [.int 0], h)) rfl ?_
    refine qm_Ru.rt (v := (some (.int 0))) (h' := h) rfl ?_
    refine qm_Ru.go 0 (c' := (11, [.ref 118, .int b], [.int 0], h)) rfl ?_
    refine qm_Ru.rt (v := (some (.int 0))) (h' := h) rfl ?_
    refine qm_Ru.go 2 (c' := (22, [.ref 118, .int b], [.int 0], h)) rfl ?_
    refine qm_Ru.rt (v := (some (.int 0))) (h' := h) rfl ?_
    refine qm_Ru.go 2 (c' := (22, [.ref 118, .int b, .int o, .float 0, .float 0, .float 0, .float 0, .float 0, .float 0], [.int (-1)], h)) rfl ?_
    refine qm_Ru.rt (v := (some (.int (-1)))) (h' := h) rfl ?_
    exact k (-1) (h.2.1) (h.2.2.1) hB ⟨hV, (s_P_cg3 hP rfl rfl rfl rfl rfl rfl rfl rfl rfl rfl)⟩ (fun o ho i => rfl)
  · refine qm_Ru.go 2 (c' := (7, [.int b, .int 0, .int v2], [.int v2, .int b], h)) rfl ?_
    refine hk_cgt (ix := b.toInt) (iy := v2.toInt) rfl rfl rfl (fun z4 => ?_) (fun z4 => ?_)
    · refine qm_Ru.go 1 (c' := (15, [.int b, .int 0, .int v2], [.int 0], h)) rfl ?_
      refine qm_Ru.rt (v := (some (.int 0))) (h' := h) rfl ?_
      refine qm_Ru.go 0 (c' := (11, [.ref 118, .int b], [.int 0], h)) rfl ?_
      refine qm_Ru.rt (v := (some (.int 0))) (h' := h) rfl ?_
      refine qm_Ru.go 2 (c' := (22, [.ref 118, .int b], [.int 0], h)) rfl ?_
      refine qm_Ru.rt (v := (some (.int 0))) (h' := h) rfl ?_
      refine qm_Ru.go 2 (c' := (22, [.ref 118, .int b, .int o, .float 0, .float 0, .float 0, .float 0, .float 0, .float 0], [.int (-1)], h)) rfl ?_
      refine qm_Ru.rt (v := (some (.int (-1)))) (h' := h) rfl ?_
      exact k (-1) (h.2.1) (h.2.2.1) hB ⟨hV, (s_P_cg3 hP rfl rfl rfl rfl rfl rfl rfl rfl rfl rfl)⟩ (fun o ho i => rfl)
    · refine qm_Ru.go 2 (c' := (15, [.int b, .int 0, .int v2], [.int 1], h)) rfl ?_
      refine qm_Ru.rt (v := (some (.int 1))) (h' := h) rfl ?_
      refine qm_Ru.go 0 (c' := (11, [.ref 118, .int b], [.int 1], h)) rfl ?_
      refine qm_Ru.rt (v := (some (.int 1))) (h' := h) rfl ?_
      refine qm_Ru.go 2 (c' := (9, [.ref 118, .int b], [.ref 118], h)) rfl ?_
      refine hk_getr rfl (hH.1 118 (17, 105) rfl) rfl (hH.2 118 49 (some 150) rfl) ?_
      refine qm_Ru.go 1 (c' := (13, [.ref 118, .int b], [.int b, .ref 150], h)) rfl ?_
      obtain ⟨v5, q_v5⟩ : ∃ v, h.2.1 150 (b.toInt.toNat) = v := ⟨_, rfl⟩
      have b_v5 : (0 : Int) ≤ v5.toInt ∧ v5.toInt ≤ 2 := by rw [← q_v5]; exact hB 150 (b.toInt.toNat)
      refine hk_ial (v := v5) rfl (hH.1 150 (0, 30) rfl) (by omega) (by omega) q_v5 ?_
      refine qm_Ru.go 0 (c' := (14, [.ref 118, .int b], [.int v5], h)) rfl ?_
      refine hk_zne (ix := v5.toInt) rfl rfl (fun z6 => ?_) (fun z6 => ?_)
      · refine qm_Ru.go 1 (c' := (22, [.ref 118, .int b], [.int 0], h)) rfl ?_
        refine qm_Ru.rt (v := (some (.int 0))) (h' := h) rfl ?_
        refine qm_Ru.go 2 (c' := (22, [.ref 118, .int b, .int o, .float 0, .float 0, .float 0, .float 0, .float 0, .float 0], [.int (-1)], h)) rfl ?_
        refine qm_Ru.rt (v := (some (.int (-1)))) (h' := h) rfl ?_
        exact k (-1) (h.2.1) (h.2.2.1) hB ⟨hV, (s_P_cg3 hP rfl rfl rfl rfl rfl rfl rfl rfl rfl rfl)⟩ (fun o ho i => rfl)
      · refine qm_Ru.go 2 (c' := (22, [.ref 118, .int b], [.int 1], h)) rfl ?_
        refine qm_Ru.rt (v := (some (.int 1))) (h' := h) rfl ?_
        refine qm_Ru.go 3 (c' := (10, [.ref 118, .int b, .int o, .float 0, .float 0, .float 0, .float 0, .float 0, .float 0], [.int o, .ref 118], h)) rfl ?_
        refine hk_inv (o := 118) (r := []) (as := [.ref 118, .int o]) rfl rfl (hH.1 118 (17, 105) rfl) rfl rfl rfl rfl ?_
        refine qm_Ru.go 2 (c' := (2, [.ref 118, .int o], [.int o, .ref 118], h)) rfl ?_
        refine hk_inv (o := 118) (r := []) (as := [.ref 118, .int o]) rfl rfl (hH.1 118 (17, 105) rfl) rfl rfl rfl rfl ?_
        refine qm_Ru.go 3 (c' := (3, [.ref 118, .int o], [.ref 118, .int 0, .int o], h)) rfl ?_
        refine hk_geti (v := v1) rfl (hH.1 118 (17, 105) rfl) rfl q_v1 ?_
        refine qm_Ru.go 2 (c' := (8, [.ref 118, .int o], [.int (v1 - 1), .int 0, .int o], h)) rfl ?_
        rw [q_v2]
        refine qm_Ru.call (j := 270) (as := [.int o, .int 0, .int v2]) (c' := (11, [.ref 118, .int o], [], h)) rfl rfl rfl ?_
        refine qm_Ru.go 2 (c' := (2, [.int o, .int 0, .int v2], [.int 0, .int o], h)) rfl ?_
        refine hk_clt (ix := o.toInt) (iy := 0) rfl rfl rfl (fun z8 => ?_) (fun z8 => ?_)
        · refine qm_Ru.go 1 (c' := (15, [.int o, .int 0, .int v2], [.int 0], h)) rfl ?_
          refine qm_Ru.rt (v := (some (.int 0))) (h' := h) rfl ?_
          refine qm_Ru.go 0 (c' := (11, [.ref 118, .int o], [.int 0], h)) rfl ?_
          refine qm_Ru.rt (v := (some (.int 0))) (h' := h) rfl ?_
          refine qm_Ru.go 2 (c' := (22, [.ref 118, .int o], [.int 0], h)) rfl ?_
          refine qm_Ru.rt (v := (some (.int 0))) (h' := h) rfl ?_
          refine qm_Ru.go 2 (c' := (22, [.ref 118, .int b, .int o, .float 0, .float 0, .float 0, .float 0, .float 0, .float 0], [.int (-1)], h)) rfl ?_
          refine qm_Ru.rt (v := (some (.int (-1)))) (h' := h) rfl ?_
          exact k (-1) (h.2.1) (h.2.2.1) hB ⟨hV, (s_P_cg3 hP rfl rfl rfl rfl rfl rfl rfl rfl rfl rfl)⟩ (fun o ho i => rfl)
        · refine qm_Ru.go 2 (c' := (7, [.int o, .int 0, .int v2], [.int v2, .int o], h)) rfl ?_
          refine hk_cgt (ix := o.toInt) (iy := v2.toInt) rfl rfl rfl (fun z9 => ?_) (fun z9 => ?_)
          · refine qm_Ru.go 1 (c' := (15, [.int o, .int 0, .int v2], [.int 0], h)) rfl ?_
            refine qm_Ru.rt (v := (some (.int 0))) (h' := h) rfl ?_
            refine qm_Ru.go 0 (c' := (11, [.ref 118, .int o], [.int 0], h)) rfl ?_
            refine qm_Ru.rt (v := (some (.int 0))) (h' := h) rfl ?_
            refine qm_Ru.go 2 (c' := (22, [.ref 118, .int o], [.int 0], h)) rfl ?_
            refine qm_Ru.rt (v := (some (.int 0))) (h' := h) rfl ?_
            refine qm_Ru.go 2 (c' := (22, [.ref 118, .int b, .int o, .float 0, .float 0, .float 0, .float 0, .float 0, .float 0], [.int (-1)], h)) rfl ?_
            refine qm_Ru.rt (v := (some (.int (-1)))) (h' := h) rfl ?_
            exact k (-1) (h.2.1) (h.2.2.1) hB ⟨hV, (s_P_cg3 hP rfl rfl rfl rfl rfl rfl rfl rfl rfl rfl)⟩ (fun o ho i => rfl)
          · refine qm_Ru.go 2 (c' := (15, [.int o, .int 0, .int v2], [.int 1], h)) rfl ?_
            refine qm_Ru.rt (v := (some (.int 1))) (h' := h) rfl ?_
            refine qm_Ru.go 0 (c' := (11, [.ref 118, .int o], [.int 1], h)) rfl ?_
            refine qm_Ru.rt (v := (some (.int 1))) (h' := h) rfl ?_
            refine qm_Ru.go 2 (c' := (9, [.ref 118, .int o], [.ref 118], h)) rfl ?_
            refine hk_getr rfl (hH.1 118 (17, 105) rfl) rfl (hH.2 118 49 (some 150) rfl) ?_
            refine qm_Ru.go 1 (c' := (13, [.ref 118, .int o], [.int o, .ref 150], h)) rfl ?_
            obtain ⟨v10, q_v10⟩ : ∃ v, h.2.1 150 (o.toInt.toNat) = v := ⟨_, rfl⟩
            have b_v10 : (0 : Int) ≤ v10.toInt ∧ v10.toInt ≤ 2 := by rw [← q_v10]; exact hB 150 (o.toInt.toNat)
            refine hk_ial (v := v10) rfl (hH.1 150 (0, 30) rfl) (by omega) (by omega) q_v10 ?_
            refine qm_Ru.go 0 (c' := (14, [.ref 118, .int o], [.int v10], h)) rfl ?_
            refine hk_zne (ix := v10.toInt) rfl rfl (fun z11 => ?_) (fun z11 => ?_)
            · refine qm_Ru.go 1 (c' := (22, [.ref 118, .int o], [.int 0], h)) rfl ?_
              refine qm_Ru.rt (v := (some (.int 0))) (h' := h) rfl ?_
              refine qm_Ru.go 2 (c' := (22, [.ref 118, .int b, .int o, .float 0, .float 0, .float 0, .float 0, .float 0, .float 0], [.int (-1)], h)) rfl ?_
              refine qm_Ru.rt (v := (some (.int (-1)))) (h' := h) rfl ?_
              exact k (-1) (h.2.1) (h.2.2.1) hB ⟨hV, (s_P_cg3 hP rfl rfl rfl rfl rfl rfl rfl rfl rfl rfl)⟩ (fun o ho i => rfl)
            · refine qm_Ru.go 2 (c' := (22, [.ref 118, .int o], [.int 1], h)) rfl ?_
              refine qm_Ru.rt (v := (some (.int 1))) (h' := h) rfl ?_
              refine qm_Ru.go 3 (c' := (18, [.ref 118, .int b, .int o, .float 0, .float 0, .float 0, .float 0, .float 0, .float 0], [.int o, .int b], h)) rfl ?_
              refine hk_cne (ix := b.toInt) (iy := o.toInt) rfl rfl rfl (fun z12 => ?_) (fun z12 => ?_)
              · refine qm_Ru.go 1 (c' := (24, [.ref 118, .int b, .int o, .float 0, .float 0, .float 0, .float 0, .float 0, .float 0], [.ref 118], h)) rfl ?_
                refine hk_inv (o := 118) (r := []) (as := [.ref 118]) rfl rfl (hH.1 118 (17, 105) rfl) rfl rfl rfl rfl (hs_broken (h := h) h6 hH hB (show s_P (h.2.1) from (s_P_cg3 hP rfl rfl rfl rfl rfl rfl rfl rfl rfl rfl)) (fun v15 I13 J14 hB_I13 e_I13 e8_I13 => ?_))
                have hV_I13 : v_R I13 := v_R_cg2 hV (q_same e_I13 rfl) (e8_I13 44 (by decide))
                refine qm_Ru.go 7 (c' := (38, [.ref 118, .int b, .int o, .int v15, .int (-2), .int 0, .int 0, .float 0, .float 0], [], (h.1, I13, J14, h.2.2.2))) rfl ?_
                exact hl_two2 h6 hH hB hP (by omega) (by omega) (by omega) k _ (I13) (J14) (-2) 0 0 _ _ hB_I13 (fun o ho i => ((e_I13 o (hk_ms rfl ho) i).trans rfl)) (fun i hi => ((e8_I13 i hi).trans rfl)) hV_I13 (by decide) rfl
              · refine qm_Ru.go 1 (c' := (22, [.ref 118, .int b, .int o, .float 0, .float 0, .float 0, .float 0, .float 0, .float 0], [.int (-1)], h)) rfl ?_
                refine qm_Ru.rt (v := (some (.int (-1)))) (h' := h) rfl ?_
                exact k (-1) (h.2.1) (h.2.2.1) hB ⟨hV, (s_P_cg3 hP rfl rfl rfl rfl rfl rfl rfl rfl rfl rfl)⟩ (fun o ho i => rfl)
theorem hc_rtwo : hk_ct v_Q (fun _ => True) (fun as I => ∃ b o : Int32, as = [.ref 118, .int b, .int o]) 379 (some (-2147483648, 2147483647)) [118, 144, 145, 146, 147, 148, 149, 150, 151, 152, 153, 154, 155, 156] 100 := by
  intro L xs d Z h as h6 hH hT hB hV hp hd k
  obtain ⟨b, o, rfl⟩ := hp
  obtain ⟨d, rfl⟩ : ∃ e, d = e + 100 := ⟨d - 100, by omega⟩
  exact hw_two h6 hH hB hV.1 hV.2 (fun v I J hB2 hV2 e => k (some (.int v)) I J ⟨_, rfl, qa_in_full _⟩ hB2 hV2 e)
