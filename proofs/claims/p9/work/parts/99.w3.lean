/-! contracts by hand -/
theorem hc_loading29 : hk_ct v_C (fun h => h.2.2.2 0 9 = some 111 ∧ h.2.2.2 28 2 = some 29) (fun as I => ∃ b y r : Int32, as = [.ref 28, .int b, .int y, .int r] ∧ qa_in (-2147483648, 2147483647) b ∧ qa_in (-2147483648, 2147483647) y ∧ qa_in (-2147483648, 2147483647) r) 86 (some (-3, 3)) [6, 7, 8, 9, 10, 11, 12, 13, 14, 16, 17, 28, 36, 37] 40 := by
  intro L xs d Z h as h6 hH hT hB hV hp hd k
  obtain ⟨b, y, r, rfl, c_b, c_y, c_r⟩ := hp
  obtain ⟨d, rfl⟩ : ∃ e, d = e + 40 := ⟨d - 40, by omega⟩
  have b_b : (-2147483648 : Int) ≤ b.toInt ∧ b.toInt ≤ 2147483647 := c_b
  have b_y : (-2147483648 : Int) ≤ y.toInt ∧ y.toInt ≤ 2147483647 := c_y
  have b_r : (-2147483648 : Int) ≤ r.toInt ∧ r.toInt ≤ 2147483647 := c_r
  show qm_Ru (some (L, xs)) (d + 40) cd_86 (qm_ent 5 [.ref 28, .int b, .int y, .int r] h) Z
  refine qm_Ru.go 4 (c' := (4, [.ref 28, .int b, .int y, .int r, .float 0], [.int r, .int y, .int b, .ref 28], h)) rfl ?_
  refine hk_inv (o := 28) (r := []) (as := [.ref 28, .int b, .int y, .int r]) rfl rfl (hH.1 28 (9, 8) rfl) rfl rfl rfl rfl (hq_try29 h6 hH hT hB hV (fun v1 J2 c_v1 d_v1 => ?_) (fun t3 J4 f_t3 g_t3 => ?_))
  · refine qm_Ru.go 2 (c' := (11, [.ref 28, .int b, .int y, .int r, .int v1], [.int v1], (h.1, h.2.1, J2, h.2.2.2))) rfl ?_
    refine hk_zlt (ix := v1.toInt) rfl rfl (fun z5 => ?_) (fun z5 => by exfalso; omega)
    refine qm_Ru.go 1 (c' := (54, [.ref 28, .int b, .int y, .int r, .int v1], [.int v1], (h.1, h.2.1, J2, h.2.2.2))) rfl ?_
    refine qm_Ru.rt (v := (some (.int v1))) (h' := (h.1, h.2.1, J2, h.2.2.2)) rfl ?_
    exact k (some (.int v1)) (h.2.1) (J2) ⟨_, rfl, ⟨by show (-3 : Int) ≤ v1.toInt; omega, by show v1.toInt ≤ (3 : Int); omega⟩⟩ hB hV (fun _ _ _ => rfl)
  · obtain ⟨fy, fr, ft, ff, fb⟩ := f_t3
    obtain ⟨gb, gn, gh⟩ := g_t3
    obtain ⟨v6, q_v6⟩ : ∃ v, h.2.1 6 0 = v := ⟨_, rfl⟩
    have b_v6 : (0 : Int) ≤ v6.toInt ∧ v6.toInt ≤ 30 := by rw [← q_v6]; exact hB 6 0
    have gn : b.toInt < v6.toInt := by rw [← q_v6]; exact gn
    refine qm_Ru.go 2 (c' := (11, [.ref 28, .int b, .int y, .int r, .int t3], [.int t3], (h.1, h.2.1, J4, h.2.2.2))) rfl ?_
    refine hk_zlt (ix := t3.toInt) rfl rfl (fun z7 => by exfalso; omega) (fun z7 => ?_)
    refine qm_Ru.go 1 (c' := (15, [.ref 28, .int b, .int y, .int r, .int t3], [.ref 28], (h.1, h.2.1, J4, h.2.2.2))) rfl ?_
    refine hk_getr rfl (hH.1 28 (9, 8) rfl) rfl (hH.2 28 0 (some 6) rfl) ?_
    refine qm_Ru.go 0 (c' := (18, [.ref 28, .int b, .int y, .int r, .int t3], [.ref 6], (h.1, h.2.1, J4, h.2.2.2))) rfl ?_
    refine hk_getr rfl (hH.1 6 (6, 9) rfl) rfl (hH.2 6 5 (some 11) rfl) ?_
    refine qm_Ru.go 1 (c' := (22, [.ref 28, .int b, .int y, .int r, .int t3], [.int b, .ref 11], (h.1, h.2.1, J4, h.2.2.2))) rfl ?_
    obtain ⟨v8, q_v8⟩ : ∃ v, h.2.1 11 (b.toInt.toNat) = v := ⟨_, rfl⟩
    have b_v8 : (0 : Int) ≤ v8.toInt ∧ v8.toInt ≤ 2 := by rw [← q_v8]; exact hB 11 (b.toInt.toNat)
    refine hk_ial (v := v8) rfl (hH.1 11 (0, 30) rfl) (by omega) (by omega) q_v8 ?_
    refine qm_Ru.go 0 (c' := (23, [.ref 28, .int b, .int y, .int r, .int t3], [.int v8], (h.1, h.2.1, J4, h.2.2.2))) rfl ?_
    rw [show pI h.2.1 11 (b.toInt.toNat) = v8.toInt from congrArg Int32.toInt q_v8] at gh
    refine qm_Ru.go 1 (c' := (24, [.ref 28, .int b, .int y, .int r, .int t3], [.int 2, .int v8], (h.1, h.2.1, J4, h.2.2.2))) rfl ?_
    refine hk_cne (ix := v8.toInt) (iy := 2) rfl rfl rfl (fun z9 => ?_) (fun z9 => ?_)
    · refine qm_Ru.go 5 (c' := (49, [.ref 28, .int b, .int y, .int r, .int t3], [.int t3, .int r, .int y, .int b, .ref 28], (h.1, h.2.1, J4, h.2.2.2))) rfl ?_
      refine hk_inv (o := 28) (r := []) (as := [.ref 28, .int b, .int y, .int r, .int t3]) rfl rfl (hH.1 28 (9, 8) rfl) rfl rfl rfl rfl ?_
      refine qm_Ru.go 1 (c' := (1, [.ref 28, .int b, .int y, .int r, .int t3], [.ref 28], (h.1, h.2.1, J4, h.2.2.2))) rfl ?_
      refine hk_getr rfl (hH.1 28 (9, 8) rfl) rfl (hH.2 28 3 (some 36) rfl) ?_
      refine qm_Ru.go 3 (c' := (8, [.ref 28, .int b, .int y, .int r, .int t3], [.int t3, .int r, .int y, .ref 36], (h.1, h.2.1, J4, h.2.2.2))) rfl ?_
      refine qm_Ru.call (j := 75) (as := [.int y, .int r, .int t3]) (c' := (11, [.ref 28, .int b, .int y, .int r, .int t3], [.ref 36], (h.1, h.2.1, J4, h.2.2.2))) rfl rfl rfl ?_
      refine qm_Ru.go 3 (c' := (3, [.int y, .int r, .int t3], [.int (y * 4)], (h.1, h.2.1, J4, h.2.2.2))) rfl ?_
      obtain ⟨v10, q_v10, e_v10⟩ := hk_mul (x := y) (y := 4) (a := y.toInt) (b := 4) rfl rfl (by omega) (by omega)
      rw [q_v10]
      refine qm_Ru.go 2 (c' := (5, [.int y, .int r, .int t3], [.int (v10 + r)], (h.1, h.2.1, J4, h.2.2.2))) rfl ?_
      obtain ⟨v11, q_v11, e_v11⟩ := hk_add (x := v10) (y := r) (a := v10.toInt) (b := r.toInt) rfl rfl (by omega) (by omega)
      rw [q_v11]
      refine qm_Ru.go 2 (c' := (7, [.int y, .int r, .int t3], [.int (v11 * 4)], (h.1, h.2.1, J4, h.2.2.2))) rfl ?_
      obtain ⟨v12, q_v12, e_v12⟩ := hk_mul (x := v11) (y := 4) (a := v11.toInt) (b := 4) rfl rfl (by omega) (by omega)
      rw [q_v12]
      refine qm_Ru.go 2 (c' := (9, [.int y, .int r, .int t3], [.int (v12 + t3)], (h.1, h.2.1, J4, h.2.2.2))) rfl ?_
      obtain ⟨v13, q_v13, e_v13⟩ := hk_add (x := v12) (y := t3) (a := v12.toInt) (b := t3.toInt) rfl rfl (by omega) (by omega)
      rw [q_v13]
      refine qm_Ru.rt (v := (some (.int v13))) (h' := (h.1, h.2.1, J4, h.2.2.2)) rfl ?_
      refine qm_Ru.go 1 (c' := (12, [.ref 28, .int b, .int y, .int r, .int t3], [.int b, .int v13, .ref 36], (h.1, h.2.1, J4, h.2.2.2))) rfl ?_
      refine hk_ias rfl (hH.1 36 (0, 80) rfl) (by omega) (by omega) ?_
      refine qm_Ru.go 4 (c' := (17, [.ref 28, .int b, .int y, .int r, .int t3], [.ref 28, .int r, .int y, .ref 28], (h.1, qm_up h.2.1 36 (v13.toInt.toNat) b, J4, h.2.2.2))) rfl ?_
      refine hk_getr rfl (hH.1 28 (9, 8) rfl) rfl (hH.2 28 0 (some 6) rfl) ?_
      refine qm_Ru.go 0 (c' := (20, [.ref 28, .int b, .int y, .int r, .int t3], [.ref 6, .int r, .int y, .ref 28], (h.1, qm_up h.2.1 36 (v13.toInt.toNat) b, J4, h.2.2.2))) rfl ?_
      refine hk_getr rfl (hH.1 6 (6, 9) rfl) rfl (hH.2 6 1 (some 7) rfl) ?_
      refine qm_Ru.go 1 (c' := (24, [.ref 28, .int b, .int y, .int r, .int t3], [.int b, .ref 7, .int r, .int y, .ref 28], (h.1, qm_up h.2.1 36 (v13.toInt.toNat) b, J4, h.2.2.2))) rfl ?_
      obtain ⟨v14, q_v14⟩ : ∃ v, h.2.1 7 (b.toInt.toNat) = v := ⟨_, rfl⟩
      have b_v14 : (0 : Int) ≤ v14.toInt ∧ v14.toInt ≤ 40 := by rw [← q_v14]; exact hB 7 (b.toInt.toNat)
      refine hk_ial (v := v14) rfl (hH.1 7 (0, 30) rfl) (by omega) (by omega) (show (qm_up h.2.1 36 (v13.toInt.toNat) b) 7 (b.toInt.toNat) = _ from ((hk_ot rfl).trans q_v14)) ?_
      refine qm_Ru.go 0 (c' := (25, [.ref 28, .int b, .int y, .int r, .int t3], [.int v14, .int r, .int y, .ref 28], (h.1, qm_up h.2.1 36 (v13.toInt.toNat) b, J4, h.2.2.2))) rfl ?_
      refine hk_inv (o := 28) (r := []) (as := [.ref 28, .int y, .int r, .int v14]) rfl rfl (hH.1 28 (9, 8) rfl) rfl rfl rfl rfl ?_
      refine qm_Ru.go 2 (c' := (2, [.ref 28, .int y, .int r, .int v14], [.ref 28, .ref 28], (h.1, qm_up h.2.1 36 (v13.toInt.toNat) b, J4, h.2.2.2))) rfl ?_
      obtain ⟨v15, q_v15⟩ : ∃ v, h.2.1 28 6 = v := ⟨_, rfl⟩
      refine hk_geti (v := v15) rfl (hH.1 28 (9, 8) rfl) rfl (show (qm_up h.2.1 36 (v13.toInt.toNat) b) 28 6 = _ from ((hk_ot rfl).trans q_v15)) ?_
      refine qm_Ru.go 2 (c' := (7, [.ref 28, .int y, .int r, .int v14], [.int (v15 + v14), .ref 28], (h.1, qm_up h.2.1 36 (v13.toInt.toNat) b, J4, h.2.2.2))) rfl ?_
      obtain ⟨v16, q_v16⟩ : ∃ v, (v15 + v14) = v := ⟨_, rfl⟩
      rw [q_v16]
      refine hk_puti rfl (hH.1 28 (9, 8) rfl) rfl ?_
      refine qm_Ru.go 1 (c' := (11, [.ref 28, .int y, .int r, .int v14], [.ref 28], (h.1, qm_up (qm_up h.2.1 36 (v13.toInt.toNat) b) 28 6 v16, J4, h.2.2.2))) rfl ?_
      refine hk_getr rfl (hH.1 28 (9, 8) rfl) rfl (hH.2 28 7 (some 37) rfl) ?_
      refine qm_Ru.go 2 (c' := (16, [.ref 28, .int y, .int r, .int v14], [.int y, .ref 37, .int y, .ref 37], (h.1, qm_up (qm_up h.2.1 36 (v13.toInt.toNat) b) 28 6 v16, J4, h.2.2.2))) rfl ?_
      obtain ⟨v17, q_v17⟩ : ∃ v, h.2.1 37 (y.toInt.toNat) = v := ⟨_, rfl⟩
      refine hk_ial (v := v17) rfl (hH.1 37 (0, 5) rfl) (by omega) (by omega) (show (qm_up (qm_up h.2.1 36 (v13.toInt.toNat) b) 28 6 v16) 37 (y.toInt.toNat) = _ from ((hk_ot rfl).trans ((hk_ot rfl).trans q_v17))) ?_
      refine qm_Ru.go 2 (c' := (19, [.ref 28, .int y, .int r, .int v14], [.int (v17 + v14), .int y, .ref 37], (h.1, qm_up (qm_up h.2.1 36 (v13.toInt.toNat) b) 28 6 v16, J4, h.2.2.2))) rfl ?_
      obtain ⟨v18, q_v18⟩ : ∃ v, (v17 + v14) = v := ⟨_, rfl⟩
      rw [q_v18]
      refine hk_ias rfl (hH.1 37 (0, 5) rfl) (by omega) (by omega) ?_
      refine qm_Ru.go 2 (c' := (22, [.ref 28, .int y, .int r, .int v14], [.ref 28, .ref 28], (h.1, qm_up (qm_up (qm_up h.2.1 36 (v13.toInt.toNat) b) 28 6 v16) 37 (y.toInt.toNat) v18, J4, h.2.2.2))) rfl ?_
      obtain ⟨v19, q_v19⟩ : ∃ v, h.2.1 28 5 = v := ⟨_, rfl⟩
      refine hk_geti (v := v19) rfl (hH.1 28 (9, 8) rfl) rfl (show (qm_up (qm_up (qm_up h.2.1 36 (v13.toInt.toNat) b) 28 6 v16) 37 (y.toInt.toNat) v18) 28 5 = _ from ((hk_ot rfl).trans ((hk_neq (by decide)).trans ((hk_ot rfl).trans q_v19)))) ?_
      refine qm_Ru.go 2 (c' := (27, [.ref 28, .int y, .int r, .int v14], [.int r, .int v14, .int v19, .ref 28], (h.1, qm_up (qm_up (qm_up h.2.1 36 (v13.toInt.toNat) b) 28 6 v16) 37 (y.toInt.toNat) v18, J4, h.2.2.2))) rfl ?_
      refine qm_Ru.call (j := 95) (as := [.int r]) (c' := (30, [.ref 28, .int y, .int r, .int v14], [.int v14, .int v19, .ref 28], (h.1, qm_up (qm_up (qm_up h.2.1 36 (v13.toInt.toNat) b) 28 6 v16) 37 (y.toInt.toNat) v18, J4, h.2.2.2))) rfl rfl rfl ?_
      refine qm_Ru.go 3 (c' := (3, [.int r], [.int (2 * r)], (h.1, qm_up (qm_up (qm_up h.2.1 36 (v13.toInt.toNat) b) 28 6 v16) 37 (y.toInt.toNat) v18, J4, h.2.2.2))) rfl ?_
      obtain ⟨v20, q_v20, e_v20⟩ := hk_mul (x := 2) (y := r) (a := 2) (b := r.toInt) rfl rfl (by omega) (by omega)
      rw [q_v20]
      refine qm_Ru.go 2 (c' := (5, [.int r], [.int (v20 - 3)], (h.1, qm_up (qm_up (qm_up h.2.1 36 (v13.toInt.toNat) b) 28 6 v16) 37 (y.toInt.toNat) v18, J4, h.2.2.2))) rfl ?_
      obtain ⟨v21, q_v21, e_v21⟩ := hk_sub (x := v20) (y := 3) (a := v20.toInt) (b := 3) rfl rfl (by omega) (by omega)
      rw [q_v21]
      refine qm_Ru.rt (v := (some (.int v21))) (h' := (h.1, qm_up (qm_up (qm_up h.2.1 36 (v13.toInt.toNat) b) 28 6 v16) 37 (y.toInt.toNat) v18, J4, h.2.2.2)) rfl ?_
      refine qm_Ru.go 1 (c' := (31, [.ref 28, .int y, .int r, .int v14], [.int (v14 * v21), .int v19, .ref 28], (h.1, qm_up (qm_up (qm_up h.2.1 36 (v13.toInt.toNat) b) 28 6 v16) 37 (y.toInt.toNat) v18, J4, h.2.2.2))) rfl ?_
      obtain ⟨v22, q_v22⟩ : ∃ v, (v14 * v21) = v := ⟨_, rfl⟩
      rw [q_v22]
      refine qm_Ru.go 1 (c' := (32, [.ref 28, .int y, .int r, .int v14], [.int (v19 + v22), .ref 28], (h.1, qm_up (qm_up (qm_up h.2.1 36 (v13.toInt.toNat) b) 28 6 v16) 37 (y.toInt.toNat) v18, J4, h.2.2.2))) rfl ?_
      obtain ⟨v23, q_v23⟩ : ∃ v, (v19 + v22) = v := ⟨_, rfl⟩
      rw [q_v23]
      refine hk_puti rfl (hH.1 28 (9, 8) rfl) rfl ?_
      refine qm_Ru.go 0 (c' := (35, [.ref 28, .int y, .int r, .int v14], [], (h.1, qm_up (qm_up (qm_up (qm_up h.2.1 36 (v13.toInt.toNat) b) 28 6 v16) 37 (y.toInt.toNat) v18) 28 5 v23, J4, h.2.2.2))) rfl ?_
      refine qm_Ru.rt (v := none) (h' := (h.1, qm_up (qm_up (qm_up (qm_up h.2.1 36 (v13.toInt.toNat) b) 28 6 v16) 37 (y.toInt.toNat) v18) 28 5 v23, J4, h.2.2.2)) rfl ?_
      refine qm_Ru.go 1 (c' := (29, [.ref 28, .int b, .int y, .int r, .int t3], [.ref 28], (h.1, qm_up (qm_up (qm_up (qm_up h.2.1 36 (v13.toInt.toNat) b) 28 6 v16) 37 (y.toInt.toNat) v18) 28 5 v23, J4, h.2.2.2))) rfl ?_
      refine hk_getr rfl (hH.1 28 (9, 8) rfl) rfl (hH.2 28 0 (some 6) rfl) ?_
      refine qm_Ru.go 5 (c' := (38, [.ref 28, .int b, .int y, .int r, .int t3], [.int t3, .int r, .int y, .int 1, .int b, .ref 6], (h.1, qm_up (qm_up (qm_up (qm_up h.2.1 36 (v13.toInt.toNat) b) 28 6 v16) 37 (y.toInt.toNat) v18) 28 5 v23, J4, h.2.2.2))) rfl ?_
      refine hk_inv (o := 6) (r := []) (as := [.ref 6, .int b, .int 1, .int y, .int r, .int t3]) rfl rfl (hH.1 6 (6, 9) rfl) rfl rfl rfl rfl ?_
      refine qm_Ru.go 1 (c' := (1, [.ref 6, .int b, .int 1, .int y, .int r, .int t3], [.ref 6], (h.1, qm_up (qm_up (qm_up (qm_up h.2.1 36 (v13.toInt.toNat) b) 28 6 v16) 37 (y.toInt.toNat) v18) 28 5 v23, J4, h.2.2.2))) rfl ?_
      refine hk_getr rfl (hH.1 6 (6, 9) rfl) rfl (hH.2 6 5 (some 11) rfl) ?_
      refine qm_Ru.go 2 (c' := (6, [.ref 6, .int b, .int 1, .int y, .int r, .int t3], [.int 1, .int b, .ref 11], (h.1, qm_up (qm_up (qm_up (qm_up h.2.1 36 (v13.toInt.toNat) b) 28 6 v16) 37 (y.toInt.toNat) v18) 28 5 v23, J4, h.2.2.2))) rfl ?_
      refine hk_ias rfl (hH.1 11 (0, 30) rfl) (by omega) (by omega) ?_
      refine qm_Ru.go 1 (c' := (8, [.ref 6, .int b, .int 1, .int y, .int r, .int t3], [.ref 6], (h.1, qm_up (qm_up (qm_up (qm_up (qm_up h.2.1 36 (v13.toInt.toNat) b) 28 6 v16) 37 (y.toInt.toNat) v18) 28 5 v23) 11 (b.toInt.toNat) 1, J4, h.2.2.2))) rfl ?_
      refine hk_getr rfl (hH.1 6 (6, 9) rfl) rfl (hH.2 6 6 (some 12) rfl) ?_
      refine qm_Ru.go 2 (c' := (13, [.ref 6, .int b, .int 1, .int y, .int r, .int t3], [.int y, .int b, .ref 12], (h.1, qm_up (qm_up (qm_up (qm_up (qm_up h.2.1 36 (v13.toInt.toNat) b) 28 6 v16) 37 (y.toInt.toNat) v18) 28 5 v23) 11 (b.toInt.toNat) 1, J4, h.2.2.2))) rfl ?_
      refine hk_ias rfl (hH.1 12 (0, 30) rfl) (by omega) (by omega) ?_
      refine qm_Ru.go 1 (c' := (15, [.ref 6, .int b, .int 1, .int y, .int r, .int t3], [.ref 6], (h.1, qm_up (qm_up (qm_up (qm_up (qm_up (qm_up h.2.1 36 (v13.toInt.toNat) b) 28 6 v16) 37 (y.toInt.toNat) v18) 28 5 v23) 11 (b.toInt.toNat) 1) 12 (b.toInt.toNat) y, J4, h.2.2.2))) rfl ?_
      refine hk_getr rfl (hH.1 6 (6, 9) rfl) rfl (hH.2 6 7 (some 13) rfl) ?_
      refine qm_Ru.go 2 (c' := (21, [.ref 6, .int b, .int 1, .int y, .int r, .int t3], [.int r, .int b, .ref 13], (h.1, qm_up (qm_up (qm_up (qm_up (qm_up (qm_up h.2.1 36 (v13.toInt.toNat) b) 28 6 v16) 37 (y.toInt.toNat) v18) 28 5 v23) 11 (b.toInt.toNat) 1) 12 (b.toInt.toNat) y, J4, h.2.2.2))) rfl ?_
      refine hk_ias rfl (hH.1 13 (0, 30) rfl) (by omega) (by omega) ?_
      refine qm_Ru.go 1 (c' := (23, [.ref 6, .int b, .int 1, .int y, .int r, .int t3], [.ref 6], (h.1, qm_up (qm_up (qm_up (qm_up (qm_up (qm_up (qm_up h.2.1 36 (v13.toInt.toNat) b) 28 6 v16) 37 (y.toInt.toNat) v18) 28 5 v23) 11 (b.toInt.toNat) 1) 12 (b.toInt.toNat) y) 13 (b.toInt.toNat) r, J4, h.2.2.2))) rfl ?_
      refine hk_getr rfl (hH.1 6 (6, 9) rfl) rfl (hH.2 6 8 (some 14) rfl) ?_
      refine qm_Ru.go 2 (c' := (29, [.ref 6, .int b, .int 1, .int y, .int r, .int t3], [.int t3, .int b, .ref 14], (h.1, qm_up (qm_up (qm_up (qm_up (qm_up (qm_up (qm_up h.2.1 36 (v13.toInt.toNat) b) 28 6 v16) 37 (y.toInt.toNat) v18) 28 5 v23) 11 (b.toInt.toNat) 1) 12 (b.toInt.toNat) y) 13 (b.toInt.toNat) r, J4, h.2.2.2))) rfl ?_
      refine hk_ias rfl (hH.1 14 (0, 30) rfl) (by omega) (by omega) ?_
      refine qm_Ru.go 0 (c' := (30, [.ref 6, .int b, .int 1, .int y, .int r, .int t3], [], (h.1, qm_up (qm_up (qm_up (qm_up (qm_up (qm_up (qm_up (qm_up h.2.1 36 (v13.toInt.toNat) b) 28 6 v16) 37 (y.toInt.toNat) v18) 28 5 v23) 11 (b.toInt.toNat) 1) 12 (b.toInt.toNat) y) 13 (b.toInt.toNat) r) 14 (b.toInt.toNat) t3, J4, h.2.2.2))) rfl ?_
      refine qm_Ru.rt (v := none) (h' := (h.1, qm_up (qm_up (qm_up (qm_up (qm_up (qm_up (qm_up (qm_up h.2.1 36 (v13.toInt.toNat) b) 28 6 v16) 37 (y.toInt.toNat) v18) 28 5 v23) 11 (b.toInt.toNat) 1) 12 (b.toInt.toNat) y) 13 (b.toInt.toNat) r) 14 (b.toInt.toNat) t3, J4, h.2.2.2)) rfl ?_
      refine qm_Ru.go 0 (c' := (41, [.ref 28, .int b, .int y, .int r, .int t3], [], (h.1, qm_up (qm_up (qm_up (qm_up (qm_up (qm_up (qm_up (qm_up h.2.1 36 (v13.toInt.toNat) b) 28 6 v16) 37 (y.toInt.toNat) v18) 28 5 v23) 11 (b.toInt.toNat) 1) 12 (b.toInt.toNat) y) 13 (b.toInt.toNat) r) 14 (b.toInt.toNat) t3, J4, h.2.2.2))) rfl ?_
      refine qm_Ru.rt (v := none) (h' := (h.1, qm_up (qm_up (qm_up (qm_up (qm_up (qm_up (qm_up (qm_up h.2.1 36 (v13.toInt.toNat) b) 28 6 v16) 37 (y.toInt.toNat) v18) 28 5 v23) 11 (b.toInt.toNat) 1) 12 (b.toInt.toNat) y) 13 (b.toInt.toNat) r) 14 (b.toInt.toNat) t3, J4, h.2.2.2)) rfl ?_
      refine qm_Ru.go 1 (c' := (54, [.ref 28, .int b, .int y, .int r, .int t3], [.int t3], (h.1, qm_up (qm_up (qm_up (qm_up (qm_up (qm_up (qm_up (qm_up h.2.1 36 (v13.toInt.toNat) b) 28 6 v16) 37 (y.toInt.toNat) v18) 28 5 v23) 11 (b.toInt.toNat) 1) 12 (b.toInt.toNat) y) 13 (b.toInt.toNat) r) 14 (b.toInt.toNat) t3, J4, h.2.2.2))) rfl ?_
      refine qm_Ru.rt (v := (some (.int t3))) (h' := (h.1, qm_up (qm_up (qm_up (qm_up (qm_up (qm_up (qm_up (qm_up h.2.1 36 (v13.toInt.toNat) b) 28 6 v16) 37 (y.toInt.toNat) v18) 28 5 v23) 11 (b.toInt.toNat) 1) 12 (b.toInt.toNat) y) 13 (b.toInt.toNat) r) 14 (b.toInt.toNat) t3, J4, h.2.2.2)) rfl ?_
      exact k (some (.int t3)) (qm_up (qm_up (qm_up (qm_up (qm_up (qm_up (qm_up (qm_up h.2.1 36 (v13.toInt.toNat) b) 28 6 v16) 37 (y.toInt.toNat) v18) 28 5 v23) 11 (b.toInt.toNat) 1) 12 (b.toInt.toNat) y) 13 (b.toInt.toNat) r) 14 (b.toInt.toNat) t3) (J4) ⟨_, rfl, ⟨by show (-3 : Int) ≤ t3.toInt; omega, by show t3.toInt ≤ (3 : Int); omega⟩⟩ (hb_up (o := 14) (k := b.toInt.toNat) (x := t3) (hb_up (o := 13) (k := b.toInt.toNat) (x := r) (hb_up (o := 12) (k := b.toInt.toNat) (x := y) (hb_up (o := 11) (k := b.toInt.toNat) (x := 1) (hb_up (o := 28) (k := 5) (x := v23) (hb_up (o := 37) (k := y.toInt.toNat) (x := v18) (hb_up (o := 28) (k := 6) (x := v16) (hb_up (o := 36) (k := v13.toInt.toNat) (x := b) hB ⟨by show (-1 : Int) ≤ b.toInt; omega, by show b.toInt ≤ (29 : Int); omega⟩) (qa_in_full _)) (qa_in_full _)) (qa_in_full _)) ⟨(show (0 : Int) ≤ 1 from by decide), (show (1 : Int) ≤ 2 from by decide)⟩) ⟨by show (-1 : Int) ≤ y.toInt; omega, by show y.toInt ≤ (4 : Int); omega⟩) ⟨by show (-1 : Int) ≤ r.toInt; omega, by show r.toInt ≤ (3 : Int); omega⟩) ⟨by show (-1 : Int) ≤ t3.toInt; omega, by show t3.toInt ≤ (3 : Int); omega⟩) ⟨⟨(mC_put (I := h.2.1) (I' := qm_up (qm_up (qm_up (qm_up (qm_up (qm_up (qm_up (qm_up h.2.1 36 (v13.toInt.toNat) b) 28 6 v16) 37 (y.toInt.toNat) v18) 28 5 v23) 11 (b.toInt.toNat) 1) 12 (b.toInt.toNat) y) 13 (b.toInt.toNat) r) 14 (b.toInt.toNat) t3) hV.1.1 ((pI_sk rfl).trans ((pI_sk rfl).trans ((pI_sk rfl).trans (pI_up.trans (congrArg (fun f => fu_up f b.toInt.toNat (Int32.toInt 1)) ((pI_sk rfl).trans ((pI_sk rfl).trans ((pI_sk rfl).trans ((pI_sk rfl).trans rfl))))))))) ((pI_sk rfl).trans ((pI_sk rfl).trans (pI_up.trans (congrArg (fun f => fu_up f b.toInt.toNat (Int32.toInt y)) ((pI_sk rfl).trans ((pI_sk rfl).trans ((pI_sk rfl).trans ((pI_sk rfl).trans ((pI_sk rfl).trans rfl))))))))) ((pI_sk rfl).trans (pI_up.trans (congrArg (fun f => fu_up f b.toInt.toNat (Int32.toInt r)) ((pI_sk rfl).trans ((pI_sk rfl).trans ((pI_sk rfl).trans ((pI_sk rfl).trans ((pI_sk rfl).trans ((pI_sk rfl).trans rfl))))))))) (pI_up.trans (congrArg (fun f => fu_up f b.toInt.toNat (Int32.toInt t3)) ((pI_sk rfl).trans ((pI_sk rfl).trans ((pI_sk rfl).trans ((pI_sk rfl).trans ((pI_sk rfl).trans ((pI_sk rfl).trans ((pI_sk rfl).trans rfl))))))))) ((pI_sk rfl).trans ((pI_sk rfl).trans ((pI_sk rfl).trans ((pI_sk rfl).trans ((pI_sk rfl).trans ((pI_sk rfl).trans ((pI_sk rfl).trans (pI_up.trans rfl)))))))) ((pI_sk rfl).trans ((pI_sk rfl).trans ((pI_sk rfl).trans ((pI_sk rfl).trans ((pI_sk rfl).trans ((pI_sk rfl).trans ((pI_sk rfl).trans ((pI_sk rfl).trans rfl)))))))) ((pI_sk rfl).trans ((pI_sk rfl).trans ((pI_sk rfl).trans ((pI_sk rfl).trans ((pI_sk rfl).trans ((pI_sk rfl).trans ((pI_sk rfl).trans ((pI_sk rfl).trans rfl)))))))) rfl (show (h.2.1 11 (b.toInt.toNat)).toInt = 0 from by rw [q_v8]; omega) (congrArg Int32.toInt q_v6) rfl (by omega) (by omega) (by omega) (by omega) (by omega) (by omega)), (mB_put (I := h.2.1) (I' := qm_up (qm_up (qm_up (qm_up (qm_up (qm_up (qm_up (qm_up h.2.1 36 (v13.toInt.toNat) b) 28 6 v16) 37 (y.toInt.toNat) v18) 28 5 v23) 11 (b.toInt.toNat) 1) 12 (b.toInt.toNat) y) 13 (b.toInt.toNat) r) 14 (b.toInt.toNat) t3) (y := y.toInt) (r := r.toInt) (t := t3.toInt) hV.1.2 ((pI_sk rfl).trans ((pI_sk rfl).trans ((pI_sk rfl).trans ((pI_sk rfl).trans ((pI_sk rfl).trans ((pI_sk rfl).trans ((pI_sk rfl).trans (pI_up.trans rfl)))))))) (by omega) (by omega) fb)⟩, hV.2⟩ (fun o ho i => ((hk_mod ho rfl).trans ((hk_mod ho rfl).trans ((hk_mod ho rfl).trans ((hk_mod ho rfl).trans ((hk_mod ho rfl).trans ((hk_mod ho rfl).trans ((hk_mod ho rfl).trans ((hk_mod ho rfl).trans rfl)))))))))
    · refine qm_Ru.go 0 (c' := (27, [.ref 28, .int b, .int y, .int r, .int t3], [], (h.1, h.2.1, J4, h.2.2.2))) rfl ?_
      obtain ⟨v24, q_v24⟩ : ∃ v, h.2.1 12 (b.toInt.toNat) = v := ⟨_, rfl⟩
      have b_v24 : (-1 : Int) ≤ v24.toInt ∧ v24.toInt ≤ 4 := by rw [← q_v24]; exact hB 12 (b.toInt.toNat)
      have r_v24 : (0 : Int) ≤ v24.toInt ∧ v24.toInt ≤ 3 := by rw [← q_v24]; exact ((hV.1.1.2.2.2 (b.toInt.toNat)).2 (show (h.2.1 11 (b.toInt.toNat)).toInt = 2 from by rw [q_v8]; omega)).1
      obtain ⟨v25, q_v25⟩ : ∃ v, h.2.1 17 (v24.toInt.toNat) = v := ⟨_, rfl⟩
      have b_v25 : (0 : Int) ≤ v25.toInt ∧ v25.toInt ≤ 4 := by rw [← q_v25]; exact hB 17 (v24.toInt.toNat)
      rcases gh with gh | ⟨_, gx, g1⟩
      · exfalso; omega
      rw [show pI h.2.1 12 (b.toInt.toNat) = v24.toInt from congrArg Int32.toInt q_v24, show pI h.2.1 17 (v24.toInt.toNat) = v25.toInt from congrArg Int32.toInt q_v25] at gx
      rw [show pI h.2.1 12 (b.toInt.toNat) = v24.toInt from congrArg Int32.toInt q_v24, show pI h.2.1 17 (v24.toInt.toNat) = v25.toInt from congrArg Int32.toInt q_v25] at g1
      refine qm_Ru.go 1 (c' := (28, [.ref 28, .int b, .int y, .int r, .int t3], [.ref 28], (h.1, h.2.1, J4, h.2.2.2))) rfl ?_
      refine hk_getr rfl (hH.1 28 (9, 8) rfl) rfl (hH.2 28 1 (some 15) rfl) ?_
      refine qm_Ru.go 1 (c' := (32, [.ref 28, .int b, .int y, .int r, .int t3], [.ref 28, .ref 15], (h.1, h.2.1, J4, h.2.2.2))) rfl ?_
      refine hk_getr rfl (hH.1 28 (9, 8) rfl) rfl (hH.2 28 0 (some 6) rfl) ?_
      refine qm_Ru.go 0 (c' := (35, [.ref 28, .int b, .int y, .int r, .int t3], [.ref 6, .ref 15], (h.1, h.2.1, J4, h.2.2.2))) rfl ?_
      refine hk_getr rfl (hH.1 6 (6, 9) rfl) rfl (hH.2 6 6 (some 12) rfl) ?_
      refine qm_Ru.go 1 (c' := (39, [.ref 28, .int b, .int y, .int r, .int t3], [.int b, .ref 12, .ref 15], (h.1, h.2.1, J4, h.2.2.2))) rfl ?_
      refine hk_ial (v := v24) rfl (hH.1 12 (0, 30) rfl) (by omega) (by omega) q_v24 ?_
      refine qm_Ru.go 0 (c' := (40, [.ref 28, .int b, .int y, .int r, .int t3], [.int v24, .ref 15], (h.1, h.2.1, J4, h.2.2.2))) rfl ?_
      refine hk_inv (o := 15) (r := []) (as := [.ref 15, .int v24]) rfl rfl (hH.1 15 (15, 8) rfl) rfl rfl rfl rfl ?_
      refine qm_Ru.go 2 (c' := (2, [.ref 15, .int v24, .float 0], [.int v24, .ref 15], (h.1, h.2.1, J4, h.2.2.2))) rfl ?_
      refine hk_inv (o := 15) (r := []) (as := [.ref 15, .int v24]) rfl rfl (hH.1 15 (15, 8) rfl) rfl rfl rfl rfl ?_
      refine qm_Ru.go 1 (c' := (1, [.ref 15, .int v24], [.ref 15], (h.1, h.2.1, J4, h.2.2.2))) rfl ?_
      refine hk_getr rfl (hH.1 15 (15, 8) rfl) rfl (hH.2 15 2 (some 17) rfl) ?_
      refine qm_Ru.go 1 (c' := (5, [.ref 15, .int v24], [.int v24, .ref 17], (h.1, h.2.1, J4, h.2.2.2))) rfl ?_
      refine hk_ial (v := v25) rfl (hH.1 17 (0, 4) rfl) (by omega) (by omega) q_v25 ?_
      refine qm_Ru.go 0 (c' := (6, [.ref 15, .int v24], [.int v25], (h.1, h.2.1, J4, h.2.2.2))) rfl ?_
      refine hk_zne (ix := v25.toInt) rfl rfl (fun z26 => ?_) (fun z26 => by exfalso; omega)
      refine qm_Ru.go 1 (c' := (14, [.ref 15, .int v24], [.ref 15], (h.1, h.2.1, J4, h.2.2.2))) rfl ?_
      refine hk_getr rfl (hH.1 15 (15, 8) rfl) rfl (hH.2 15 1 (some 16) rfl) ?_
      refine qm_Ru.go 3 (c' := (20, [.ref 15, .int v24], [.int (v24 * 4), .ref 16], (h.1, h.2.1, J4, h.2.2.2))) rfl ?_
      obtain ⟨v27, q_v27, e_v27⟩ := hk_mul (x := v24) (y := 4) (a := v24.toInt) (b := 4) rfl rfl (by omega) (by omega)
      rw [q_v27]
      refine qm_Ru.go 1 (c' := (21, [.ref 15, .int v24], [.ref 15, .int v27, .ref 16], (h.1, h.2.1, J4, h.2.2.2))) rfl ?_
      refine hk_getr rfl (hH.1 15 (15, 8) rfl) rfl (hH.2 15 2 (some 17) rfl) ?_
      refine qm_Ru.go 1 (c' := (25, [.ref 15, .int v24], [.int v24, .ref 17, .int v27, .ref 16], (h.1, h.2.1, J4, h.2.2.2))) rfl ?_
      refine hk_ial (v := v25) rfl (hH.1 17 (0, 4) rfl) (by omega) (by omega) q_v25 ?_
      refine qm_Ru.go 1 (c' := (27, [.ref 15, .int v24], [.int (v27 + v25), .ref 16], (h.1, h.2.1, J4, h.2.2.2))) rfl ?_
      obtain ⟨v28, q_v28, e_v28⟩ := hk_add (x := v27) (y := v25) (a := v27.toInt) (b := v25.toInt) rfl rfl (by omega) (by omega)
      rw [q_v28]
      refine qm_Ru.go 2 (c' := (29, [.ref 15, .int v24], [.int (v28 - 1), .ref 16], (h.1, h.2.1, J4, h.2.2.2))) rfl ?_
      obtain ⟨v29, q_v29, e_v29⟩ := hk_sub (x := v28) (y := 1) (a := v28.toInt) (b := 1) rfl rfl (by omega) (by omega)
      rw [q_v29]
      obtain ⟨v30, q_v30⟩ : ∃ v, h.2.1 16 (v29.toInt.toNat) = v := ⟨_, rfl⟩
      have b_v30 : (0 : Int) ≤ v30.toInt ∧ v30.toInt ≤ 29 := by rw [← q_v30]; exact hB 16 (v29.toInt.toNat)
      refine hk_ial (v := v30) rfl (hH.1 16 (0, 16) rfl) (by omega) (by omega) q_v30 ?_
      refine qm_Ru.go 0 (c' := (30, [.ref 15, .int v24], [.int v30], (h.1, h.2.1, J4, h.2.2.2))) rfl ?_
      refine qm_Ru.rt (v := (some (.int v30))) (h' := (h.1, h.2.1, J4, h.2.2.2)) rfl ?_
      refine qm_Ru.go 0 (c' := (5, [.ref 15, .int v24, .float 0], [.int v30], (h.1, h.2.1, J4, h.2.2.2))) rfl ?_
      have x_v30 : v30.toInt = b.toInt := by rw [← gx, show (4 * v24.toInt + v25.toInt - 1).toNat = v29.toInt.toNat from by omega]; exact (congrArg Int32.toInt q_v30).symm
      refine qm_Ru.go 3 (c' := (8, [.ref 15, .int v24, .int v30], [.int (-1), .int v30], (h.1, h.2.1, J4, h.2.2.2))) rfl ?_
      refine hk_ceq (ix := v30.toInt) (iy := (-1)) rfl rfl rfl (fun z31 => by exfalso; omega) (fun z31 => ?_)
      refine qm_Ru.go 1 (c' := (12, [.ref 15, .int v24, .int v30], [.ref 15], (h.1, h.2.1, J4, h.2.2.2))) rfl ?_
      refine hk_getr rfl (hH.1 15 (15, 8) rfl) rfl (hH.2 15 2 (some 17) rfl) ?_
      refine qm_Ru.go 2 (c' := (17, [.ref 15, .int v24, .int v30], [.int v24, .ref 17, .int v24, .ref 17], (h.1, h.2.1, J4, h.2.2.2))) rfl ?_
      refine hk_ial (v := v25) rfl (hH.1 17 (0, 4) rfl) (by omega) (by omega) q_v25 ?_
      refine qm_Ru.go 2 (c' := (20, [.ref 15, .int v24, .int v30], [.int (v25 - 1), .int v24, .ref 17], (h.1, h.2.1, J4, h.2.2.2))) rfl ?_
      obtain ⟨v32, q_v32, e_v32⟩ := hk_sub (x := v25) (y := 1) (a := v25.toInt) (b := 1) rfl rfl (by omega) (by omega)
      rw [q_v32]
      refine hk_ias rfl (hH.1 17 (0, 4) rfl) (by omega) (by omega) ?_
      refine qm_Ru.go 1 (c' := (22, [.ref 15, .int v24, .int v30], [.ref 15], (h.1, qm_up h.2.1 17 (v24.toInt.toNat) v32, J4, h.2.2.2))) rfl ?_
      refine hk_getr rfl (hH.1 15 (15, 8) rfl) rfl (hH.2 15 0 (some 6) rfl) ?_
      refine qm_Ru.go 1 (c' := (26, [.ref 15, .int v24, .int v30], [.int v30, .ref 6], (h.1, qm_up h.2.1 17 (v24.toInt.toNat) v32, J4, h.2.2.2))) rfl ?_
      refine hk_inv (o := 6) (r := []) (as := [.ref 6, .int v30]) rfl rfl (hH.1 6 (6, 9) rfl) rfl rfl rfl rfl ?_
      refine qm_Ru.go 6 (c' := (6, [.ref 6, .int v30], [.int (-1), .int (-1), .int (-1), .int 0, .int v30, .ref 6], (h.1, qm_up h.2.1 17 (v24.toInt.toNat) v32, J4, h.2.2.2))) rfl ?_
      refine hk_inv (o := 6) (r := []) (as := [.ref 6, .int v30, .int 0, .int (-1), .int (-1), .int (-1)]) rfl rfl (hH.1 6 (6, 9) rfl) rfl rfl rfl rfl ?_
      refine qm_Ru.go 1 (c' := (1, [.ref 6, .int v30, .int 0, .int (-1), .int (-1), .int (-1)], [.ref 6], (h.1, qm_up h.2.1 17 (v24.toInt.toNat) v32, J4, h.2.2.2))) rfl ?_
      refine hk_getr rfl (hH.1 6 (6, 9) rfl) rfl (hH.2 6 5 (some 11) rfl) ?_
      refine qm_Ru.go 2 (c' := (6, [.ref 6, .int v30, .int 0, .int (-1), .int (-1), .int (-1)], [.int 0, .int v30, .ref 11], (h.1, qm_up h.2.1 17 (v24.toInt.toNat) v32, J4, h.2.2.2))) rfl ?_
      refine hk_ias rfl (hH.1 11 (0, 30) rfl) (by omega) (by omega) ?_
      refine qm_Ru.go 1 (c' := (8, [.ref 6, .int v30, .int 0, .int (-1), .int (-1), .int (-1)], [.ref 6], (h.1, qm_up (qm_up h.2.1 17 (v24.toInt.toNat) v32) 11 (v30.toInt.toNat) 0, J4, h.2.2.2))) rfl ?_
      refine hk_getr rfl (hH.1 6 (6, 9) rfl) rfl (hH.2 6 6 (some 12) rfl) ?_
      refine qm_Ru.go 2 (c' := (13, [.ref 6, .int v30, .int 0, .int (-1), .int (-1), .int (-1)], [.int (-1), .int v30, .ref 12], (h.1, qm_up (qm_up h.2.1 17 (v24.toInt.toNat) v32) 11 (v30.toInt.toNat) 0, J4, h.2.2.2))) rfl ?_
      refine hk_ias rfl (hH.1 12 (0, 30) rfl) (by omega) (by omega) ?_
      refine qm_Ru.go 1 (c' := (15, [.ref 6, .int v30, .int 0, .int (-1), .int (-1), .int (-1)], [.ref 6], (h.1, qm_up (qm_up (qm_up h.2.1 17 (v24.toInt.toNat) v32) 11 (v30.toInt.toNat) 0) 12 (v30.toInt.toNat) (-1), J4, h.2.2.2))) rfl ?_
      refine hk_getr rfl (hH.1 6 (6, 9) rfl) rfl (hH.2 6 7 (some 13) rfl) ?_
      refine qm_Ru.go 2 (c' := (21, [.ref 6, .int v30, .int 0, .int (-1), .int (-1), .int (-1)], [.int (-1), .int v30, .ref 13], (h.1, qm_up (qm_up (qm_up h.2.1 17 (v24.toInt.toNat) v32) 11 (v30.toInt.toNat) 0) 12 (v30.toInt.toNat) (-1), J4, h.2.2.2))) rfl ?_
      refine hk_ias rfl (hH.1 13 (0, 30) rfl) (by omega) (by omega) ?_
      refine qm_Ru.go 1 (c' := (23, [.ref 6, .int v30, .int 0, .int (-1), .int (-1), .int (-1)], [.ref 6], (h.1, qm_up (qm_up (qm_up (qm_up h.2.1 17 (v24.toInt.toNat) v32) 11 (v30.toInt.toNat) 0) 12 (v30.toInt.toNat) (-1)) 13 (v30.toInt.toNat) (-1), J4, h.2.2.2))) rfl ?_
      refine hk_getr rfl (hH.1 6 (6, 9) rfl) rfl (hH.2 6 8 (some 14) rfl) ?_
      refine qm_Ru.go 2 (c' := (29, [.ref 6, .int v30, .int 0, .int (-1), .int (-1), .int (-1)], [.int (-1), .int v30, .ref 14], (h.1, qm_up (qm_up (qm_up (qm_up h.2.1 17 (v24.toInt.toNat) v32) 11 (v30.toInt.toNat) 0) 12 (v30.toInt.toNat) (-1)) 13 (v30.toInt.toNat) (-1), J4, h.2.2.2))) rfl ?_
      refine hk_ias rfl (hH.1 14 (0, 30) rfl) (by omega) (by omega) ?_
      refine qm_Ru.go 0 (c' := (30, [.ref 6, .int v30, .int 0, .int (-1), .int (-1), .int (-1)], [], (h.1, qm_up (qm_up (qm_up (qm_up (qm_up h.2.1 17 (v24.toInt.toNat) v32) 11 (v30.toInt.toNat) 0) 12 (v30.toInt.toNat) (-1)) 13 (v30.toInt.toNat) (-1)) 14 (v30.toInt.toNat) (-1), J4, h.2.2.2))) rfl ?_
      refine qm_Ru.rt (v := none) (h' := (h.1, qm_up (qm_up (qm_up (qm_up (qm_up h.2.1 17 (v24.toInt.toNat) v32) 11 (v30.toInt.toNat) 0) 12 (v30.toInt.toNat) (-1)) 13 (v30.toInt.toNat) (-1)) 14 (v30.toInt.toNat) (-1), J4, h.2.2.2)) rfl ?_
      refine qm_Ru.go 0 (c' := (9, [.ref 6, .int v30], [], (h.1, qm_up (qm_up (qm_up (qm_up (qm_up h.2.1 17 (v24.toInt.toNat) v32) 11 (v30.toInt.toNat) 0) 12 (v30.toInt.toNat) (-1)) 13 (v30.toInt.toNat) (-1)) 14 (v30.toInt.toNat) (-1), J4, h.2.2.2))) rfl ?_
      refine qm_Ru.rt (v := none) (h' := (h.1, qm_up (qm_up (qm_up (qm_up (qm_up h.2.1 17 (v24.toInt.toNat) v32) 11 (v30.toInt.toNat) 0) 12 (v30.toInt.toNat) (-1)) 13 (v30.toInt.toNat) (-1)) 14 (v30.toInt.toNat) (-1), J4, h.2.2.2)) rfl ?_
      refine qm_Ru.go 0 (c' := (29, [.ref 15, .int v24, .int v30], [], (h.1, qm_up (qm_up (qm_up (qm_up (qm_up h.2.1 17 (v24.toInt.toNat) v32) 11 (v30.toInt.toNat) 0) 12 (v30.toInt.toNat) (-1)) 13 (v30.toInt.toNat) (-1)) 14 (v30.toInt.toNat) (-1), J4, h.2.2.2))) rfl ?_
      refine qm_Ru.rt (v := none) (h' := (h.1, qm_up (qm_up (qm_up (qm_up (qm_up h.2.1 17 (v24.toInt.toNat) v32) 11 (v30.toInt.toNat) 0) 12 (v30.toInt.toNat) (-1)) 13 (v30.toInt.toNat) (-1)) 14 (v30.toInt.toNat) (-1), J4, h.2.2.2)) rfl ?_
      refine qm_Ru.go 5 (c' := (49, [.ref 28, .int b, .int y, .int r, .int t3], [.int t3, .int r, .int y, .int b, .ref 28], (h.1, qm_up (qm_up (qm_up (qm_up (qm_up h.2.1 17 (v24.toInt.toNat) v32) 11 (v30.toInt.toNat) 0) 12 (v30.toInt.toNat) (-1)) 13 (v30.toInt.toNat) (-1)) 14 (v30.toInt.toNat) (-1), J4, h.2.2.2))) rfl ?_
      refine hk_inv (o := 28) (r := []) (as := [.ref 28, .int b, .int y, .int r, .int t3]) rfl rfl (hH.1 28 (9, 8) rfl) rfl rfl rfl rfl ?_
      refine qm_Ru.go 1 (c' := (1, [.ref 28, .int b, .int y, .int r, .int t3], [.ref 28], (h.1, qm_up (qm_up (qm_up (qm_up (qm_up h.2.1 17 (v24.toInt.toNat) v32) 11 (v30.toInt.toNat) 0) 12 (v30.toInt.toNat) (-1)) 13 (v30.toInt.toNat) (-1)) 14 (v30.toInt.toNat) (-1), J4, h.2.2.2))) rfl ?_
      refine hk_getr rfl (hH.1 28 (9, 8) rfl) rfl (hH.2 28 3 (some 36) rfl) ?_
      refine qm_Ru.go 3 (c' := (8, [.ref 28, .int b, .int y, .int r, .int t3], [.int t3, .int r, .int y, .ref 36], (h.1, qm_up (qm_up (qm_up (qm_up (qm_up h.2.1 17 (v24.toInt.toNat) v32) 11 (v30.toInt.toNat) 0) 12 (v30.toInt.toNat) (-1)) 13 (v30.toInt.toNat) (-1)) 14 (v30.toInt.toNat) (-1), J4, h.2.2.2))) rfl ?_
      refine qm_Ru.call (j := 75) (as := [.int y, .int r, .int t3]) (c' := (11, [.ref 28, .int b, .int y, .int r, .int t3], [.ref 36], (h.1, qm_up (qm_up (qm_up (qm_up (qm_up h.2.1 17 (v24.toInt.toNat) v32) 11 (v30.toInt.toNat) 0) 12 (v30.toInt.toNat) (-1)) 13 (v30.toInt.toNat) (-1)) 14 (v30.toInt.toNat) (-1), J4, h.2.2.2))) rfl rfl rfl ?_
      refine qm_Ru.go 3 (c' := (3, [.int y, .int r, .int t3], [.int (y * 4)], (h.1, qm_up (qm_up (qm_up (qm_up (qm_up h.2.1 17 (v24.toInt.toNat) v32) 11 (v30.toInt.toNat) 0) 12 (v30.toInt.toNat) (-1)) 13 (v30.toInt.toNat) (-1)) 14 (v30.toInt.toNat) (-1), J4, h.2.2.2))) rfl ?_
      obtain ⟨v33, q_v33, e_v33⟩ := hk_mul (x := y) (y := 4) (a := y.toInt) (b := 4) rfl rfl (by omega) (by omega)
      rw [q_v33]
      refine qm_Ru.go 2 (c' := (5, [.int y, .int r, .int t3], [.int (v33 + r)], (h.1, qm_up (qm_up (qm_up (qm_up (qm_up h.2.1 17 (v24.toInt.toNat) v32) 11 (v30.toInt.toNat) 0) 12 (v30.toInt.toNat) (-1)) 13 (v30.toInt.toNat) (-1)) 14 (v30.toInt.toNat) (-1), J4, h.2.2.2))) rfl ?_
      obtain ⟨v34, q_v34, e_v34⟩ := hk_add (x := v33) (y := r) (a := v33.toInt) (b := r.toInt) rfl rfl (by omega) (by omega)
      rw [q_v34]
      refine qm_Ru.go 2 (c' := (7, [.int y, .int r, .int t3], [.int (v34 * 4)], (h.1, qm_up (qm_up (qm_up (qm_up (qm_up h.2.1 17 (v24.toInt.toNat) v32) 11 (v30.toInt.toNat) 0) 12 (v30.toInt.toNat) (-1)) 13 (v30.toInt.toNat) (-1)) 14 (v30.toInt.toNat) (-1), J4, h.2.2.2))) rfl ?_
      obtain ⟨v35, q_v35, e_v35⟩ := hk_mul (x := v34) (y := 4) (a := v34.toInt) (b := 4) rfl rfl (by omega) (by omega)
      rw [q_v35]
      refine qm_Ru.go 2 (c' := (9, [.int y, .int r, .int t3], [.int (v35 + t3)], (h.1, qm_up (qm_up (qm_up (qm_up (qm_up h.2.1 17 (v24.toInt.toNat) v32) 11 (v30.toInt.toNat) 0) 12 (v30.toInt.toNat) (-1)) 13 (v30.toInt.toNat) (-1)) 14 (v30.toInt.toNat) (-1), J4, h.2.2.2))) rfl ?_
      obtain ⟨v36, q_v36, e_v36⟩ := hk_add (x := v35) (y := t3) (a := v35.toInt) (b := t3.toInt) rfl rfl (by omega) (by omega)
      rw [q_v36]
      refine qm_Ru.rt (v := (some (.int v36))) (h' := (h.1, qm_up (qm_up (qm_up (qm_up (qm_up h.2.1 17 (v24.toInt.toNat) v32) 11 (v30.toInt.toNat) 0) 12 (v30.toInt.toNat) (-1)) 13 (v30.toInt.toNat) (-1)) 14 (v30.toInt.toNat) (-1), J4, h.2.2.2)) rfl ?_
      refine qm_Ru.go 1 (c' := (12, [.ref 28, .int b, .int y, .int r, .int t3], [.int b, .int v36, .ref 36], (h.1, qm_up (qm_up (qm_up (qm_up (qm_up h.2.1 17 (v24.toInt.toNat) v32) 11 (v30.toInt.toNat) 0) 12 (v30.toInt.toNat) (-1)) 13 (v30.toInt.toNat) (-1)) 14 (v30.toInt.toNat) (-1), J4, h.2.2.2))) rfl ?_
      refine hk_ias rfl (hH.1 36 (0, 80) rfl) (by omega) (by omega) ?_
      refine qm_Ru.go 4 (c' := (17, [.ref 28, .int b, .int y, .int r, .int t3], [.ref 28, .int r, .int y, .ref 28], (h.1, qm_up (qm_up (qm_up (qm_up (qm_up (qm_up h.2.1 17 (v24.toInt.toNat) v32) 11 (v30.toInt.toNat) 0) 12 (v30.toInt.toNat) (-1)) 13 (v30.toInt.toNat) (-1)) 14 (v30.toInt.toNat) (-1)) 36 (v36.toInt.toNat) b, J4, h.2.2.2))) rfl ?_
      refine hk_getr rfl (hH.1 28 (9, 8) rfl) rfl (hH.2 28 0 (some 6) rfl) ?_
      refine qm_Ru.go 0 (c' := (20, [.ref 28, .int b, .int y, .int r, .int t3], [.ref 6, .int r, .int y, .ref 28], (h.1, qm_up (qm_up (qm_up (qm_up (qm_up (qm_up h.2.1 17 (v24.toInt.toNat) v32) 11 (v30.toInt.toNat) 0) 12 (v30.toInt.toNat) (-1)) 13 (v30.toInt.toNat) (-1)) 14 (v30.toInt.toNat) (-1)) 36 (v36.toInt.toNat) b, J4, h.2.2.2))) rfl ?_
      refine hk_getr rfl (hH.1 6 (6, 9) rfl) rfl (hH.2 6 1 (some 7) rfl) ?_
      refine qm_Ru.go 1 (c' := (24, [.ref 28, .int b, .int y, .int r, .int t3], [.int b, .ref 7, .int r, .int y, .ref 28], (h.1, qm_up (qm_up (qm_up (qm_up (qm_up (qm_up h.2.1 17 (v24.toInt.toNat) v32) 11 (v30.toInt.toNat) 0) 12 (v30.toInt.toNat) (-1)) 13 (v30.toInt.toNat) (-1)) 14 (v30.toInt.toNat) (-1)) 36 (v36.toInt.toNat) b, J4, h.2.2.2))) rfl ?_
      obtain ⟨v37, q_v37⟩ : ∃ v, h.2.1 7 (b.toInt.toNat) = v := ⟨_, rfl⟩
      have b_v37 : (0 : Int) ≤ v37.toInt ∧ v37.toInt ≤ 40 := by rw [← q_v37]; exact hB 7 (b.toInt.toNat)
      refine hk_ial (v := v37) rfl (hH.1 7 (0, 30) rfl) (by omega) (by omega) (show (qm_up (qm_up (qm_up (qm_up (qm_up (qm_up h.2.1 17 (v24.toInt.toNat) v32) 11 (v30.toInt.toNat) 0) 12 (v30.toInt.toNat) (-1)) 13 (v30.toInt.toNat) (-1)) 14 (v30.toInt.toNat) (-1)) 36 (v36.toInt.toNat) b) 7 (b.toInt.toNat) = _ from ((hk_ot rfl).trans ((hk_ot rfl).trans ((hk_ot rfl).trans ((hk_ot rfl).trans ((hk_ot rfl).trans ((hk_ot rfl).trans q_v37))))))) ?_
      refine qm_Ru.go 0 (c' := (25, [.ref 28, .int b, .int y, .int r, .int t3], [.int v37, .int r, .int y, .ref 28], (h.1, qm_up (qm_up (qm_up (qm_up (qm_up (qm_up h.2.1 17 (v24.toInt.toNat) v32) 11 (v30.toInt.toNat) 0) 12 (v30.toInt.toNat) (-1)) 13 (v30.toInt.toNat) (-1)) 14 (v30.toInt.toNat) (-1)) 36 (v36.toInt.toNat) b, J4, h.2.2.2))) rfl ?_
      refine hk_inv (o := 28) (r := []) (as := [.ref 28, .int y, .int r, .int v37]) rfl rfl (hH.1 28 (9, 8) rfl) rfl rfl rfl rfl ?_
      refine qm_Ru.go 2 (c' := (2, [.ref 28, .int y, .int r, .int v37], [.ref 28, .ref 28], (h.1, qm_up (qm_up (qm_up (qm_up (qm_up (qm_up h.2.1 17 (v24.toInt.toNat) v32) 11 (v30.toInt.toNat) 0) 12 (v30.toInt.toNat) (-1)) 13 (v30.toInt.toNat) (-1)) 14 (v30.toInt.toNat) (-1)) 36 (v36.toInt.toNat) b, J4, h.2.2.2))) rfl ?_
      obtain ⟨v38, q_v38⟩ : ∃ v, h.2.1 28 6 = v := ⟨_, rfl⟩
      refine hk_geti (v := v38) rfl (hH.1 28 (9, 8) rfl) rfl (show (qm_up (qm_up (qm_up (qm_up (qm_up (qm_up h.2.1 17 (v24.toInt.toNat) v32) 11 (v30.toInt.toNat) 0) 12 (v30.toInt.toNat) (-1)) 13 (v30.toInt.toNat) (-1)) 14 (v30.toInt.toNat) (-1)) 36 (v36.toInt.toNat) b) 28 6 = _ from ((hk_ot rfl).trans ((hk_ot rfl).trans ((hk_ot rfl).trans ((hk_ot rfl).trans ((hk_ot rfl).trans ((hk_ot rfl).trans q_v38))))))) ?_
      refine qm_Ru.go 2 (c' := (7, [.ref 28, .int y, .int r, .int v37], [.int (v38 + v37), .ref 28], (h.1, qm_up (qm_up (qm_up (qm_up (qm_up (qm_up h.2.1 17 (v24.toInt.toNat) v32) 11 (v30.toInt.toNat) 0) 12 (v30.toInt.toNat) (-1)) 13 (v30.toInt.toNat) (-1)) 14 (v30.toInt.toNat) (-1)) 36 (v36.toInt.toNat) b, J4, h.2.2.2))) rfl ?_
      obtain ⟨v39, q_v39⟩ : ∃ v, (v38 + v37) = v := ⟨_, rfl⟩
      rw [q_v39]
      refine hk_puti rfl (hH.1 28 (9, 8) rfl) rfl ?_
      refine qm_Ru.go 1 (c' := (11, [.ref 28, .int y, .int r, .int v37], [.ref 28], (h.1, qm_up (qm_up (qm_up (qm_up (qm_up (qm_up (qm_up h.2.1 17 (v24.toInt.toNat) v32) 11 (v30.toInt.toNat) 0) 12 (v30.toInt.toNat) (-1)) 13 (v30.toInt.toNat) (-1)) 14 (v30.toInt.toNat) (-1)) 36 (v36.toInt.toNat) b) 28 6 v39, J4, h.2.2.2))) rfl ?_
      refine hk_getr rfl (hH.1 28 (9, 8) rfl) rfl (hH.2 28 7 (some 37) rfl) ?_
      refine qm_Ru.go 2 (c' := (16, [.ref 28, .int y, .int r, .int v37], [.int y, .ref 37, .int y, .ref 37], (h.1, qm_up (qm_up (qm_up (qm_up (qm_up (qm_up (qm_up h.2.1 17 (v24.toInt.toNat) v32) 11 (v30.toInt.toNat) 0) 12 (v30.toInt.toNat) (-1)) 13 (v30.toInt.toNat) (-1)) 14 (v30.toInt.toNat) (-1)) 36 (v36.toInt.toNat) b) 28 6 v39, J4, h.2.2.2))) rfl ?_
      obtain ⟨v40, q_v40⟩ : ∃ v, h.2.1 37 (y.toInt.toNat) = v := ⟨_, rfl⟩
      refine hk_ial (v := v40) rfl (hH.1 37 (0, 5) rfl) (by omega) (by omega) (show (qm_up (qm_up (qm_up (qm_up (qm_up (qm_up (qm_up h.2.1 17 (v24.toInt.toNat) v32) 11 (v30.toInt.toNat) 0) 12 (v30.toInt.toNat) (-1)) 13 (v30.toInt.toNat) (-1)) 14 (v30.toInt.toNat) (-1)) 36 (v36.toInt.toNat) b) 28 6 v39) 37 (y.toInt.toNat) = _ from ((hk_ot rfl).trans ((hk_ot rfl).trans ((hk_ot rfl).trans ((hk_ot rfl).trans ((hk_ot rfl).trans ((hk_ot rfl).trans ((hk_ot rfl).trans q_v40)))))))) ?_
      refine qm_Ru.go 2 (c' := (19, [.ref 28, .int y, .int r, .int v37], [.int (v40 + v37), .int y, .ref 37], (h.1, qm_up (qm_up (qm_up (qm_up (qm_up (qm_up (qm_up h.2.1 17 (v24.toInt.toNat) v32) 11 (v30.toInt.toNat) 0) 12 (v30.toInt.toNat) (-1)) 13 (v30.toInt.toNat) (-1)) 14 (v30.toInt.toNat) (-1)) 36 (v36.toInt.toNat) b) 28 6 v39, J4, h.2.2.2))) rfl ?_
      obtain ⟨v41, q_v41⟩ : ∃ v, (v40 + v37) = v := ⟨_, rfl⟩
      rw [q_v41]
      refine hk_ias rfl (hH.1 37 (0, 5) rfl) (by omega) (by omega) ?_
      refine qm_Ru.go 2 (c' := (22, [.ref 28, .int y, .int r, .int v37], [.ref 28, .ref 28], (h.1, qm_up (qm_up (qm_up (qm_up (qm_up (qm_up (qm_up (qm_up h.2.1 17 (v24.toInt.toNat) v32) 11 (v30.toInt.toNat) 0) 12 (v30.toInt.toNat) (-1)) 13 (v30.toInt.toNat) (-1)) 14 (v30.toInt.toNat) (-1)) 36 (v36.toInt.toNat) b) 28 6 v39) 37 (y.toInt.toNat) v41, J4, h.2.2.2))) rfl ?_
      obtain ⟨v42, q_v42⟩ : ∃ v, h.2.1 28 5 = v := ⟨_, rfl⟩
      refine hk_geti (v := v42) rfl (hH.1 28 (9, 8) rfl) rfl (show (qm_up (qm_up (qm_up (qm_up (qm_up (qm_up (qm_up (qm_up h.2.1 17 (v24.toInt.toNat) v32) 11 (v30.toInt.toNat) 0) 12 (v30.toInt.toNat) (-1)) 13 (v30.toInt.toNat) (-1)) 14 (v30.toInt.toNat) (-1)) 36 (v36.toInt.toNat) b) 28 6 v39) 37 (y.toInt.toNat) v41) 28 5 = _ from ((hk_ot rfl).trans ((hk_neq (by decide)).trans ((hk_ot rfl).trans ((hk_ot rfl).trans ((hk_ot rfl).trans ((hk_ot rfl).trans ((hk_ot rfl).trans ((hk_ot rfl).trans q_v42))))))))) ?_
      refine qm_Ru.go 2 (c' := (27, [.ref 28, .int y, .int r, .int v37], [.int r, .int v37, .int v42, .ref 28], (h.1, qm_up (qm_up (qm_up (qm_up (qm_up (qm_up (qm_up (qm_up h.2.1 17 (v24.toInt.toNat) v32) 11 (v30.toInt.toNat) 0) 12 (v30.toInt.toNat) (-1)) 13 (v30.toInt.toNat) (-1)) 14 (v30.toInt.toNat) (-1)) 36 (v36.toInt.toNat) b) 28 6 v39) 37 (y.toInt.toNat) v41, J4, h.2.2.2))) rfl ?_
      refine qm_Ru.call (j := 95) (as := [.int r]) (c' := (30, [.ref 28, .int y, .int r, .int v37], [.int v37, .int v42, .ref 28], (h.1, qm_up (qm_up (qm_up (qm_up (qm_up (qm_up (qm_up (qm_up h.2.1 17 (v24.toInt.toNat) v32) 11 (v30.toInt.toNat) 0) 12 (v30.toInt.toNat) (-1)) 13 (v30.toInt.toNat) (-1)) 14 (v30.toInt.toNat) (-1)) 36 (v36.toInt.toNat) b) 28 6 v39) 37 (y.toInt.toNat) v41, J4, h.2.2.2))) rfl rfl rfl ?_
      refine qm_Ru.go 3 (c' := (3, [.int r], [.int (2 * r)], (h.1, qm_up (qm_up (qm_up (qm_up (qm_up (qm_up (qm_up (qm_up h.2.1 17 (v24.toInt.toNat) v32) 11 (v30.toInt.toNat) 0) 12 (v30.toInt.toNat) (-1)) 13 (v30.toInt.toNat) (-1)) 14 (v30.toInt.toNat) (-1)) 36 (v36.toInt.toNat) b) 28 6 v39) 37 (y.toInt.toNat) v41, J4, h.2.2.2))) rfl ?_
      obtain ⟨v43, q_v43, e_v43⟩ := hk_mul (x := 2) (y := r) (a := 2) (b := r.toInt) rfl rfl (by omega) (by omega)
      rw [q_v43]
      refine qm_Ru.go 2 (c' := (5, [.int r], [.int (v43 - 3)], (h.1, qm_up (qm_up (qm_up (qm_up (qm_up (qm_up (qm_up (qm_up h.2.1 17 (v24.toInt.toNat) v32) 11 (v30.toInt.toNat) 0) 12 (v30.toInt.toNat) (-1)) 13 (v30.toInt.toNat) (-1)) 14 (v30.toInt.toNat) (-1)) 36 (v36.toInt.toNat) b) 28 6 v39) 37 (y.toInt.toNat) v41, J4, h.2.2.2))) rfl ?_
      obtain ⟨v44, q_v44, e_v44⟩ := hk_sub (x := v43) (y := 3) (a := v43.toInt) (b := 3) rfl rfl (by omega) (by omega)
      rw [q_v44]
      refine qm_Ru.rt (v := (some (.int v44))) (h' := (h.1, qm_up (qm_up (qm_up (qm_up (qm_up (qm_up (qm_up (qm_up h.2.1 17 (v24.toInt.toNat) v32) 11 (v30.toInt.toNat) 0) 12 (v30.toInt.toNat) (-1)) 13 (v30.toInt.toNat) (-1)) 14 (v30.toInt.toNat) (-1)) 36 (v36.toInt.toNat) b) 28 6 v39) 37 (y.toInt.toNat) v41, J4, h.2.2.2)) rfl ?_
      refine qm_Ru.go 1 (c' := (31, [.ref 28, .int y, .int r, .int v37], [.int (v37 * v44), .int v42, .ref 28], (h.1, qm_up (qm_up (qm_up (qm_up (qm_up (qm_up (qm_up (qm_up h.2.1 17 (v24.toInt.toNat) v32) 11 (v30.toInt.toNat) 0) 12 (v30.toInt.toNat) (-1)) 13 (v30.toInt.toNat) (-1)) 14 (v30.toInt.toNat) (-1)) 36 (v36.toInt.toNat) b) 28 6 v39) 37 (y.toInt.toNat) v41, J4, h.2.2.2))) rfl ?_
      obtain ⟨v45, q_v45⟩ : ∃ v, (v37 * v44) = v := ⟨_, rfl⟩
      rw [q_v45]
      refine qm_Ru.go 1 (c' := (32, [.ref 28, .int y, .int r, .int v37], [.int (v42 + v45), .ref 28], (h.1, qm_up (qm_up (qm_up (qm_up (qm_up (qm_up (qm_up (qm_up h.2.1 17 (v24.toInt.toNat) v32) 11 (v30.toInt.toNat) 0) 12 (v30.toInt.toNat) (-1)) 13 (v30.toInt.toNat) (-1)) 14 (v30.toInt.toNat) (-1)) 36 (v36.toInt.toNat) b) 28 6 v39) 37 (y.toInt.toNat) v41, J4, h.2.2.2))) rfl ?_
      obtain ⟨v46, q_v46⟩ : ∃ v, (v42 + v45) = v := ⟨_, rfl⟩
      rw [q_v46]
      refine hk_puti rfl (hH.1 28 (9, 8) rfl) rfl ?_
      refine qm_Ru.go 0 (c' := (35, [.ref 28, .int y, .int r, .int v37], [], (h.1, qm_up (qm_up (qm_up (qm_up (qm_up (qm_up (qm_up (qm_up (qm_up h.2.1 17 (v24.toInt.toNat) v32) 11 (v30.toInt.toNat) 0) 12 (v30.toInt.toNat) (-1)) 13 (v30.toInt.toNat) (-1)) 14 (v30.toInt.toNat) (-1)) 36 (v36.toInt.toNat) b) 28 6 v39) 37 (y.toInt.toNat) v41) 28 5 v46, J4, h.2.2.2))) rfl ?_
      refine qm_Ru.rt (v := none) (h' := (h.1, qm_up (qm_up (qm_up (qm_up (qm_up (qm_up (qm_up (qm_up (qm_up h.2.1 17 (v24.toInt.toNat) v32) 11 (v30.toInt.toNat) 0) 12 (v30.toInt.toNat) (-1)) 13 (v30.toInt.toNat) (-1)) 14 (v30.toInt.toNat) (-1)) 36 (v36.toInt.toNat) b) 28 6 v39) 37 (y.toInt.toNat) v41) 28 5 v46, J4, h.2.2.2)) rfl ?_
      refine qm_Ru.go 1 (c' := (29, [.ref 28, .int b, .int y, .int r, .int t3], [.ref 28], (h.1, qm_up (qm_up (qm_up (qm_up (qm_up (qm_up (qm_up (qm_up (qm_up h.2.1 17 (v24.toInt.toNat) v32) 11 (v30.toInt.toNat) 0) 12 (v30.toInt.toNat) (-1)) 13 (v30.toInt.toNat) (-1)) 14 (v30.toInt.toNat) (-1)) 36 (v36.toInt.toNat) b) 28 6 v39) 37 (y.toInt.toNat) v41) 28 5 v46, J4, h.2.2.2))) rfl ?_
      refine hk_getr rfl (hH.1 28 (9, 8) rfl) rfl (hH.2 28 0 (some 6) rfl) ?_
      refine qm_Ru.go 5 (c' := (38, [.ref 28, .int b, .int y, .int r, .int t3], [.int t3, .int r, .int y, .int 1, .int b, .ref 6], (h.1, qm_up (qm_up (qm_up (qm_up (qm_up (qm_up (qm_up (qm_up (qm_up h.2.1 17 (v24.toInt.toNat) v32) 11 (v30.toInt.toNat) 0) 12 (v30.toInt.toNat) (-1)) 13 (v30.toInt.toNat) (-1)) 14 (v30.toInt.toNat) (-1)) 36 (v36.toInt.toNat) b) 28 6 v39) 37 (y.toInt.toNat) v41) 28 5 v46, J4, h.2.2.2))) rfl ?_
      refine hk_inv (o := 6) (r := []) (as := [.ref 6, .int b, .int 1, .int y, .int r, .int t3]) rfl rfl (hH.1 6 (6, 9) rfl) rfl rfl rfl rfl ?_
      refine qm_Ru.go 1 (c' := (1, [.ref 6, .int b, .int 1, .int y, .int r, .int t3], [.ref 6], (h.1, qm_up (qm_up (qm_up (qm_up (qm_up (qm_up (qm_up (qm_up (qm_up h.2.1 17 (v24.toInt.toNat) v32) 11 (v30.toInt.toNat) 0) 12 (v30.toInt.toNat) (-1)) 13 (v30.toInt.toNat) (-1)) 14 (v30.toInt.toNat) (-1)) 36 (v36.toInt.toNat) b) 28 6 v39) 37 (y.toInt.toNat) v41) 28 5 v46, J4, h.2.2.2))) rfl ?_
      refine hk_getr rfl (hH.1 6 (6, 9) rfl) rfl (hH.2 6 5 (some 11) rfl) ?_
      refine qm_Ru.go 2 (c' := (6, [.ref 6, .int b, .int 1, .int y, .int r, .int t3], [.int 1, .int b, .ref 11], (h.1, qm_up (qm_up (qm_up (qm_up (qm_up (qm_up (qm_up (qm_up (qm_up h.2.1 17 (v24.toInt.toNat) v32) 11 (v30.toInt.toNat) 0) 12 (v30.toInt.toNat) (-1)) 13 (v30.toInt.toNat) (-1)) 14 (v30.toInt.toNat) (-1)) 36 (v36.toInt.toNat) b) 28 6 v39) 37 (y.toInt.toNat) v41) 28 5 v46, J4, h.2.2.2))) rfl ?_
      refine hk_ias rfl (hH.1 11 (0, 30) rfl) (by omega) (by omega) ?_
      refine qm_Ru.go 1 (c' := (8, [.ref 6, .int b, .int 1, .int y, .int r, .int t3], [.ref 6], (h.1, qm_up (qm_up (qm_up (qm_up (qm_up (qm_up (qm_up (qm_up (qm_up (qm_up h.2.1 17 (v24.toInt.toNat) v32) 11 (v30.toInt.toNat) 0) 12 (v30.toInt.toNat) (-1)) 13 (v30.toInt.toNat) (-1)) 14 (v30.toInt.toNat) (-1)) 36 (v36.toInt.toNat) b) 28 6 v39) 37 (y.toInt.toNat) v41) 28 5 v46) 11 (b.toInt.toNat) 1, J4, h.2.2.2))) rfl ?_
      refine hk_getr rfl (hH.1 6 (6, 9) rfl) rfl (hH.2 6 6 (some 12) rfl) ?_
      refine qm_Ru.go 2 (c' := (13, [.ref 6, .int b, .int 1, .int y, .int r, .int t3], [.int y, .int b, .ref 12], (h.1, qm_up (qm_up (qm_up (qm_up (qm_up (qm_up (qm_up (qm_up (qm_up (qm_up h.2.1 17 (v24.toInt.toNat) v32) 11 (v30.toInt.toNat) 0) 12 (v30.toInt.toNat) (-1)) 13 (v30.toInt.toNat) (-1)) 14 (v30.toInt.toNat) (-1)) 36 (v36.toInt.toNat) b) 28 6 v39) 37 (y.toInt.toNat) v41) 28 5 v46) 11 (b.toInt.toNat) 1, J4, h.2.2.2))) rfl ?_
      refine hk_ias rfl (hH.1 12 (0, 30) rfl) (by omega) (by omega) ?_
      refine qm_Ru.go 1 (c' := (15, [.ref 6, .int b, .int 1, .int y, .int r, .int t3], [.ref 6], (h.1, qm_up (qm_up (qm_up (qm_up (qm_up (qm_up (qm_up (qm_up (qm_up (qm_up (qm_up h.2.1 17 (v24.toInt.toNat) v32) 11 (v30.toInt.toNat) 0) 12 (v30.toInt.toNat) (-1)) 13 (v30.toInt.toNat) (-1)) 14 (v30.toInt.toNat) (-1)) 36 (v36.toInt.toNat) b) 28 6 v39) 37 (y.toInt.toNat) v41) 28 5 v46) 11 (b.toInt.toNat) 1) 12 (b.toInt.toNat) y, J4, h.2.2.2))) rfl ?_
      refine hk_getr rfl (hH.1 6 (6, 9) rfl) rfl (hH.2 6 7 (some 13) rfl) ?_
      refine qm_Ru.go 2 (c' := (21, [.ref 6, .int b, .int 1, .int y, .int r, .int t3], [.int r, .int b, .ref 13], (h.1, qm_up (qm_up (qm_up (qm_up (qm_up (qm_up (qm_up (qm_up (qm_up (qm_up (qm_up h.2.1 17 (v24.toInt.toNat) v32) 11 (v30.toInt.toNat) 0) 12 (v30.toInt.toNat) (-1)) 13 (v30.toInt.toNat) (-1)) 14 (v30.toInt.toNat) (-1)) 36 (v36.toInt.toNat) b) 28 6 v39) 37 (y.toInt.toNat) v41) 28 5 v46) 11 (b.toInt.toNat) 1) 12 (b.toInt.toNat) y, J4, h.2.2.2))) rfl ?_
      refine hk_ias rfl (hH.1 13 (0, 30) rfl) (by omega) (by omega) ?_
      refine qm_Ru.go 1 (c' := (23, [.ref 6, .int b, .int 1, .int y, .int r, .int t3], [.ref 6], (h.1, qm_up (qm_up (qm_up (qm_up (qm_up (qm_up (qm_up (qm_up (qm_up (qm_up (qm_up (qm_up h.2.1 17 (v24.toInt.toNat) v32) 11 (v30.toInt.toNat) 0) 12 (v30.toInt.toNat) (-1)) 13 (v30.toInt.toNat) (-1)) 14 (v30.toInt.toNat) (-1)) 36 (v36.toInt.toNat) b) 28 6 v39) 37 (y.toInt.toNat) v41) 28 5 v46) 11 (b.toInt.toNat) 1) 12 (b.toInt.toNat) y) 13 (b.toInt.toNat) r, J4, h.2.2.2))) rfl ?_
      refine hk_getr rfl (hH.1 6 (6, 9) rfl) rfl (hH.2 6 8 (some 14) rfl) ?_
      refine qm_Ru.go 2 (c' := (29, [.ref 6, .int b, .int 1, .int y, .int r, .int t3], [.int t3, .int b, .ref 14], (h.1, qm_up (qm_up (qm_up (qm_up (qm_up (qm_up (qm_up (qm_up (qm_up (qm_up (qm_up (qm_up h.2.1 17 (v24.toInt.toNat) v32) 11 (v30.toInt.toNat) 0) 12 (v30.toInt.toNat) (-1)) 13 (v30.toInt.toNat) (-1)) 14 (v30.toInt.toNat) (-1)) 36 (v36.toInt.toNat) b) 28 6 v39) 37 (y.toInt.toNat) v41) 28 5 v46) 11 (b.toInt.toNat) 1) 12 (b.toInt.toNat) y) 13 (b.toInt.toNat) r, J4, h.2.2.2))) rfl ?_
      refine hk_ias rfl (hH.1 14 (0, 30) rfl) (by omega) (by omega) ?_
      refine qm_Ru.go 0 (c' := (30, [.ref 6, .int b, .int 1, .int y, .int r, .int t3], [], (h.1, qm_up (qm_up (qm_up (qm_up (qm_up (qm_up (qm_up (qm_up (qm_up (qm_up (qm_up (qm_up (qm_up h.2.1 17 (v24.toInt.toNat) v32) 11 (v30.toInt.toNat) 0) 12 (v30.toInt.toNat) (-1)) 13 (v30.toInt.toNat) (-1)) 14 (v30.toInt.toNat) (-1)) 36 (v36.toInt.toNat) b) 28 6 v39) 37 (y.toInt.toNat) v41) 28 5 v46) 11 (b.toInt.toNat) 1) 12 (b.toInt.toNat) y) 13 (b.toInt.toNat) r) 14 (b.toInt.toNat) t3, J4, h.2.2.2))) rfl ?_
      refine qm_Ru.rt (v := none) (h' := (h.1, qm_up (qm_up (qm_up (qm_up (qm_up (qm_up (qm_up (qm_up (qm_up (qm_up (qm_up (qm_up (qm_up h.2.1 17 (v24.toInt.toNat) v32) 11 (v30.toInt.toNat) 0) 12 (v30.toInt.toNat) (-1)) 13 (v30.toInt.toNat) (-1)) 14 (v30.toInt.toNat) (-1)) 36 (v36.toInt.toNat) b) 28 6 v39) 37 (y.toInt.toNat) v41) 28 5 v46) 11 (b.toInt.toNat) 1) 12 (b.toInt.toNat) y) 13 (b.toInt.toNat) r) 14 (b.toInt.toNat) t3, J4, h.2.2.2)) rfl ?_
      refine qm_Ru.go 0 (c' := (41, [.ref 28, .int b, .int y, .int r, .int t3], [], (h.1, qm_up (qm_up (qm_up (qm_up (qm_up (qm_up (qm_up (qm_up (qm_up (qm_up (qm_up (qm_up (qm_up h.2.1 17 (v24.toInt.toNat) v32) 11 (v30.toInt.toNat) 0) 12 (v30.toInt.toNat) (-1)) 13 (v30.toInt.toNat) (-1)) 14 (v30.toInt.toNat) (-1)) 36 (v36.toInt.toNat) b) 28 6 v39) 37 (y.toInt.toNat) v41) 28 5 v46) 11 (b.toInt.toNat) 1) 12 (b.toInt.toNat) y) 13 (b.toInt.toNat) r) 14 (b.toInt.toNat) t3, J4, h.2.2.2))) rfl ?_
      refine qm_Ru.rt (v := none) (h' := (h.1, qm_up (qm_up (qm_up (qm_up (qm_up (qm_up (qm_up (qm_up (qm_up (qm_up (qm_up (qm_up (qm_up h.2.1 17 (v24.toInt.toNat) v32) 11 (v30.toInt.toNat) 0) 12 (v30.toInt.toNat) (-1)) 13 (v30.toInt.toNat) (-1)) 14 (v30.toInt.toNat) (-1)) 36 (v36.toInt.toNat) b) 28 6 v39) 37 (y.toInt.toNat) v41) 28 5 v46) 11 (b.toInt.toNat) 1) 12 (b.toInt.toNat) y) 13 (b.toInt.toNat) r) 14 (b.toInt.toNat) t3, J4, h.2.2.2)) rfl ?_
      refine qm_Ru.go 1 (c' := (54, [.ref 28, .int b, .int y, .int r, .int t3], [.int t3], (h.1, qm_up (qm_up (qm_up (qm_up (qm_up (qm_up (qm_up (qm_up (qm_up (qm_up (qm_up (qm_up (qm_up h.2.1 17 (v24.toInt.toNat) v32) 11 (v30.toInt.toNat) 0) 12 (v30.toInt.toNat) (-1)) 13 (v30.toInt.toNat) (-1)) 14 (v30.toInt.toNat) (-1)) 36 (v36.toInt.toNat) b) 28 6 v39) 37 (y.toInt.toNat) v41) 28 5 v46) 11 (b.toInt.toNat) 1) 12 (b.toInt.toNat) y) 13 (b.toInt.toNat) r) 14 (b.toInt.toNat) t3, J4, h.2.2.2))) rfl ?_
      refine qm_Ru.rt (v := (some (.int t3))) (h' := (h.1, qm_up (qm_up (qm_up (qm_up (qm_up (qm_up (qm_up (qm_up (qm_up (qm_up (qm_up (qm_up (qm_up h.2.1 17 (v24.toInt.toNat) v32) 11 (v30.toInt.toNat) 0) 12 (v30.toInt.toNat) (-1)) 13 (v30.toInt.toNat) (-1)) 14 (v30.toInt.toNat) (-1)) 36 (v36.toInt.toNat) b) 28 6 v39) 37 (y.toInt.toNat) v41) 28 5 v46) 11 (b.toInt.toNat) 1) 12 (b.toInt.toNat) y) 13 (b.toInt.toNat) r) 14 (b.toInt.toNat) t3, J4, h.2.2.2)) rfl ?_
      exact k (some (.int t3)) (qm_up (qm_up (qm_up (qm_up (qm_up (qm_up (qm_up (qm_up (qm_up (qm_up (qm_up (qm_up (qm_up h.2.1 17 (v24.toInt.toNat) v32) 11 (v30.toInt.toNat) 0) 12 (v30.toInt.toNat) (-1)) 13 (v30.toInt.toNat) (-1)) 14 (v30.toInt.toNat) (-1)) 36 (v36.toInt.toNat) b) 28 6 v39) 37 (y.toInt.toNat) v41) 28 5 v46) 11 (b.toInt.toNat) 1) 12 (b.toInt.toNat) y) 13 (b.toInt.toNat) r) 14 (b.toInt.toNat) t3) (J4) ⟨_, rfl, ⟨by show (-3 : Int) ≤ t3.toInt; omega, by show t3.toInt ≤ (3 : Int); omega⟩⟩ (hb_up (o := 14) (k := b.toInt.toNat) (x := t3) (hb_up (o := 13) (k := b.toInt.toNat) (x := r) (hb_up (o := 12) (k := b.toInt.toNat) (x := y) (hb_up (o := 11) (k := b.toInt.toNat) (x := 1) (hb_up (o := 28) (k := 5) (x := v46) (hb_up (o := 37) (k := y.toInt.toNat) (x := v41) (hb_up (o := 28) (k := 6) (x := v39) (hb_up (o := 36) (k := v36.toInt.toNat) (x := b) (hb_up (o := 14) (k := v30.toInt.toNat) (x := (-1)) (hb_up (o := 13) (k := v30.toInt.toNat) (x := (-1)) (hb_up (o := 12) (k := v30.toInt.toNat) (x := (-1)) (hb_up (o := 11) (k := v30.toInt.toNat) (x := 0) (hb_up (o := 17) (k := v24.toInt.toNat) (x := v32) hB ⟨by show (0 : Int) ≤ v32.toInt; omega, by show v32.toInt ≤ (4 : Int); omega⟩) ⟨(show (0 : Int) ≤ 0 from by decide), (show (0 : Int) ≤ 2 from by decide)⟩) ⟨(show (-1 : Int) ≤ -1 from by decide), (show (-1 : Int) ≤ 4 from by decide)⟩) ⟨(show (-1 : Int) ≤ -1 from by decide), (show (-1 : Int) ≤ 3 from by decide)⟩) ⟨(show (-1 : Int) ≤ -1 from by decide), (show (-1 : Int) ≤ 3 from by decide)⟩) ⟨by show (-1 : Int) ≤ b.toInt; omega, by show b.toInt ≤ (29 : Int); omega⟩) (qa_in_full _)) (qa_in_full _)) (qa_in_full _)) ⟨(show (0 : Int) ≤ 1 from by decide), (show (1 : Int) ≤ 2 from by decide)⟩) ⟨by show (-1 : Int) ≤ y.toInt; omega, by show y.toInt ≤ (4 : Int); omega⟩) ⟨by show (-1 : Int) ≤ r.toInt; omega, by show r.toInt ≤ (3 : Int); omega⟩) ⟨by show (-1 : Int) ≤ t3.toInt; omega, by show t3.toInt ≤ (3 : Int); omega⟩) ⟨⟨(mC_put (I := qm_up (qm_up (qm_up (qm_up (qm_up h.2.1 17 (v24.toInt.toNat) v32) 11 (v30.toInt.toNat) 0) 12 (v30.toInt.toNat) (-1)) 13 (v30.toInt.toNat) (-1)) 14 (v30.toInt.toNat) (-1)) (I' := qm_up (qm_up (qm_up (qm_up (qm_up (qm_up (qm_up (qm_up (qm_up (qm_up (qm_up (qm_up (qm_up h.2.1 17 (v24.toInt.toNat) v32) 11 (v30.toInt.toNat) 0) 12 (v30.toInt.toNat) (-1)) 13 (v30.toInt.toNat) (-1)) 14 (v30.toInt.toNat) (-1)) 36 (v36.toInt.toNat) b) 28 6 v39) 37 (y.toInt.toNat) v41) 28 5 v46) 11 (b.toInt.toNat) 1) 12 (b.toInt.toNat) y) 13 (b.toInt.toNat) r) 14 (b.toInt.toNat) t3) (mC_take (I := h.2.1) (I' := qm_up (qm_up (qm_up (qm_up (qm_up h.2.1 17 (v24.toInt.toNat) v32) 11 (v30.toInt.toNat) 0) 12 (v30.toInt.toNat) (-1)) 13 (v30.toInt.toNat) (-1)) 14 (v30.toInt.toNat) (-1)) hV.1.1 ((pI_sk rfl).trans ((pI_sk rfl).trans ((pI_sk rfl).trans (pI_up.trans (congrArg (fun f => fu_up f v30.toInt.toNat (Int32.toInt 0)) ((pI_sk rfl).trans rfl)))))) ((pI_sk rfl).trans ((pI_sk rfl).trans (pI_up.trans (congrArg (fun f => fu_up f v30.toInt.toNat (Int32.toInt ((-1)))) ((pI_sk rfl).trans ((pI_sk rfl).trans rfl)))))) ((pI_sk rfl).trans (pI_up.trans (congrArg (fun f => fu_up f v30.toInt.toNat (Int32.toInt ((-1)))) ((pI_sk rfl).trans ((pI_sk rfl).trans ((pI_sk rfl).trans rfl)))))) (pI_up.trans (congrArg (fun f => fu_up f v30.toInt.toNat (Int32.toInt ((-1)))) ((pI_sk rfl).trans ((pI_sk rfl).trans ((pI_sk rfl).trans ((pI_sk rfl).trans rfl)))))) ((pI_sk rfl).trans ((pI_sk rfl).trans ((pI_sk rfl).trans ((pI_sk rfl).trans ((pI_sk rfl).trans rfl))))) ((pI_sk rfl).trans ((pI_sk rfl).trans ((pI_sk rfl).trans ((pI_sk rfl).trans ((pI_sk rfl).trans rfl))))) ((pI_sk rfl).trans ((pI_sk rfl).trans ((pI_sk rfl).trans ((pI_sk rfl).trans (pI_up.trans rfl))))) rfl (congrArg Int32.toInt q_v25) (show (h.2.1 16 (v29.toInt.toNat)).toInt.toNat = v30.toInt.toNat from by rw [q_v30]) rfl (by omega) (by omega) (by omega) (by omega) (by omega)) ((pI_sk rfl).trans ((pI_sk rfl).trans ((pI_sk rfl).trans (pI_up.trans (congrArg (fun f => fu_up f b.toInt.toNat (Int32.toInt 1)) ((pI_sk rfl).trans ((pI_sk rfl).trans ((pI_sk rfl).trans ((pI_sk rfl).trans rfl))))))))) ((pI_sk rfl).trans ((pI_sk rfl).trans (pI_up.trans (congrArg (fun f => fu_up f b.toInt.toNat (Int32.toInt y)) ((pI_sk rfl).trans ((pI_sk rfl).trans ((pI_sk rfl).trans ((pI_sk rfl).trans ((pI_sk rfl).trans rfl))))))))) ((pI_sk rfl).trans (pI_up.trans (congrArg (fun f => fu_up f b.toInt.toNat (Int32.toInt r)) ((pI_sk rfl).trans ((pI_sk rfl).trans ((pI_sk rfl).trans ((pI_sk rfl).trans ((pI_sk rfl).trans ((pI_sk rfl).trans rfl))))))))) (pI_up.trans (congrArg (fun f => fu_up f b.toInt.toNat (Int32.toInt t3)) ((pI_sk rfl).trans ((pI_sk rfl).trans ((pI_sk rfl).trans ((pI_sk rfl).trans ((pI_sk rfl).trans ((pI_sk rfl).trans ((pI_sk rfl).trans rfl))))))))) ((pI_sk rfl).trans ((pI_sk rfl).trans ((pI_sk rfl).trans ((pI_sk rfl).trans ((pI_sk rfl).trans ((pI_sk rfl).trans ((pI_sk rfl).trans (pI_up.trans rfl)))))))) ((pI_sk rfl).trans ((pI_sk rfl).trans ((pI_sk rfl).trans ((pI_sk rfl).trans ((pI_sk rfl).trans ((pI_sk rfl).trans ((pI_sk rfl).trans ((pI_sk rfl).trans rfl)))))))) ((pI_sk rfl).trans ((pI_sk rfl).trans ((pI_sk rfl).trans ((pI_sk rfl).trans ((pI_sk rfl).trans ((pI_sk rfl).trans ((pI_sk rfl).trans ((pI_sk rfl).trans rfl)))))))) rfl (congrArg Int32.toInt ((hk_ot rfl).trans ((hk_ot rfl).trans ((hk_ot rfl).trans (hk_equ (by omega)))))) (congrArg Int32.toInt q_v6) rfl (by omega) (by omega) (by omega) (by omega) (by omega) (by omega)), (mB_put (I := qm_up (qm_up (qm_up (qm_up (qm_up h.2.1 17 (v24.toInt.toNat) v32) 11 (v30.toInt.toNat) 0) 12 (v30.toInt.toNat) (-1)) 13 (v30.toInt.toNat) (-1)) 14 (v30.toInt.toNat) (-1)) (I' := qm_up (qm_up (qm_up (qm_up (qm_up (qm_up (qm_up (qm_up (qm_up (qm_up (qm_up (qm_up (qm_up h.2.1 17 (v24.toInt.toNat) v32) 11 (v30.toInt.toNat) 0) 12 (v30.toInt.toNat) (-1)) 13 (v30.toInt.toNat) (-1)) 14 (v30.toInt.toNat) (-1)) 36 (v36.toInt.toNat) b) 28 6 v39) 37 (y.toInt.toNat) v41) 28 5 v46) 11 (b.toInt.toNat) 1) 12 (b.toInt.toNat) y) 13 (b.toInt.toNat) r) 14 (b.toInt.toNat) t3) (y := y.toInt) (r := r.toInt) (t := t3.toInt) hV.1.2 ((pI_sk rfl).trans ((pI_sk rfl).trans ((pI_sk rfl).trans ((pI_sk rfl).trans ((pI_sk rfl).trans ((pI_sk rfl).trans ((pI_sk rfl).trans (pI_up.trans rfl)))))))) (by omega) (by omega) fb)⟩, hV.2⟩ (fun o ho i => ((hk_mod ho rfl).trans ((hk_mod ho rfl).trans ((hk_mod ho rfl).trans ((hk_mod ho rfl).trans ((hk_mod ho rfl).trans ((hk_mod ho rfl).trans ((hk_mod ho rfl).trans ((hk_mod ho rfl).trans ((hk_mod ho rfl).trans ((hk_mod ho rfl).trans ((hk_mod ho rfl).trans ((hk_mod ho rfl).trans ((hk_mod ho rfl).trans rfl))))))))))))))
theorem hc_loading111 : hk_ct v_C (fun h => h.2.2.2 0 9 = some 29 ∧ h.2.2.2 28 2 = some 111) (fun as I => ∃ b y r : Int32, as = [.ref 28, .int b, .int y, .int r] ∧ qa_in (-2147483648, 2147483647) b ∧ qa_in (-2147483648, 2147483647) y ∧ qa_in (-2147483648, 2147483647) r) 86 (some (-3, 3)) [6, 7, 8, 9, 10, 11, 12, 13, 14, 16, 17, 28, 36, 37] 40 := by
  intro L xs d Z h as h6 hH hT hB hV hp hd k
  obtain ⟨b, y, r, rfl, c_b, c_y, c_r⟩ := hp
  obtain ⟨d, rfl⟩ : ∃ e, d = e + 40 := ⟨d - 40, by omega⟩
  have b_b : (-2147483648 : Int) ≤ b.toInt ∧ b.toInt ≤ 2147483647 := c_b
  have b_y : (-2147483648 : Int) ≤ y.toInt ∧ y.toInt ≤ 2147483647 := c_y
  have b_r : (-2147483648 : Int) ≤ r.toInt ∧ r.toInt ≤ 2147483647 := c_r
  show qm_Ru (some (L, xs)) (d + 40) cd_86 (qm_ent 5 [.ref 28, .int b, .int y, .int r] h) Z
  refine qm_Ru.go 4 (c' := (4, [.ref 28, .int b, .int y, .int r, .float 0], [.int r, .int y, .int b, .ref 28], h)) rfl ?_
  refine hk_inv (o := 28) (r := []) (as := [.ref 28, .int b, .int y, .int r]) rfl rfl (hH.1 28 (9, 8) rfl) rfl rfl rfl rfl (hq_try111 h6 hH hT hB hV (fun v1 J2 c_v1 d_v1 => ?_) (fun t3 J4 f_t3 g_t3 => ?_))
  · refine qm_Ru.go 2 (c' := (11, [.ref 28, .int b, .int y, .int r, .int v1], [.int v1], (h.1, h.2.1, J2, h.2.2.2))) rfl ?_
    refine hk_zlt (ix := v1.toInt) rfl rfl (fun z5 => ?_) (fun z5 => by exfalso; omega)
    refine qm_Ru.go 1 (c' := (54, [.ref 28, .int b, .int y, .int r, .int v1], [.int v1], (h.1, h.2.1, J2, h.2.2.2))) rfl ?_
    refine qm_Ru.rt (v := (some (.int v1))) (h' := (h.1, h.2.1, J2, h.2.2.2)) rfl ?_
    exact k (some (.int v1)) (h.2.1) (J2) ⟨_, rfl, ⟨by show (-3 : Int) ≤ v1.toInt; omega, by show v1.toInt ≤ (3 : Int); omega⟩⟩ hB hV (fun _ _ _ => rfl)
  · obtain ⟨fy, fr, ft, ff, fb⟩ := f_t3
    obtain ⟨gb, gn, gh⟩ := g_t3
    obtain ⟨v6, q_v6⟩ : ∃ v, h.2.1 6 0 = v := ⟨_, rfl⟩
    have b_v6 : (0 : Int) ≤ v6.toInt ∧ v6.toInt ≤ 30 := by rw [← q_v6]; exact hB 6 0
    have gn : b.toInt < v6.toInt := by rw [← q_v6]; exact gn
    refine qm_Ru.go 2 (c' := (11, [.ref 28, .int b, .int y, .int r, .int t3], [.int t3], (h.1, h.2.1, J4, h.2.2.2))) rfl ?_
    refine hk_zlt (ix := t3.toInt) rfl rfl (fun z7 => by exfalso; omega) (fun z7 => ?_)
    refine qm_Ru.go 1 (c' := (15, [.ref 28, .int b, .int y, .int r, .int t3], [.ref 28], (h.1, h.2.1, J4, h.2.2.2))) rfl ?_
    refine hk_getr rfl (hH.1 28 (9, 8) rfl) rfl (hH.2 28 0 (some 6) rfl) ?_
    refine qm_Ru.go 0 (c' := (18, [.ref 28, .int b, .int y, .int r, .int t3], [.ref 6], (h.1, h.2.1, J4, h.2.2.2))) rfl ?_
    refine hk_getr rfl (hH.1 6 (6, 9) rfl) rfl (hH.2 6 5 (some 11) rfl) ?_
    refine qm_Ru.go 1 (c' := (22, [.ref 28, .int b, .int y, .int r, .int t3], [.int b, .ref 11], (h.1, h.2.1, J4, h.2.2.2))) rfl ?_
    obtain ⟨v8, q_v8⟩ : ∃ v, h.2.1 11 (b.toInt.toNat) = v := ⟨_, rfl⟩
    have b_v8 : (0 : Int) ≤ v8.toInt ∧ v8.toInt ≤ 2 := by rw [← q_v8]; exact hB 11 (b.toInt.toNat)
    refine hk_ial (v := v8) rfl (hH.1 11 (0, 30) rfl) (by omega) (by omega) q_v8 ?_
    refine qm_Ru.go 0 (c' := (23, [.ref 28, .int b, .int y, .int r, .int t3], [.int v8], (h.1, h.2.1, J4, h.2.2.2))) rfl ?_
    rw [show pI h.2.1 11 (b.toInt.toNat) = v8.toInt from congrArg Int32.toInt q_v8] at gh
    refine qm_Ru.go 1 (c' := (24, [.ref 28, .int b, .int y, .int r, .int t3], [.int 2, .int v8], (h.1, h.2.1, J4, h.2.2.2))) rfl ?_
    refine hk_cne (ix := v8.toInt) (iy := 2) rfl rfl rfl (fun z9 => ?_) (fun z9 => ?_)
    · refine qm_Ru.go 5 (c' := (49, [.ref 28, .int b, .int y, .int r, .int t3], [.int t3, .int r, .int y, .int b, .ref 28], (h.1, h.2.1, J4, h.2.2.2))) rfl ?_
      refine hk_inv (o := 28) (r := []) (as := [.ref 28, .int b, .int y, .int r, .int t3]) rfl rfl (hH.1 28 (9, 8) rfl) rfl rfl rfl rfl ?_
      refine qm_Ru.go 1 (c' := (1, [.ref 28, .int b, .int y, .int r, .int t3], [.ref 28], (h.1, h.2.1, J4, h.2.2.2))) rfl ?_
      refine hk_getr rfl (hH.1 28 (9, 8) rfl) rfl (hH.2 28 3 (some 36) rfl) ?_
      refine qm_Ru.go 3 (c' := (8, [.ref 28, .int b, .int y, .int r, .int t3], [.int t3, .int r, .int y, .ref 36], (h.1, h.2.1, J4, h.2.2.2))) rfl ?_
      refine qm_Ru.call (j := 75) (as := [.int y, .int r, .int t3]) (c' := (11, [.ref 28, .int b, .int y, .int r, .int t3], [.ref 36], (h.1, h.2.1, J4, h.2.2.2))) rfl rfl rfl ?_
      refine qm_Ru.go 3 (c' := (3, [.int y, .int r, .int t3], [.int (y * 4)], (h.1, h.2.1, J4, h.2.2.2))) rfl ?_
      obtain ⟨v10, q_v10, e_v10⟩ := hk_mul (x := y) (y := 4) (a := y.toInt) (b := 4) rfl rfl (by omega) (by omega)
      rw [q_v10]
      refine qm_Ru.go 2 (c' := (5, [.int y, .int r, .int t3], [.int (v10 + r)], (h.1, h.2.1, J4, h.2.2.2))) rfl ?_
      obtain ⟨v11, q_v11, e_v11⟩ := hk_add (x := v10) (y := r) (a := v10.toInt) (b := r.toInt) rfl rfl (by omega) (by omega)
      rw [q_v11]
      refine qm_Ru.go 2 (c' := (7, [.int y, .int r, .int t3], [.int (v11 * 4)], (h.1, h.2.1, J4, h.2.2.2))) rfl ?_
      obtain ⟨v12, q_v12, e_v12⟩ := hk_mul (x := v11) (y := 4) (a := v11.toInt) (b := 4) rfl rfl (by omega) (by omega)
      rw [q_v12]
      refine qm_Ru.go 2 (c' := (9, [.int y, .int r, .int t3], [.int (v12 + t3)], (h.1, h.2.1, J4, h.2.2.2))) rfl ?_
      obtain ⟨v13, q_v13, e_v13⟩ := hk_add (x := v12) (y := t3) (a := v12.toInt) (b := t3.toInt) rfl rfl (by omega) (by omega)
      rw [q_v13]
      refine qm_Ru.rt (v := (some (.int v13))) (h' := (h.1, h.2.1, J4, h.2.2.2)) rfl ?_
      refine qm_Ru.go 1 (c' := (12, [.ref 28, .int b, .int y, .int r, .int t3], [.int b, .int v13, .ref 36], (h.1, h.2.1, J4, h.2.2.2))) rfl ?_
      refine hk_ias rfl (hH.1 36 (0, 80) rfl) (by omega) (by omega) ?_
      refine qm_Ru.go 4 (c' := (17, [.ref 28, .int b, .int y, .int r, .int t3], [.ref 28, .int r, .int y, .ref 28], (h.1, qm_up h.2.1 36 (v13.toInt.toNat) b, J4, h.2.2.2))) rfl ?_
      refine hk_getr rfl (hH.1 28 (9, 8) rfl) rfl (hH.2 28 0 (some 6) rfl) ?_
      refine qm_Ru.go 0 (c' := (20, [.ref 28, .int b, .int y, .int r, .int t3], [.ref 6, .int r, .int y, .ref 28], (h.1, qm_up h.2.1 36 (v13.toInt.toNat) b, J4, h.2.2.2))) rfl ?_
      refine hk_getr rfl (hH.1 6 (6, 9) rfl) rfl (hH.2 6 1 (some 7) rfl) ?_
      refine qm_Ru.go 1 (c' := (24, [.ref 28, .int b, .int y, .int r, .int t3], [.int b, .ref 7, .int r, .int y, .ref 28], (h.1, qm_up h.2.1 36 (v13.toInt.toNat) b, J4, h.2.2.2))) rfl ?_
      obtain ⟨v14, q_v14⟩ : ∃ v, h.2.1 7 (b.toInt.toNat) = v := ⟨_, rfl⟩
      have b_v14 : (0 : Int) ≤ v14.toInt ∧ v14.toInt ≤ 40 := by rw [← q_v14]; exact hB 7 (b.toInt.toNat)
      refine hk_ial (v := v14) rfl (hH.1 7 (0, 30) rfl) (by omega) (by omega) (show (qm_up h.2.1 36 (v13.toInt.toNat) b) 7 (b.toInt.toNat) = _ from ((hk_ot rfl).trans q_v14)) ?_
      refine qm_Ru.go 0 (c' := (25, [.ref 28, .int b, .int y, .int r, .int t3], [.int v14, .int r, .int y, .ref 28], (h.1, qm_up h.2.1 36 (v13.toInt.toNat) b, J4, h.2.2.2))) rfl ?_
      refine hk_inv (o := 28) (r := []) (as := [.ref 28, .int y, .int r, .int v14]) rfl rfl (hH.1 28 (9, 8) rfl) rfl rfl rfl rfl ?_
      refine qm_Ru.go 2 (c' := (2, [.ref 28, .int y, .int r, .int v14], [.ref 28, .ref 28], (h.1, qm_up h.2.1 36 (v13.toInt.toNat) b, J4, h.2.2.2))) rfl ?_
      obtain ⟨v15, q_v15⟩ : ∃ v, h.2.1 28 6 = v := ⟨_, rfl⟩
      refine hk_geti (v := v15) rfl (hH.1 28 (9, 8) rfl) rfl (show (qm_up h.2.1 36 (v13.toInt.toNat) b) 28 6 = _ from ((hk_ot rfl).trans q_v15)) ?_
      refine qm_Ru.go 2 (c' := (7, [.ref 28, .int y, .int r, .int v14], [.int (v15 + v14), .ref 28], (h.1, qm_up h.2.1 36 (v13.toInt.toNat) b, J4, h.2.2.2))) rfl ?_
      obtain ⟨v16, q_v16⟩ : ∃ v, (v15 + v14) = v := ⟨_, rfl⟩
      rw [q_v16]
      refine hk_puti rfl (hH.1 28 (9, 8) rfl) rfl ?_
      refine qm_Ru.go 1 (c' := (11, [.ref 28, .int y, .int r, .int v14], [.ref 28], (h.1, qm_up (qm_up h.2.1 36 (v13.toInt.toNat) b) 28 6 v16, J4, h.2.2.2))) rfl ?_
      refine hk_getr rfl (hH.1 28 (9, 8) rfl) rfl (hH.2 28 7 (some 37) rfl) ?_
      refine qm_Ru.go 2 (c' := (16, [.ref 28, .int y, .int r, .int v14], [.int y, .ref 37, .int y, .ref 37], (h.1, qm_up (qm_up h.2.1 36 (v13.toInt.toNat) b) 28 6 v16, J4, h.2.2.2))) rfl ?_
      obtain ⟨v17, q_v17⟩ : ∃ v, h.2.1 37 (y.toInt.toNat) = v := ⟨_, rfl⟩
      refine hk_ial (v := v17) rfl (hH.1 37 (0, 5) rfl) (by omega) (by omega) (show (qm_up (qm_up h.2.1 36 (v13.toInt.toNat) b) 28 6 v16) 37 (y.toInt.toNat) = _ from ((hk_ot rfl).trans ((hk_ot rfl).trans q_v17))) ?_
      refine qm_Ru.go 2 (c' := (19, [.ref 28, .int y, .int r, .int v14], [.int (v17 + v14), .int y, .ref 37], (h.1, qm_up (qm_up h.2.1 36 (v13.toInt.toNat) b) 28 6 v16, J4, h.2.2.2))) rfl ?_
      obtain ⟨v18, q_v18⟩ : ∃ v, (v17 + v14) = v := ⟨_, rfl⟩
      rw [q_v18]
      refine hk_ias rfl (hH.1 37 (0, 5) rfl) (by omega) (by omega) ?_
      refine qm_Ru.go 2 (c' := (22, [.ref 28, .int y, .int r, .int v14], [.ref 28, .ref 28], (h.1, qm_up (qm_up (qm_up h.2.1 36 (v13.toInt.toNat) b) 28 6 v16) 37 (y.toInt.toNat) v18, J4, h.2.2.2))) rfl ?_
      obtain ⟨v19, q_v19⟩ : ∃ v, h.2.1 28 5 = v := ⟨_, rfl⟩
      refine hk_geti (v := v19) rfl (hH.1 28 (9, 8) rfl) rfl (show (qm_up (qm_up (qm_up h.2.1 36 (v13.toInt.toNat) b) 28 6 v16) 37 (y.toInt.toNat) v18) 28 5 = _ from ((hk_ot rfl).trans ((hk_neq (by decide)).trans ((hk_ot rfl).trans q_v19)))) ?_
      refine qm_Ru.go 2 (c' := (27, [.ref 28, .int y, .int r, .int v14], [.int r, .int v14, .int v19, .ref 28], (h.1, qm_up (qm_up (qm_up h.2.1 36 (v13.toInt.toNat) b) 28 6 v16) 37 (y.toInt.toNat) v18, J4, h.2.2.2))) rfl ?_
      refine qm_Ru.call (j := 95) (as := [.int r]) (c' := (30, [.ref 28, .int y, .int r, .int v14], [.int v14, .int v19, .ref 28], (h.1, qm_up (qm_up (qm_up h.2.1 36 (v13.toInt.toNat) b) 28 6 v16) 37 (y.toInt.toNat) v18, J4, h.2.2.2))) rfl rfl rfl ?_
      refine qm_Ru.go 3 (c' := (3, [.int r], [.int (2 * r)], (h.1, qm_up (qm_up (qm_up h.2.1 36 (v13.toInt.toNat) b) 28 6 v16) 37 (y.toInt.toNat) v18, J4, h.2.2.2))) rfl ?_
      obtain ⟨v20, q_v20, e_v20⟩ := hk_mul (x := 2) (y := r) (a := 2) (b := r.toInt) rfl rfl (by omega) (by omega)
      rw [q_v20]
      refine qm_Ru.go 2 (c' := (5, [.int r], [.int (v20 - 3)], (h.1, qm_up (qm_up (qm_up h.2.1 36 (v13.toInt.toNat) b) 28 6 v16) 37 (y.toInt.toNat) v18, J4, h.2.2.2))) rfl ?_
      obtain ⟨v21, q_v21, e_v21⟩ := hk_sub (x := v20) (y := 3) (a := v20.toInt) (b := 3) rfl rfl (by omega) (by omega)
      rw [q_v21]
      refine qm_Ru.rt (v := (some (.int v21))) (h' := (h.1, qm_up (qm_up (qm_up h.2.1 36 (v13.toInt.toNat) b) 28 6 v16) 37 (y.toInt.toNat) v18, J4, h.2.2.2)) rfl ?_
      refine qm_Ru.go 1 (c' := (31, [.ref 28, .int y, .int r, .int v14], [.int (v14 * v21), .int v19, .ref 28], (h.1, qm_up (qm_up (qm_up h.2.1 36 (v13.toInt.toNat) b) 28 6 v16) 37 (y.toInt.toNat) v18, J4, h.2.2.2))) rfl ?_
      obtain ⟨v22, q_v22⟩ : ∃ v, (v14 * v21) = v := ⟨_, rfl⟩
      rw [q_v22]
      refine qm_Ru.go 1 (c' := (32, [.ref 28, .int y, .int r, .int v14], [.int (v19 + v22), .ref 28], (h.1, qm_up (qm_up (qm_up h.2.1 36 (v13.toInt.toNat) b) 28 6 v16) 37 (y.toInt.toNat) v18, J4, h.2.2.2))) rfl ?_
      obtain ⟨v23, q_v23⟩ : ∃ v, (v19 + v22) = v := ⟨_, rfl⟩
      rw [q_v23]
      refine hk_puti rfl (hH.1 28 (9, 8) rfl) rfl ?_
      refine qm_Ru.go 0 (c' := (35, [.ref 28, .int y, .int r, .int v14], [], (h.1, qm_up (qm_up (qm_up (qm_up h.2.1 36 (v13.toInt.toNat) b) 28 6 v16) 37 (y.toInt.toNat) v18) 28 5 v23, J4, h.2.2.2))) rfl ?_
      refine qm_Ru.rt (v := none) (h' := (h.1, qm_up (qm_up (qm_up (qm_up h.2.1 36 (v13.toInt.toNat) b) 28 6 v16) 37 (y.toInt.toNat) v18) 28 5 v23, J4, h.2.2.2)) rfl ?_
      refine qm_Ru.go 1 (c' := (29, [.ref 28, .int b, .int y, .int r, .int t3], [.ref 28], (h.1, qm_up (qm_up (qm_up (qm_up h.2.1 36 (v13.toInt.toNat) b) 28 6 v16) 37 (y.toInt.toNat) v18) 28 5 v23, J4, h.2.2.2))) rfl ?_
      refine hk_getr rfl (hH.1 28 (9, 8) rfl) rfl (hH.2 28 0 (some 6) rfl) ?_
      refine qm_Ru.go 5 (c' := (38, [.ref 28, .int b, .int y, .int r, .int t3], [.int t3, .int r, .int y, .int 1, .int b, .ref 6], (h.1, qm_up (qm_up (qm_up (qm_up h.2.1 36 (v13.toInt.toNat) b) 28 6 v16) 37 (y.toInt.toNat) v18) 28 5 v23, J4, h.2.2.2))) rfl ?_
      refine hk_inv (o := 6) (r := []) (as := [.ref 6, .int b, .int 1, .int y, .int r, .int t3]) rfl rfl (hH.1 6 (6, 9) rfl) rfl rfl rfl rfl ?_
      refine qm_Ru.go 1 (c' := (1, [.ref 6, .int b, .int 1, .int y, .int r, .int t3], [.ref 6], (h.1, qm_up (qm_up (qm_up (qm_up h.2.1 36 (v13.toInt.toNat) b) 28 6 v16) 37 (y.toInt.toNat) v18) 28 5 v23, J4, h.2.2.2))) rfl ?_
      refine hk_getr rfl (hH.1 6 (6, 9) rfl) rfl (hH.2 6 5 (some 11) rfl) ?_
      refine qm_Ru.go 2 (c' := (6, [.ref 6, .int b, .int 1, .int y, .int r, .int t3], [.int 1, .int b, .ref 11], (h.1, qm_up (qm_up (qm_up (qm_up h.2.1 36 (v13.toInt.toNat) b) 28 6 v16) 37 (y.toInt.toNat) v18) 28 5 v23, J4, h.2.2.2))) rfl ?_
      refine hk_ias rfl (hH.1 11 (0, 30) rfl) (by omega) (by omega) ?_
      refine qm_Ru.go 1 (c' := (8, [.ref 6, .int b, .int 1, .int y, .int r, .int t3], [.ref 6], (h.1, qm_up (qm_up (qm_up (qm_up (qm_up h.2.1 36 (v13.toInt.toNat) b) 28 6 v16) 37 (y.toInt.toNat) v18) 28 5 v23) 11 (b.toInt.toNat) 1, J4, h.2.2.2))) rfl ?_
      refine hk_getr rfl (hH.1 6 (6, 9) rfl) rfl (hH.2 6 6 (some 12) rfl) ?_
      refine qm_Ru.go 2 (c' := (13, [.ref 6, .int b, .int 1, .int y, .int r, .int t3], [.int y, .int b, .ref 12], (h.1, qm_up (qm_up (qm_up (qm_up (qm_up h.2.1 36 (v13.toInt.toNat) b) 28 6 v16) 37 (y.toInt.toNat) v18) 28 5 v23) 11 (b.toInt.toNat) 1, J4, h.2.2.2))) rfl ?_
      refine hk_ias rfl (hH.1 12 (0, 30) rfl) (by omega) (by omega) ?_
      refine qm_Ru.go 1 (c' := (15, [.ref 6, .int b, .int 1, .int y, .int r, .int t3], [.ref 6], (h.1, qm_up (qm_up (qm_up (qm_up (qm_up (qm_up h.2.1 36 (v13.toInt.toNat) b) 28 6 v16) 37 (y.toInt.toNat) v18) 28 5 v23) 11 (b.toInt.toNat) 1) 12 (b.toInt.toNat) y, J4, h.2.2.2))) rfl ?_
      refine hk_getr rfl (hH.1 6 (6, 9) rfl) rfl (hH.2 6 7 (some 13) rfl) ?_
      refine qm_Ru.go 2 (c' := (21, [.ref 6, .int b, .int 1, .int y, .int r, .int t3], [.int r, .int b, .ref 13], (h.1, qm_up (qm_up (qm_up (qm_up (qm_up (qm_up h.2.1 36 (v13.toInt.toNat) b) 28 6 v16) 37 (y.toInt.toNat) v18) 28 5 v23) 11 (b.toInt.toNat) 1) 12 (b.toInt.toNat) y, J4, h.2.2.2))) rfl ?_
      refine hk_ias rfl (hH.1 13 (0, 30) rfl) (by omega) (by omega) ?_
      refine qm_Ru.go 1 (c' := (23, [.ref 6, .int b, .int 1, .int y, .int r, .int t3], [.ref 6], (h.1, qm_up (qm_up (qm_up (qm_up (qm_up (qm_up (qm_up h.2.1 36 (v13.toInt.toNat) b) 28 6 v16) 37 (y.toInt.toNat) v18) 28 5 v23) 11 (b.toInt.toNat) 1) 12 (b.toInt.toNat) y) 13 (b.toInt.toNat) r, J4, h.2.2.2))) rfl ?_
      refine hk_getr rfl (hH.1 6 (6, 9) rfl) rfl (hH.2 6 8 (some 14) rfl) ?_
      refine qm_Ru.go 2 (c' := (29, [.ref 6, .int b, .int 1, .int y, .int r, .int t3], [.int t3, .int b, .ref 14], (h.1, qm_up (qm_up (qm_up (qm_up (qm_up (qm_up (qm_up h.2.1 36 (v13.toInt.toNat) b) 28 6 v16) 37 (y.toInt.toNat) v18) 28 5 v23) 11 (b.toInt.toNat) 1) 12 (b.toInt.toNat) y) 13 (b.toInt.toNat) r, J4, h.2.2.2))) rfl ?_
      refine hk_ias rfl (hH.1 14 (0, 30) rfl) (by omega) (by omega) ?_
      refine qm_Ru.go 0 (c' := (30, [.ref 6, .int b, .int 1, .int y, .int r, .int t3], [], (h.1, qm_up (qm_up (qm_up (qm_up (qm_up (qm_up (qm_up (qm_up h.2.1 36 (v13.toInt.toNat) b) 28 6 v16) 37 (y.toInt.toNat) v18) 28 5 v23) 11 (b.toInt.toNat) 1) 12 (b.toInt.toNat) y) 13 (b.toInt.toNat) r) 14 (b.toInt.toNat) t3, J4, h.2.2.2))) rfl ?_
      refine qm_Ru.rt (v := none) (h' := (h.1, qm_up (qm_up (qm_up (qm_up (qm_up (qm_up (qm_up (qm_up h.2.1 36 (v13.toInt.toNat) b) 28 6 v16) 37 (y.toInt.toNat) v18) 28 5 v23) 11 (b.toInt.toNat) 1) 12 (b.toInt.toNat) y) 13 (b.toInt.toNat) r) 14 (b.toInt.toNat) t3, J4, h.2.2.2)) rfl ?_
      refine qm_Ru.go 0 (c' := (41, [.ref 28, .int b, .int y, .int r, .int t3], [], (h.1, qm_up (qm_up (qm_up (qm_up (qm_up (qm_up (qm_up (qm_up h.2.1 36 (v13.toInt.toNat) b) 28 6 v16) 37 (y.toInt.toNat) v18) 28 5 v23) 11 (b.toInt.toNat) 1) 12 (b.toInt.toNat) y) 13 (b.toInt.toNat) r) 14 (b.toInt.toNat) t3, J4, h.2.2.2))) rfl ?_
      refine qm_Ru.rt (v := none) (h' := (h.1, qm_up (qm_up (qm_up (qm_up (qm_up (qm_up (qm_up (qm_up h.2.1 36 (v13.toInt.toNat) b) 28 6 v16) 37 (y.toInt.toNat) v18) 28 5 v23) 11 (b.toInt.toNat) 1) 12 (b.toInt.toNat) y) 13 (b.toInt.toNat) r) 14 (b.toInt.toNat) t3, J4, h.2.2.2)) rfl ?_
      refine qm_Ru.go 1 (c' := (54, [.ref 28, .int b, .int y, .int r, .int t3], [.int t3], (h.1, qm_up (qm_up (qm_up (qm_up (qm_up (qm_up (qm_up (qm_up h.2.1 36 (v13.toInt.toNat) b) 28 6 v16) 37 (y.toInt.toNat) v18) 28 5 v23) 11 (b.toInt.toNat) 1) 12 (b.toInt.toNat) y) 13 (b.toInt.toNat) r) 14 (b.toInt.toNat) t3, J4, h.2.2.2))) rfl ?_
      refine qm_Ru.rt (v := (some (.int t3))) (h' := (h.1, qm_up (qm_up (qm_up (qm_up (qm_up (qm_up (qm_up (qm_up h.2.1 36 (v13.toInt.toNat) b) 28 6 v16) 37 (y.toInt.toNat) v18) 28 5 v23) 11 (b.toInt.toNat) 1) 12 (b.toInt.toNat) y) 13 (b.toInt.toNat) r) 14 (b.toInt.toNat) t3, J4, h.2.2.2)) rfl ?_
      exact k (some (.int t3)) (qm_up (qm_up (qm_up (qm_up (qm_up (qm_up (qm_up (qm_up h.2.1 36 (v13.toInt.toNat) b) 28 6 v16) 37 (y.toInt.toNat) v18) 28 5 v23) 11 (b.toInt.toNat) 1) 12 (b.toInt.toNat) y) 13 (b.toInt.toNat) r) 14 (b.toInt.toNat) t3) (J4) ⟨_, rfl, ⟨by show (-3 : Int) ≤ t3.toInt; omega, by show t3.toInt ≤ (3 : Int); omega⟩⟩ (hb_up (o := 14) (k := b.toInt.toNat) (x := t3) (hb_up (o := 13) (k := b.toInt.toNat) (x := r) (hb_up (o := 12) (k := b.toInt.toNat) (x := y) (hb_up (o := 11) (k := b.toInt.toNat) (x := 1) (hb_up (o := 28) (k := 5) (x := v23) (hb_up (o := 37) (k := y.toInt.toNat) (x := v18) (hb_up (o := 28) (k := 6) (x := v16) (hb_up (o := 36) (k := v13.toInt.toNat) (x := b) hB ⟨by show (-1 : Int) ≤ b.toInt; omega, by show b.toInt ≤ (29 : Int); omega⟩) (qa_in_full _)) (qa_in_full _)) (qa_in_full _)) ⟨(show (0 : Int) ≤ 1 from by decide), (show (1 : Int) ≤ 2 from by decide)⟩) ⟨by show (-1 : Int) ≤ y.toInt; omega, by show y.toInt ≤ (4 : Int); omega⟩) ⟨by show (-1 : Int) ≤ r.toInt; omega, by show r.toInt ≤ (3 : Int); omega⟩) ⟨by show (-1 : Int) ≤ t3.toInt; omega, by show t3.toInt ≤ (3 : Int); omega⟩) ⟨⟨(mC_put (I := h.2.1) (I' := qm_up (qm_up (qm_up (qm_up (qm_up (qm_up (qm_up (qm_up h.2.1 36 (v13.toInt.toNat) b) 28 6 v16) 37 (y.toInt.toNat) v18) 28 5 v23) 11 (b.toInt.toNat) 1) 12 (b.toInt.toNat) y) 13 (b.toInt.toNat) r) 14 (b.toInt.toNat) t3) hV.1.1 ((pI_sk rfl).trans ((pI_sk rfl).trans ((pI_sk rfl).trans (pI_up.trans (congrArg (fun f => fu_up f b.toInt.toNat (Int32.toInt 1)) ((pI_sk rfl).trans ((pI_sk rfl).trans ((pI_sk rfl).trans ((pI_sk rfl).trans rfl))))))))) ((pI_sk rfl).trans ((pI_sk rfl).trans (pI_up.trans (congrArg (fun f => fu_up f b.toInt.toNat (Int32.toInt y)) ((pI_sk rfl).trans ((pI_sk rfl).trans ((pI_sk rfl).trans ((pI_sk rfl).trans ((pI_sk rfl).trans rfl))))))))) ((pI_sk rfl).trans (pI_up.trans (congrArg (fun f => fu_up f b.toInt.toNat (Int32.toInt r)) ((pI_sk rfl).trans ((pI_sk rfl).trans ((pI_sk rfl).trans ((pI_sk rfl).trans ((pI_sk rfl).trans ((pI_sk rfl).trans rfl))))))))) (pI_up.trans (congrArg (fun f => fu_up f b.toInt.toNat (Int32.toInt t3)) ((pI_sk rfl).trans ((pI_sk rfl).trans ((pI_sk rfl).trans ((pI_sk rfl).trans ((pI_sk rfl).trans ((pI_sk rfl).trans ((pI_sk rfl).trans rfl))))))))) ((pI_sk rfl).trans ((pI_sk rfl).trans ((pI_sk rfl).trans ((pI_sk rfl).trans ((pI_sk rfl).trans ((pI_sk rfl).trans ((pI_sk rfl).trans (pI_up.trans rfl)))))))) ((pI_sk rfl).trans ((pI_sk rfl).trans ((pI_sk rfl).trans ((pI_sk rfl).trans ((pI_sk rfl).trans ((pI_sk rfl).trans ((pI_sk rfl).trans ((pI_sk rfl).trans rfl)))))))) ((pI_sk rfl).trans ((pI_sk rfl).trans ((pI_sk rfl).trans ((pI_sk rfl).trans ((pI_sk rfl).trans ((pI_sk rfl).trans ((pI_sk rfl).trans ((pI_sk rfl).trans rfl)))))))) rfl (show (h.2.1 11 (b.toInt.toNat)).toInt = 0 from by rw [q_v8]; omega) (congrArg Int32.toInt q_v6) rfl (by omega) (by omega) (by omega) (by omega) (by omega) (by omega)), (mB_put (I := h.2.1) (I' := qm_up (qm_up (qm_up (qm_up (qm_up (qm_up (qm_up (qm_up h.2.1 36 (v13.toInt.toNat) b) 28 6 v16) 37 (y.toInt.toNat) v18) 28 5 v23) 11 (b.toInt.toNat) 1) 12 (b.toInt.toNat) y) 13 (b.toInt.toNat) r) 14 (b.toInt.toNat) t3) (y := y.toInt) (r := r.toInt) (t := t3.toInt) hV.1.2 ((pI_sk rfl).trans ((pI_sk rfl).trans ((pI_sk rfl).trans ((pI_sk rfl).trans ((pI_sk rfl).trans ((pI_sk rfl).trans ((pI_sk rfl).trans (pI_up.trans rfl)))))))) (by omega) (by omega) fb)⟩, hV.2⟩ (fun o ho i => ((hk_mod ho rfl).trans ((hk_mod ho rfl).trans ((hk_mod ho rfl).trans ((hk_mod ho rfl).trans ((hk_mod ho rfl).trans ((hk_mod ho rfl).trans ((hk_mod ho rfl).trans ((hk_mod ho rfl).trans rfl)))))))))
    · refine qm_Ru.go 0 (c' := (27, [.ref 28, .int b, .int y, .int r, .int t3], [], (h.1, h.2.1, J4, h.2.2.2))) rfl ?_
      obtain ⟨v24, q_v24⟩ : ∃ v, h.2.1 12 (b.toInt.toNat) = v := ⟨_, rfl⟩
      have b_v24 : (-1 : Int) ≤ v24.toInt ∧ v24.toInt ≤ 4 := by rw [← q_v24]; exact hB 12 (b.toInt.toNat)
      have r_v24 : (0 : Int) ≤ v24.toInt ∧ v24.toInt ≤ 3 := by rw [← q_v24]; exact ((hV.1.1.2.2.2 (b.toInt.toNat)).2 (show (h.2.1 11 (b.toInt.toNat)).toInt = 2 from by rw [q_v8]; omega)).1
      obtain ⟨v25, q_v25⟩ : ∃ v, h.2.1 17 (v24.toInt.toNat) = v := ⟨_, rfl⟩
      have b_v25 : (0 : Int) ≤ v25.toInt ∧ v25.toInt ≤ 4 := by rw [← q_v25]; exact hB 17 (v24.toInt.toNat)
      rcases gh with gh | ⟨_, gx, g1⟩
      · exfalso; omega
      rw [show pI h.2.1 12 (b.toInt.toNat) = v24.toInt from congrArg Int32.toInt q_v24, show pI h.2.1 17 (v24.toInt.toNat) = v25.toInt from congrArg Int32.toInt q_v25] at gx
      rw [show pI h.2.1 12 (b.toInt.toNat) = v24.toInt from congrArg Int32.toInt q_v24, show pI h.2.1 17 (v24.toInt.toNat) = v25.toInt from congrArg Int32.toInt q_v25] at g1
      refine qm_Ru.go 1 (c' := (28, [.ref 28, .int b, .int y, .int r, .int t3], [.ref 28], (h.1, h.2.1, J4, h.2.2.2))) rfl ?_
      refine hk_getr rfl (hH.1 28 (9, 8) rfl) rfl (hH.2 28 1 (some 15) rfl) ?_
      refine qm_Ru.go 1 (c' := (32, [.ref 28, .int b, .int y, .int r, .int t3], [.ref 28, .ref 15], (h.1, h.2.1, J4, h.2.2.2))) rfl ?_
      refine hk_getr rfl (hH.1 28 (9, 8) rfl) rfl (hH.2 28 0 (some 6) rfl) ?_
      refine qm_Ru.go 0 (c' := (35, [.ref 28, .int b, .int y, .int r, .int t3], [.ref 6, .ref 15], (h.1, h.2.1, J4, h.2.2.2))) rfl ?_
      refine hk_getr rfl (hH.1 6 (6, 9) rfl) rfl (hH.2 6 6 (some 12) rfl) ?_
      refine qm_Ru.go 1 (c' := (39, [.ref 28, .int b, .int y, .int r, .int t3], [.int b, .ref 12, .ref 15], (h.1, h.2.1, J4, h.2.2.2))) rfl ?_
      refine hk_ial (v := v24) rfl (hH.1 12 (0, 30) rfl) (by omega) (by omega) q_v24 ?_
      refine qm_Ru.go 0 (c' := (40, [.ref 28, .int b, .int y, .int r, .int t3], [.int v24, .ref 15], (h.1, h.2.1, J4, h.2.2.2))) rfl ?_
      refine hk_inv (o := 15) (r := []) (as := [.ref 15, .int v24]) rfl rfl (hH.1 15 (15, 8) rfl) rfl rfl rfl rfl ?_
      refine qm_Ru.go 2 (c' := (2, [.ref 15, .int v24, .float 0], [.int v24, .ref 15], (h.1, h.2.1, J4, h.2.2.2))) rfl ?_
      refine hk_inv (o := 15) (r := []) (as := [.ref 15, .int v24]) rfl rfl (hH.1 15 (15, 8) rfl) rfl rfl rfl rfl ?_
      refine qm_Ru.go 1 (c' := (1, [.ref 15, .int v24], [.ref 15], (h.1, h.2.1, J4, h.2.2.2))) rfl ?_
      refine hk_getr rfl (hH.1 15 (15, 8) rfl) rfl (hH.2 15 2 (some 17) rfl) ?_
      refine qm_Ru.go 1 (c' := (5, [.ref 15, .int v24], [.int v24, .ref 17], (h.1, h.2.1, J4, h.2.2.2))) rfl ?_
      refine hk_ial (v := v25) rfl (hH.1 17 (0, 4) rfl) (by omega) (by omega) q_v25 ?_
      refine qm_Ru.go 0 (c' := (6, [.ref 15, .int v24], [.int v25], (h.1, h.2.1, J4, h.2.2.2))) rfl ?_
      refine hk_zne (ix := v25.toInt) rfl rfl (fun z26 => ?_) (fun z26 => by exfalso; omega)
      refine qm_Ru.go 1 (c' := (14, [.ref 15, .int v24], [.ref 15], (h.1, h.2.1, J4, h.2.2.2))) rfl ?_
      refine hk_getr rfl (hH.1 15 (15, 8) rfl) rfl (hH.2 15 1 (some 16) rfl) ?_
      refine qm_Ru.go 3 (c' := (20, [.ref 15, .int v24], [.int (v24 * 4), .ref 16], (h.1, h.2.1, J4, h.2.2.2))) rfl ?_
      obtain ⟨v27, q_v27, e_v27⟩ := hk_mul (x := v24) (y := 4) (a := v24.toInt) (b := 4) rfl rfl (by omega) (by omega)
      rw [q_v27]
      refine qm_Ru.go 1 (c' := (21, [.ref 15, .int v24], [.ref 15, .int v27, .ref 16], (h.1, h.2.1, J4, h.2.2.2))) rfl ?_
      refine hk_getr rfl (hH.1 15 (15, 8) rfl) rfl (hH.2 15 2 (some 17) rfl) ?_
      refine qm_Ru.go 1 (c' := (25, [.ref 15, .int v24], [.int v24, .ref 17, .int v27, .ref 16], (h.1, h.2.1, J4, h.2.2.2))) rfl ?_
      refine hk_ial (v := v25) rfl (hH.1 17 (0, 4) rfl) (by omega) (by omega) q_v25 ?_
      refine qm_Ru.go 1 (c' := (27, [.ref 15, .int v24], [.int (v27 + v25), .ref 16], (h.1, h.2.1, J4, h.2.2.2))) rfl ?_
      obtain ⟨v28, q_v28, e_v28⟩ := hk_add (x := v27) (y := v25) (a := v27.toInt) (b := v25.toInt) rfl rfl (by omega) (by omega)
      rw [q_v28]
      refine qm_Ru.go 2 (c' := (29, [.ref 15, .int v24], [.int (v28 - 1), .ref 16], (h.1, h.2.1, J4, h.2.2.2))) rfl ?_
      obtain ⟨v29, q_v29, e_v29⟩ := hk_sub (x := v28) (y := 1) (a := v28.toInt) (b := 1) rfl rfl (by omega) (by omega)
      rw [q_v29]
      obtain ⟨v30, q_v30⟩ : ∃ v, h.2.1 16 (v29.toInt.toNat) = v := ⟨_, rfl⟩
      have b_v30 : (0 : Int) ≤ v30.toInt ∧ v30.toInt ≤ 29 := by rw [← q_v30]; exact hB 16 (v29.toInt.toNat)
      refine hk_ial (v := v30) rfl (hH.1 16 (0, 16) rfl) (by omega) (by omega) q_v30 ?_
      refine qm_Ru.go 0 (c' := (30, [.ref 15, .int v24], [.int v30], (h.1, h.2.1, J4, h.2.2.2))) rfl ?_
      refine qm_Ru.rt (v := (some (.int v30))) (h' := (h.1, h.2.1, J4, h.2.2.2)) rfl ?_
      refine qm_Ru.go 0 (c' := (5, [.ref 15, .int v24, .float 0], [.int v30], (h.1, h.2.1, J4, h.2.2.2))) rfl ?_
      have x_v30 : v30.toInt = b.toInt := by rw [← gx, show (4 * v24.toInt + v25.toInt - 1).toNat = v29.toInt.toNat from by omega]; exact (congrArg Int32.toInt q_v30).symm
      refine qm_Ru.go 3 (c' := (8, [.ref 15, .int v24, .int v30], [.int (-1), .int v30], (h.1, h.2.1, J4, h.2.2.2))) rfl ?_
      refine hk_ceq (ix := v30.toInt) (iy := (-1)) rfl rfl rfl (fun z31 => by exfalso; omega) (fun z31 => ?_)
      refine qm_Ru.go 1 (c' := (12, [.ref 15, .int v24, .int v30], [.ref 15], (h.1, h.2.1, J4, h.2.2.2))) rfl ?_
      refine hk_getr rfl (hH.1 15 (15, 8) rfl) rfl (hH.2 15 2 (some 17) rfl) ?_
      refine qm_Ru.go 2 (c' := (17, [.ref 15, .int v24, .int v30], [.int v24, .ref 17, .int v24, .ref 17], (h.1, h.2.1, J4, h.2.2.2))) rfl ?_
      refine hk_ial (v := v25) rfl (hH.1 17 (0, 4) rfl) (by omega) (by omega) q_v25 ?_
      refine qm_Ru.go 2 (c' := (20, [.ref 15, .int v24, .int v30], [.int (v25 - 1), .int v24, .ref 17], (h.1, h.2.1, J4, h.2.2.2))) rfl ?_
      obtain ⟨v32, q_v32, e_v32⟩ := hk_sub (x := v25) (y := 1) (a := v25.toInt) (b := 1) rfl rfl (by omega) (by omega)
      rw [q_v32]
      refine hk_ias rfl (hH.1 17 (0, 4) rfl) (by omega) (by omega) ?_
      refine qm_Ru.go 1 (c' := (22, [.ref 15, .int v24, .int v30], [.ref 15], (h.1, qm_up h.2.1 17 (v24.toInt.toNat) v32, J4, h.2.2.2))) rfl ?_
      refine hk_getr rfl (hH.1 15 (15, 8) rfl) rfl (hH.2 15 0 (some 6) rfl) ?_
      refine qm_Ru.go 1 (c' := (26, [.ref 15, .int v24, .int v30], [.int v30, .ref 6], (h.1, qm_up h.2.1 17 (v24.toInt.toNat) v32, J4, h.2.2.2))) rfl ?_
      refine hk_inv (o := 6) (r := []) (as := [.ref 6, .int v30]) rfl rfl (hH.1 6 (6, 9) rfl) rfl rfl rfl rfl ?_
      refine qm_Ru.go 6 (c' := (6, [.ref 6, .int v30], [.int (-1), .int (-1), .int (-1), .int 0, .int v30, .ref 6], (h.1, qm_up h.2.1 17 (v24.toInt.toNat) v32, J4, h.2.2.2))) rfl ?_
      refine hk_inv (o := 6) (r := []) (as := [.ref 6, .int v30, .int 0, .int (-1), .int (-1), .int (-1)]) rfl rfl (hH.1 6 (6, 9) rfl) rfl rfl rfl rfl ?_
      refine qm_Ru.go 1 (c' := (1, [.ref 6, .int v30, .int 0, .int (-1), .int (-1), .int (-1)], [.ref 6], (h.1, qm_up h.2.1 17 (v24.toInt.toNat) v32, J4, h.2.2.2))) rfl ?_
      refine hk_getr rfl (hH.1 6 (6, 9) rfl) rfl (hH.2 6 5 (some 11) rfl) ?_
      refine qm_Ru.go 2 (c' := (6, [.ref 6, .int v30, .int 0, .int (-1), .int (-1), .int (-1)], [.int 0, .int v30, .ref 11], (h.1, qm_up h.2.1 17 (v24.toInt.toNat) v32, J4, h.2.2.2))) rfl ?_
      refine hk_ias rfl (hH.1 11 (0, 30) rfl) (by omega) (by omega) ?_
      refine qm_Ru.go 1 (c' := (8, [.ref 6, .int v30, .int 0, .int (-1), .int (-1), .int (-1)], [.ref 6], (h.1, qm_up (qm_up h.2.1 17 (v24.toInt.toNat) v32) 11 (v30.toInt.toNat) 0, J4, h.2.2.2))) rfl ?_
      refine hk_getr rfl (hH.1 6 (6, 9) rfl) rfl (hH.2 6 6 (some 12) rfl) ?_
      refine qm_Ru.go 2 (c' := (13, [.ref 6, .int v30, .int 0, .int (-1), .int (-1), .int (-1)], [.int (-1), .int v30, .ref 12], (h.1, qm_up (qm_up h.2.1 17 (v24.toInt.toNat) v32) 11 (v30.toInt.toNat) 0, J4, h.2.2.2))) rfl ?_
      refine hk_ias rfl (hH.1 12 (0, 30) rfl) (by omega) (by omega) ?_
      refine qm_Ru.go 1 (c' := (15, [.ref 6, .int v30, .int 0, .int (-1), .int (-1), .int (-1)], [.ref 6], (h.1, qm_up (qm_up (qm_up h.2.1 17 (v24.toInt.toNat) v32) 11 (v30.toInt.toNat) 0) 12 (v30.toInt.toNat) (-1), J4, h.2.2.2))) rfl ?_
      refine hk_getr rfl (hH.1 6 (6, 9) rfl) rfl (hH.2 6 7 (some 13) rfl) ?_
      refine qm_Ru.go 2 (c' := (21, [.ref 6, .int v30, .int 0, .int (-1), .int (-1), .int (-1)], [.int (-1), .int v30, .ref 13], (h.1, qm_up (qm_up (qm_up h.2.1 17 (v24.toInt.toNat) v32) 11 (v30.toInt.toNat) 0) 12 (v30.toInt.toNat) (-1), J4, h.2.2.2))) rfl ?_
      refine hk_ias rfl (hH.1 13 (0, 30) rfl) (by omega) (by omega) ?_
      refine qm_Ru.go 1 (c' := (23, [.ref 6, .int v30, .int 0, .int (-1), .int (-1), .int (-1)], [.ref 6], (h.1, qm_up (qm_up (qm_up (qm_up h.2.1 17 (v24.toInt.toNat) v32) 11 (v30.toInt.toNat) 0) 12 (v30.toInt.toNat) (-1)) 13 (v30.toInt.toNat) (-1), J4, h.2.2.2))) rfl ?_
      refine hk_getr rfl (hH.1 6 (6, 9) rfl) rfl (hH.2 6 8 (some 14) rfl) ?_
      refine qm_Ru.go 2 (c' := (29, [.ref 6, .int v30, .int 0, .int (-1), .int (-1), .int (-1)], [.int (-1), .int v30, .ref 14], (h.1, qm_up (qm_up (qm_up (qm_up h.2.1 17 (v24.toInt.toNat) v32) 11 (v30.toInt.toNat) 0) 12 (v30.toInt.toNat) (-1)) 13 (v30.toInt.toNat) (-1), J4, h.2.2.2))) rfl ?_
      refine hk_ias rfl (hH.1 14 (0, 30) rfl) (by omega) (by omega) ?_
      refine qm_Ru.go 0 (c' := (30, [.ref 6, .int v30, .int 0, .int (-1), .int (-1), .int (-1)], [], (h.1, qm_up (qm_up (qm_up (qm_up (qm_up h.2.1 17 (v24.toInt.toNat) v32) 11 (v30.toInt.toNat) 0) 12 (v30.toInt.toNat) (-1)) 13 (v30.toInt.toNat) (-1)) 14 (v30.toInt.toNat) (-1), J4, h.2.2.2))) rfl ?_
      refine qm_Ru.rt (v := none) (h' := (h.1, qm_up (qm_up (qm_up (qm_up (qm_up h.2.1 17 (v24.toInt.toNat) v32) 11 (v30.toInt.toNat) 0) 12 (v30.toInt.toNat) (-1)) 13 (v30.toInt.toNat) (-1)) 14 (v30.toInt.toNat) (-1), J4, h.2.2.2)) rfl ?_
      refine qm_Ru.go 0 (c' := (9, [.ref 6, .int v30], [], (h.1, qm_up (qm_up (qm_up (qm_up (qm_up h.2.1 17 (v24.toInt.toNat) v32) 11 (v30.toInt.toNat) 0) 12 (v30.toInt.toNat) (-1)) 13 (v30.toInt.toNat) (-1)) 14 (v30.toInt.toNat) (-1), J4, h.2.2.2))) rfl ?_
      refine qm_Ru.rt (v := none) (h' := (h.1, qm_up (qm_up (qm_up (qm_up (qm_up h.2.1 17 (v24.toInt.toNat) v32) 11 (v30.toInt.toNat) 0) 12 (v30.toInt.toNat) (-1)) 13 (v30.toInt.toNat) (-1)) 14 (v30.toInt.toNat) (-1), J4, h.2.2.2)) rfl ?_
      refine qm_Ru.go 0 (c' := (29, [.ref 15, .int v24, .int v30], [], (h.1, qm_up (qm_up (qm_up (qm_up (qm_up h.2.1 17 (v24.toInt.toNat) v32) 11 (v30.toInt.toNat) 0) 12 (v30.toInt.toNat) (-1)) 13 (v30.toInt.toNat) (-1)) 14 (v30.toInt.toNat) (-1), J4, h.2.2.2))) rfl ?_
      refine qm_Ru.rt (v := none) (h' := (h.1, qm_up (qm_up (qm_up (qm_up (qm_up h.2.1 17 (v24.toInt.toNat) v32) 11 (v30.toInt.toNat) 0) 12 (v30.toInt.toNat) (-1)) 13 (v30.toInt.toNat) (-1)) 14 (v30.toInt.toNat) (-1), J4, h.2.2.2)) rfl ?_
      refine qm_Ru.go 5 (c' := (49, [.ref 28, .int b, .int y, .int r, .int t3], [.int t3, .int r, .int y, .int b, .ref 28], (h.1, qm_up (qm_up (qm_up (qm_up (qm_up h.2.1 17 (v24.toInt.toNat) v32) 11 (v30.toInt.toNat) 0) 12 (v30.toInt.toNat) (-1)) 13 (v30.toInt.toNat) (-1)) 14 (v30.toInt.toNat) (-1), J4, h.2.2.2))) rfl ?_
      refine hk_inv (o := 28) (r := []) (as := [.ref 28, .int b, .int y, .int r, .int t3]) rfl rfl (hH.1 28 (9, 8) rfl) rfl rfl rfl rfl ?_
      refine qm_Ru.go 1 (c' := (1, [.ref 28, .int b, .int y, .int r, .int t3], [.ref 28], (h.1, qm_up (qm_up (qm_up (qm_up (qm_up h.2.1 17 (v24.toInt.toNat) v32) 11 (v30.toInt.toNat) 0) 12 (v30.toInt.toNat) (-1)) 13 (v30.toInt.toNat) (-1)) 14 (v30.toInt.toNat) (-1), J4, h.2.2.2))) rfl ?_
      refine hk_getr rfl (hH.1 28 (9, 8) rfl) rfl (hH.2 28 3 (some 36) rfl) ?_
      refine qm_Ru.go 3 (c' := (8, [.ref 28, .int b, .int y, .int r, .int t3], [.int t3, .int r, .int y, .ref 36], (h.1, qm_up (qm_up (qm_up (qm_up (qm_up h.2.1 17 (v24.toInt.toNat) v32) 11 (v30.toInt.toNat) 0) 12 (v30.toInt.toNat) (-1)) 13 (v30.toInt.toNat) (-1)) 14 (v30.toInt.toNat) (-1), J4, h.2.2.2))) rfl ?_
      refine qm_Ru.call (j := 75) (as := [.int y, .int r, .int t3]) (c' := (11, [.ref 28, .int b, .int y, .int r, .int t3], [.ref 36], (h.1, qm_up (qm_up (qm_up (qm_up (qm_up h.2.1 17 (v24.toInt.toNat) v32) 11 (v30.toInt.toNat) 0) 12 (v30.toInt.toNat) (-1)) 13 (v30.toInt.toNat) (-1)) 14 (v30.toInt.toNat) (-1), J4, h.2.2.2))) rfl rfl rfl ?_
      refine qm_Ru.go 3 (c' := (3, [.int y, .int r, .int t3], [.int (y * 4)], (h.1, qm_up (qm_up (qm_up (qm_up (qm_up h.2.1 17 (v24.toInt.toNat) v32) 11 (v30.toInt.toNat) 0) 12 (v30.toInt.toNat) (-1)) 13 (v30.toInt.toNat) (-1)) 14 (v30.toInt.toNat) (-1), J4, h.2.2.2))) rfl ?_
      obtain ⟨v33, q_v33, e_v33⟩ := hk_mul (x := y) (y := 4) (a := y.toInt) (b := 4) rfl rfl (by omega) (by omega)
      rw [q_v33]
      refine qm_Ru.go 2 (c' := (5, [.int y, .int r, .int t3], [.int (v33 + r)], (h.1, qm_up (qm_up (qm_up (qm_up (qm_up h.2.1 17 (v24.toInt.toNat) v32) 11 (v30.toInt.toNat) 0) 12 (v30.toInt.toNat) (-1)) 13 (v30.toInt.toNat) (-1)) 14 (v30.toInt.toNat) (-1), J4, h.2.2.2))) rfl ?_
      obtain ⟨v34, q_v34, e_v34⟩ := hk_add (x := v33) (y := r) (a := v33.toInt) (b := r.toInt) rfl rfl (by omega) (by omega)
      rw [q_v34]
      refine qm_Ru.go 2 (c' := (7, [.int y, .int r, .int t3], [.int (v34 * 4)], (h.1, qm_up (qm_up (qm_up (qm_up (qm_up h.2.1 17 (v24.toInt.toNat) v32) 11 (v30.toInt.toNat) 0) 12 (v30.toInt.toNat) (-1)) 13 (v30.toInt.toNat) (-1)) 14 (v30.toInt.toNat) (-1), J4, h.2.2.2))) rfl ?_
      obtain ⟨v35, q_v35, e_v35⟩ := hk_mul (x := v34) (y := 4) (a := v34.toInt) (b := 4) rfl rfl (by omega) (by omega)
      rw [q_v35]
      refine qm_Ru.go 2 (c' := (9, [.int y, .int r, .int t3], [.int (v35 + t3)], (h.1, qm_up (qm_up (qm_up (qm_up (qm_up h.2.1 17 (v24.toInt.toNat) v32) 11 (v30.toInt.toNat) 0) 12 (v30.toInt.toNat) (-1)) 13 (v30.toInt.toNat) (-1)) 14 (v30.toInt.toNat) (-1), J4, h.2.2.2))) rfl ?_
      obtain ⟨v36, q_v36, e_v36⟩ := hk_add (x := v35) (y := t3) (a := v35.toInt) (b := t3.toInt) rfl rfl (by omega) (by omega)
      rw [q_v36]
      refine qm_Ru.rt (v := (some (.int v36))) (h' := (h.1, qm_up (qm_up (qm_up (qm_up (qm_up h.2.1 17 (v24.toInt.toNat) v32) 11 (v30.toInt.toNat) 0) 12 (v30.toInt.toNat) (-1)) 13 (v30.toInt.toNat) (-1)) 14 (v30.toInt.toNat) (-1), J4, h.2.2.2)) rfl ?_
      refine qm_Ru.go 1 (c' := (12, [.ref 28, .int b, .int y, .int r, .int t3], [.int b, .int v36, .ref 36], (h.1, qm_up (qm_up (qm_up (qm_up (qm_up h.2.1 17 (v24.toInt.toNat) v32) 11 (v30.toInt.toNat) 0) 12 (v30.toInt.toNat) (-1)) 13 (v30.toInt.toNat) (-1)) 14 (v30.toInt.toNat) (-1), J4, h.2.2.2))) rfl ?_
      refine hk_ias rfl (hH.1 36 (0, 80) rfl) (by omega) (by omega) ?_
      refine qm_Ru.go 4 (c' := (17, [.ref 28, .int b, .int y, .int r, .int t3], [.ref 28, .int r, .int y, .ref 28], (h.1, qm_up (qm_up (qm_up (qm_up (qm_up (qm_up h.2.1 17 (v24.toInt.toNat) v32) 11 (v30.toInt.toNat) 0) 12 (v30.toInt.toNat) (-1)) 13 (v30.toInt.toNat) (-1)) 14 (v30.toInt.toNat) (-1)) 36 (v36.toInt.toNat) b, J4, h.2.2.2))) rfl ?_
      refine hk_getr rfl (hH.1 28 (9, 8) rfl) rfl (hH.2 28 0 (some 6) rfl) ?_
      refine qm_Ru.go 0 (c' := (20, [.ref 28, .int b, .int y, .int r, .int t3], [.ref 6, .int r, .int y, .ref 28], (h.1, qm_up (qm_up (qm_up (qm_up (qm_up (qm_up h.2.1 17 (v24.toInt.toNat) v32) 11 (v30.toInt.toNat) 0) 12 (v30.toInt.toNat) (-1)) 13 (v30.toInt.toNat) (-1)) 14 (v30.toInt.toNat) (-1)) 36 (v36.toInt.toNat) b, J4, h.2.2.2))) rfl ?_
      refine hk_getr rfl (hH.1 6 (6, 9) rfl) rfl (hH.2 6 1 (some 7) rfl) ?_
      refine qm_Ru.go 1 (c' := (24, [.ref 28, .int b, .int y, .int r, .int t3], [.int b, .ref 7, .int r, .int y, .ref 28], (h.1, qm_up (qm_up (qm_up (qm_up (qm_up (qm_up h.2.1 17 (v24.toInt.toNat) v32) 11 (v30.toInt.toNat) 0) 12 (v30.toInt.toNat) (-1)) 13 (v30.toInt.toNat) (-1)) 14 (v30.toInt.toNat) (-1)) 36 (v36.toInt.toNat) b, J4, h.2.2.2))) rfl ?_
      obtain ⟨v37, q_v37⟩ : ∃ v, h.2.1 7 (b.toInt.toNat) = v := ⟨_, rfl⟩
      have b_v37 : (0 : Int) ≤ v37.toInt ∧ v37.toInt ≤ 40 := by rw [← q_v37]; exact hB 7 (b.toInt.toNat)
      refine hk_ial (v := v37) rfl (hH.1 7 (0, 30) rfl) (by omega) (by omega) (show (qm_up (qm_up (qm_up (qm_up (qm_up (qm_up h.2.1 17 (v24.toInt.toNat) v32) 11 (v30.toInt.toNat) 0) 12 (v30.toInt.toNat) (-1)) 13 (v30.toInt.toNat) (-1)) 14 (v30.toInt.toNat) (-1)) 36 (v36.toInt.toNat) b) 7 (b.toInt.toNat) = _ from ((hk_ot rfl).trans ((hk_ot rfl).trans ((hk_ot rfl).trans ((hk_ot rfl).trans ((hk_ot rfl).trans ((hk_ot rfl).trans q_v37))))))) ?_
      refine qm_Ru.go 0 (c' := (25, [.ref 28, .int b, .int y, .int r, .int t3], [.int v37, .int r, .int y, .ref 28], (h.1, qm_up (qm_up (qm_up (qm_up (qm_up (qm_up h.2.1 17 (v24.toInt.toNat) v32) 11 (v30.toInt.toNat) 0) 12 (v30.toInt.toNat) (-1)) 13 (v30.toInt.toNat) (-1)) 14 (v30.toInt.toNat) (-1)) 36 (v36.toInt.toNat) b, J4, h.2.2.2))) rfl ?_
      refine hk_inv (o := 28) (r := []) (as := [.ref 28, .int y, .int r, .int v37]) rfl rfl (hH.1 28 (9, 8) rfl) rfl rfl rfl rfl ?_
      refine qm_Ru.go 2 (c' := (2, [.ref 28, .int y, .int r, .int v37], [.ref 28, .ref 28], (h.1, qm_up (qm_up (qm_up (qm_up (qm_up (qm_up h.2.1 17 (v24.toInt.toNat) v32) 11 (v30.toInt.toNat) 0) 12 (v30.toInt.toNat) (-1)) 13 (v30.toInt.toNat) (-1)) 14 (v30.toInt.toNat) (-1)) 36 (v36.toInt.toNat) b, J4, h.2.2.2))) rfl ?_
      obtain ⟨v38, q_v38⟩ : ∃ v, h.2.1 28 6 = v := ⟨_, rfl⟩
      refine hk_geti (v := v38) rfl (hH.1 28 (9, 8) rfl) rfl (show (qm_up (qm_up (qm_up (qm_up (qm_up (qm_up h.2.1 17 (v24.toInt.toNat) v32) 11 (v30.toInt.toNat) 0) 12 (v30.toInt.toNat) (-1)) 13 (v30.toInt.toNat) (-1)) 14 (v30.toInt.toNat) (-1)) 36 (v36.toInt.toNat) b) 28 6 = _ from ((hk_ot rfl).trans ((hk_ot rfl).trans ((hk_ot rfl).trans ((hk_ot rfl).trans ((hk_ot rfl).trans ((hk_ot rfl).trans q_v38))))))) ?_
      refine qm_Ru.go 2 (c' := (7, [.ref 28, .int y, .int r, .int v37], [.int (v38 + v37), .ref 28], (h.1, qm_up (qm_up (qm_up (qm_up (qm_up (qm_up h.2.1 17 (v24.toInt.toNat) v32) 11 (v30.toInt.toNat) 0) 12 (v30.toInt.toNat) (-1)) 13 (v30.toInt.toNat) (-1)) 14 (v30.toInt.toNat) (-1)) 36 (v36.toInt.toNat) b, J4, h.2.2.2))) rfl ?_
      obtain ⟨v39, q_v39⟩ : ∃ v, (v38 + v37) = v := ⟨_, rfl⟩
      rw [q_v39]
      refine hk_puti rfl (hH.1 28 (9, 8) rfl) rfl ?_
      refine qm_Ru.go 1 (c' := (11, [.ref 28, .int y, .int r, .int v37], [.ref 28], (h.1, qm_up (qm_up (qm_up (qm_up (qm_up (qm_up (qm_up h.2.1 17 (v24.toInt.toNat) v32) 11 (v30.toInt.toNat) 0) 12 (v30.toInt.toNat) (-1)) 13 (v30.toInt.toNat) (-1)) 14 (v30.toInt.toNat) (-1)) 36 (v36.toInt.toNat) b) 28 6 v39, J4, h.2.2.2))) rfl ?_
      refine hk_getr rfl (hH.1 28 (9, 8) rfl) rfl (hH.2 28 7 (some 37) rfl) ?_
      refine qm_Ru.go 2 (c' := (16, [.ref 28, .int y, .int r, .int v37], [.int y, .ref 37, .int y, .ref 37], (h.1, qm_up (qm_up (qm_up (qm_up (qm_up (qm_up (qm_up h.2.1 17 (v24.toInt.toNat) v32) 11 (v30.toInt.toNat) 0) 12 (v30.toInt.toNat) (-1)) 13 (v30.toInt.toNat) (-1)) 14 (v30.toInt.toNat) (-1)) 36 (v36.toInt.toNat) b) 28 6 v39, J4, h.2.2.2))) rfl ?_
      obtain ⟨v40, q_v40⟩ : ∃ v, h.2.1 37 (y.toInt.toNat) = v := ⟨_, rfl⟩
      refine hk_ial (v := v40) rfl (hH.1 37 (0, 5) rfl) (by omega) (by omega) (show (qm_up (qm_up (qm_up (qm_up (qm_up (qm_up (qm_up h.2.1 17 (v24.toInt.toNat) v32) 11 (v30.toInt.toNat) 0) 12 (v30.toInt.toNat) (-1)) 13 (v30.toInt.toNat) (-1)) 14 (v30.toInt.toNat) (-1)) 36 (v36.toInt.toNat) b) 28 6 v39) 37 (y.toInt.toNat) = _ from ((hk_ot rfl).trans ((hk_ot rfl).trans ((hk_ot rfl).trans ((hk_ot rfl).trans ((hk_ot rfl).trans ((hk_ot rfl).trans ((hk_ot rfl).trans q_v40)))))))) ?_
      refine qm_Ru.go 2 (c' := (19, [.ref 28, .int y, .int r, .int v37], [.int (v40 + v37), .int y, .ref 37], (h.1, qm_up (qm_up (qm_up (qm_up (qm_up (qm_up (qm_up h.2.1 17 (v24.toInt.toNat) v32) 11 (v30.toInt.toNat) 0) 12 (v30.toInt.toNat) (-1)) 13 (v30.toInt.toNat) (-1)) 14 (v30.toInt.toNat) (-1)) 36 (v36.toInt.toNat) b) 28 6 v39, J4, h.2.2.2))) rfl ?_
      obtain ⟨v41, q_v41⟩ : ∃ v, (v40 + v37) = v := ⟨_, rfl⟩
      rw [q_v41]
      refine hk_ias rfl (hH.1 37 (0, 5) rfl) (by omega) (by omega) ?_
      refine qm_Ru.go 2 (c' := (22, [.ref 28, .int y, .int r, .int v37], [.ref 28, .ref 28], (h.1, qm_up (qm_up (qm_up (qm_up (qm_up (qm_up (qm_up (qm_up h.2.1 17 (v24.toInt.toNat) v32) 11 (v30.toInt.toNat) 0) 12 (v30.toInt.toNat) (-1)) 13 (v30.toInt.toNat) (-1)) 14 (v30.toInt.toNat) (-1)) 36 (v36.toInt.toNat) b) 28 6 v39) 37 (y.toInt.toNat) v41, J4, h.2.2.2))) rfl ?_
      obtain ⟨v42, q_v42⟩ : ∃ v, h.2.1 28 5 = v := ⟨_, rfl⟩
      refine hk_geti (v := v42) rfl (hH.1 28 (9, 8) rfl) rfl (show (qm_up (qm_up (qm_up (qm_up (qm_up (qm_up (qm_up (qm_up h.2.1 17 (v24.toInt.toNat) v32) 11 (v30.toInt.toNat) 0) 12 (v30.toInt.toNat) (-1)) 13 (v30.toInt.toNat) (-1)) 14 (v30.toInt.toNat) (-1)) 36 (v36.toInt.toNat) b) 28 6 v39) 37 (y.toInt.toNat) v41) 28 5 = _ from ((hk_ot rfl).trans ((hk_neq (by decide)).trans ((hk_ot rfl).trans ((hk_ot rfl).trans ((hk_ot rfl).trans ((hk_ot rfl).trans ((hk_ot rfl).trans ((hk_ot rfl).trans q_v42))))))))) ?_
      refine qm_Ru.go 2 (c' := (27, [.ref 28, .int y, .int r, .int v37], [.int r, .int v37, .int v42, .ref 28], (h.1, qm_up (qm_up (qm_up (qm_up (qm_up (qm_up (qm_up (qm_up h.2.1 17 (v24.toInt.toNat) v32) 11 (v30.toInt.toNat) 0) 12 (v30.toInt.toNat) (-1)) 13 (v30.toInt.toNat) (-1)) 14 (v30.toInt.toNat) (-1)) 36 (v36.toInt.toNat) b) 28 6 v39) 37 (y.toInt.toNat) v41, J4, h.2.2.2))) rfl ?_
      refine qm_Ru.call (j := 95) (as := [.int r]) (c' := (30, [.ref 28, .int y, .int r, .int v37], [.int v37, .int v42, .ref 28], (h.1, qm_up (qm_up (qm_up (qm_up (qm_up (qm_up (qm_up (qm_up h.2.1 17 (v24.toInt.toNat) v32) 11 (v30.toInt.toNat) 0) 12 (v30.toInt.toNat) (-1)) 13 (v30.toInt.toNat) (-1)) 14 (v30.toInt.toNat) (-1)) 36 (v36.toInt.toNat) b) 28 6 v39) 37 (y.toInt.toNat) v41, J4, h.2.2.2))) rfl rfl rfl ?_
      refine qm_Ru.go 3 (c' := (3, [.int r], [.int (2 * r)], (h.1, qm_up (qm_up (qm_up (qm_up (qm_up (qm_up (qm_up (qm_up h.2.1 17 (v24.toInt.toNat) v32) 11 (v30.toInt.toNat) 0) 12 (v30.toInt.toNat) (-1)) 13 (v30.toInt.toNat) (-1)) 14 (v30.toInt.toNat) (-1)) 36 (v36.toInt.toNat) b) 28 6 v39) 37 (y.toInt.toNat) v41, J4, h.2.2.2))) rfl ?_
      obtain ⟨v43, q_v43, e_v43⟩ := hk_mul (x := 2) (y := r) (a := 2) (b := r.toInt) rfl rfl (by omega) (by omega)
      rw [q_v43]
      refine qm_Ru.go 2 (c' := (5, [.int r], [.int (v43 - 3)], (h.1, qm_up (qm_up (qm_up (qm_up (qm_up (qm_up (qm_up (qm_up h.2.1 17 (v24.toInt.toNat) v32) 11 (v30.toInt.toNat) 0) 12 (v30.toInt.toNat) (-1)) 13 (v30.toInt.toNat) (-1)) 14 (v30.toInt.toNat) (-1)) 36 (v36.toInt.toNat) b) 28 6 v39) 37 (y.toInt.toNat) v41, J4, h.2.2.2))) rfl ?_
      obtain ⟨v44, q_v44, e_v44⟩ := hk_sub (x := v43) (y := 3) (a := v43.toInt) (b := 3) rfl rfl (by omega) (by omega)
      rw [q_v44]
      refine qm_Ru.rt (v := (some (.int v44))) (h' := (h.1, qm_up (qm_up (qm_up (qm_up (qm_up (qm_up (qm_up (qm_up h.2.1 17 (v24.toInt.toNat) v32) 11 (v30.toInt.toNat) 0) 12 (v30.toInt.toNat) (-1)) 13 (v30.toInt.toNat) (-1)) 14 (v30.toInt.toNat) (-1)) 36 (v36.toInt.toNat) b) 28 6 v39) 37 (y.toInt.toNat) v41, J4, h.2.2.2)) rfl ?_
      refine qm_Ru.go 1 (c' := (31, [.ref 28, .int y, .int r, .int v37], [.int (v37 * v44), .int v42, .ref 28], (h.1, qm_up (qm_up (qm_up (qm_up (qm_up (qm_up (qm_up (qm_up h.2.1 17 (v24.toInt.toNat) v32) 11 (v30.toInt.toNat) 0) 12 (v30.toInt.toNat) (-1)) 13 (v30.toInt.toNat) (-1)) 14 (v30.toInt.toNat) (-1)) 36 (v36.toInt.toNat) b) 28 6 v39) 37 (y.toInt.toNat) v41, J4, h.2.2.2))) rfl ?_
      obtain ⟨v45, q_v45⟩ : ∃ v, (v37 * v44) = v := ⟨_, rfl⟩
      rw [q_v45]
      refine qm_Ru.go 1 (c' := (32, [.ref 28, .int y, .int r, .int v37], [.int (v42 + v45), .ref 28], (h.1, qm_up (qm_up (qm_up (qm_up (qm_up (qm_up (qm_up (qm_up h.2.1 17 (v24.toInt.toNat) v32) 11 (v30.toInt.toNat) 0) 12 (v30.toInt.toNat) (-1)) 13 (v30.toInt.toNat) (-1)) 14 (v30.toInt.toNat) (-1)) 36 (v36.toInt.toNat) b) 28 6 v39) 37 (y.toInt.toNat) v41, J4, h.2.2.2))) rfl ?_
      obtain ⟨v46, q_v46⟩ : ∃ v, (v42 + v45) = v := ⟨_, rfl⟩
      rw [q_v46]
      refine hk_puti rfl (hH.1 28 (9, 8) rfl) rfl ?_
      refine qm_Ru.go 0 (c' := (35, [.ref 28, .int y, .int r, .int v37], [], (h.1, qm_up (qm_up (qm_up (qm_up (qm_up (qm_up (qm_up (qm_up (qm_up h.2.1 17 (v24.toInt.toNat) v32) 11 (v30.toInt.toNat) 0) 12 (v30.toInt.toNat) (-1)) 13 (v30.toInt.toNat) (-1)) 14 (v30.toInt.toNat) (-1)) 36 (v36.toInt.toNat) b) 28 6 v39) 37 (y.toInt.toNat) v41) 28 5 v46, J4, h.2.2.2))) rfl ?_
      refine qm_Ru.rt (v := none) (h' := (h.1, qm_up (qm_up (qm_up (qm_up (qm_up (qm_up (qm_up (qm_up (qm_up h.2.1 17 (v24.toInt.toNat) v32) 11 (v30.toInt.toNat) 0) 12 (v30.toInt.toNat) (-1)) 13 (v30.toInt.toNat) (-1)) 14 (v30.toInt.toNat) (-1)) 36 (v36.toInt.toNat) b) 28 6 v39) 37 (y.toInt.toNat) v41) 28 5 v46, J4, h.2.2.2)) rfl ?_
      refine qm_Ru.go 1 (c' := (29, [.ref 28, .int b, .int y, .int r, .int t3], [.ref 28], (h.1, qm_up (qm_up (qm_up (qm_up (qm_up (qm_up (qm_up (qm_up (qm_up h.2.1 17 (v24.toInt.toNat) v32) 11 (v30.toInt.toNat) 0) 12 (v30.toInt.toNat) (-1)) 13 (v30.toInt.toNat) (-1)) 14 (v30.toInt.toNat) (-1)) 36 (v36.toInt.toNat) b) 28 6 v39) 37 (y.toInt.toNat) v41) 28 5 v46, J4, h.2.2.2))) rfl ?_
      refine hk_getr rfl (hH.1 28 (9, 8) rfl) rfl (hH.2 28 0 (some 6) rfl) ?_
      refine qm_Ru.go 5 (c' := (38, [.ref 28, .int b, .int y, .int r, .int t3], [.int t3, .int r, .int y, .int 1, .int b, .ref 6], (h.1, qm_up (qm_up (qm_up (qm_up (qm_up (qm_up (qm_up (qm_up (qm_up h.2.1 17 (v24.toInt.toNat) v32) 11 (v30.toInt.toNat) 0) 12 (v30.toInt.toNat) (-1)) 13 (v30.toInt.toNat) (-1)) 14 (v30.toInt.toNat) (-1)) 36 (v36.toInt.toNat) b) 28 6 v39) 37 (y.toInt.toNat) v41) 28 5 v46, J4, h.2.2.2))) rfl ?_
      refine hk_inv (o := 6) (r := []) (as := [.ref 6, .int b, .int 1, .int y, .int r, .int t3]) rfl rfl (hH.1 6 (6, 9) rfl) rfl rfl rfl rfl ?_
      refine qm_Ru.go 1 (c' := (1, [.ref 6, .int b, .int 1, .int y, .int r, .int t3], [.ref 6], (h.1, qm_up (qm_up (qm_up (qm_up (qm_up (qm_up (qm_up (qm_up (qm_up h.2.1 17 (v24.toInt.toNat) v32) 11 (v30.toInt.toNat) 0) 12 (v30.toInt.toNat) (-1)) 13 (v30.toInt.toNat) (-1)) 14 (v30.toInt.toNat) (-1)) 36 (v36.toInt.toNat) b) 28 6 v39) 37 (y.toInt.toNat) v41) 28 5 v46, J4, h.2.2.2))) rfl ?_
      refine hk_getr rfl (hH.1 6 (6, 9) rfl) rfl (hH.2 6 5 (some 11) rfl) ?_
      refine qm_Ru.go 2 (c' := (6, [.ref 6, .int b, .int 1, .int y, .int r, .int t3], [.int 1, .int b, .ref 11], (h.1, qm_up (qm_up (qm_up (qm_up (qm_up (qm_up (qm_up (qm_up (qm_up h.2.1 17 (v24.toInt.toNat) v32) 11 (v30.toInt.toNat) 0) 12 (v30.toInt.toNat) (-1)) 13 (v30.toInt.toNat) (-1)) 14 (v30.toInt.toNat) (-1)) 36 (v36.toInt.toNat) b) 28 6 v39) 37 (y.toInt.toNat) v41) 28 5 v46, J4, h.2.2.2))) rfl ?_
      refine hk_ias rfl (hH.1 11 (0, 30) rfl) (by omega) (by omega) ?_
      refine qm_Ru.go 1 (c' := (8, [.ref 6, .int b, .int 1, .int y, .int r, .int t3], [.ref 6], (h.1, qm_up (qm_up (qm_up (qm_up (qm_up (qm_up (qm_up (qm_up (qm_up (qm_up h.2.1 17 (v24.toInt.toNat) v32) 11 (v30.toInt.toNat) 0) 12 (v30.toInt.toNat) (-1)) 13 (v30.toInt.toNat) (-1)) 14 (v30.toInt.toNat) (-1)) 36 (v36.toInt.toNat) b) 28 6 v39) 37 (y.toInt.toNat) v41) 28 5 v46) 11 (b.toInt.toNat) 1, J4, h.2.2.2))) rfl ?_
      refine hk_getr rfl (hH.1 6 (6, 9) rfl) rfl (hH.2 6 6 (some 12) rfl) ?_
      refine qm_Ru.go 2 (c' := (13, [.ref 6, .int b, .int 1, .int y, .int r, .int t3], [.int y, .int b, .ref 12], (h.1, qm_up (qm_up (qm_up (qm_up (qm_up (qm_up (qm_up (qm_up (qm_up (qm_up h.2.1 17 (v24.toInt.toNat) v32) 11 (v30.toInt.toNat) 0) 12 (v30.toInt.toNat) (-1)) 13 (v30.toInt.toNat) (-1)) 14 (v30.toInt.toNat) (-1)) 36 (v36.toInt.toNat) b) 28 6 v39) 37 (y.toInt.toNat) v41) 28 5 v46) 11 (b.toInt.toNat) 1, J4, h.2.2.2))) rfl ?_
      refine hk_ias rfl (hH.1 12 (0, 30) rfl) (by omega) (by omega) ?_
      refine qm_Ru.go 1 (c' := (15, [.ref 6, .int b, .int 1, .int y, .int r, .int t3], [.ref 6], (h.1, qm_up (qm_up (qm_up (qm_up (qm_up (qm_up (qm_up (qm_up (qm_up (qm_up (qm_up h.2.1 17 (v24.toInt.toNat) v32) 11 (v30.toInt.toNat) 0) 12 (v30.toInt.toNat) (-1)) 13 (v30.toInt.toNat) (-1)) 14 (v30.toInt.toNat) (-1)) 36 (v36.toInt.toNat) b) 28 6 v39) 37 (y.toInt.toNat) v41) 28 5 v46) 11 (b.toInt.toNat) 1) 12 (b.toInt.toNat) y, J4, h.2.2.2))) rfl ?_
      refine hk_getr rfl (hH.1 6 (6, 9) rfl) rfl (hH.2 6 7 (some 13) rfl) ?_
      refine qm_Ru.go 2 (c' := (21, [.ref 6, .int b, .int 1, .int y, .int r, .int t3], [.int r, .int b, .ref 13], (h.1, qm_up (qm_up (qm_up (qm_up (qm_up (qm_up (qm_up (qm_up (qm_up (qm_up (qm_up h.2.1 17 (v24.toInt.toNat) v32) 11 (v30.toInt.toNat) 0) 12 (v30.toInt.toNat) (-1)) 13 (v30.toInt.toNat) (-1)) 14 (v30.toInt.toNat) (-1)) 36 (v36.toInt.toNat) b) 28 6 v39) 37 (y.toInt.toNat) v41) 28 5 v46) 11 (b.toInt.toNat) 1) 12 (b.toInt.toNat) y, J4, h.2.2.2))) rfl ?_
      refine hk_ias rfl (hH.1 13 (0, 30) rfl) (by omega) (by omega) ?_
      refine qm_Ru.go 1 (c' := (23, [.ref 6, .int b, .int 1, .int y, .int r, .int t3], [.ref 6], (h.1, qm_up (qm_up (qm_up (qm_up (qm_up (qm_up (qm_up (qm_up (qm_up (qm_up (qm_up (qm_up h.2.1 17 (v24.toInt.toNat) v32) 11 (v30.toInt.toNat) 0) 12 (v30.toInt.toNat) (-1)) 13 (v30.toInt.toNat) (-1)) 14 (v30.toInt.toNat) (-1)) 36 (v36.toInt.toNat) b) 28 6 v39) 37 (y.toInt.toNat) v41) 28 5 v46) 11 (b.toInt.toNat) 1) 12 (b.toInt.toNat) y) 13 (b.toInt.toNat) r, J4, h.2.2.2))) rfl ?_
      refine hk_getr rfl (hH.1 6 (6, 9) rfl) rfl (hH.2 6 8 (some 14) rfl) ?_
      refine qm_Ru.go 2 (c' := (29, [.ref 6, .int b, .int 1, .int y, .int r, .int t3], [.int t3, .int b, .ref 14], (h.1, qm_up (qm_up (qm_up (qm_up (qm_up (qm_up (qm_up (qm_up (qm_up (qm_up (qm_up (qm_up h.2.1 17 (v24.toInt.toNat) v32) 11 (v30.toInt.toNat) 0) 12 (v30.toInt.toNat) (-1)) 13 (v30.toInt.toNat) (-1)) 14 (v30.toInt.toNat) (-1)) 36 (v36.toInt.toNat) b) 28 6 v39) 37 (y.toInt.toNat) v41) 28 5 v46) 11 (b.toInt.toNat) 1) 12 (b.toInt.toNat) y) 13 (b.toInt.toNat) r, J4, h.2.2.2))) rfl ?_
      refine hk_ias rfl (hH.1 14 (0, 30) rfl) (by omega) (by omega) ?_
      refine qm_Ru.go 0 (c' := (30, [.ref 6, .int b, .int 1, .int y, .int r, .int t3], [], (h.1, qm_up (qm_up (qm_up (qm_up (qm_up (qm_up (qm_up (qm_up (qm_up (qm_up (qm_up (qm_up (qm_up h.2.1 17 (v24.toInt.toNat) v32) 11 (v30.toInt.toNat) 0) 12 (v30.toInt.toNat) (-1)) 13 (v30.toInt.toNat) (-1)) 14 (v30.toInt.toNat) (-1)) 36 (v36.toInt.toNat) b) 28 6 v39) 37 (y.toInt.toNat) v41) 28 5 v46) 11 (b.toInt.toNat) 1) 12 (b.toInt.toNat) y) 13 (b.toInt.toNat) r) 14 (b.toInt.toNat) t3, J4, h.2.2.2))) rfl ?_
      refine qm_Ru.rt (v := none) (h' := (h.1, qm_up (qm_up (qm_up (qm_up (qm_up (qm_up (qm_up (qm_up (qm_up (qm_up (qm_up (qm_up (qm_up h.2.1 17 (v24.toInt.toNat) v32) 11 (v30.toInt.toNat) 0) 12 (v30.toInt.toNat) (-1)) 13 (v30.toInt.toNat) (-1)) 14 (v30.toInt.toNat) (-1)) 36 (v36.toInt.toNat) b) 28 6 v39) 37 (y.toInt.toNat) v41) 28 5 v46) 11 (b.toInt.toNat) 1) 12 (b.toInt.toNat) y) 13 (b.toInt.toNat) r) 14 (b.toInt.toNat) t3, J4, h.2.2.2)) rfl ?_
      refine qm_Ru.go 0 (c' := (41, [.ref 28, .int b, .int y, .int r, .int t3], [], (h.1, qm_up (qm_up (qm_up (qm_up (qm_up (qm_up (qm_up (qm_up (qm_up (qm_up (qm_up (qm_up (qm_up h.2.1 17 (v24.toInt.toNat) v32) 11 (v30.toInt.toNat) 0) 12 (v30.toInt.toNat) (-1)) 13 (v30.toInt.toNat) (-1)) 14 (v30.toInt.toNat) (-1)) 36 (v36.toInt.toNat) b) 28 6 v39) 37 (y.toInt.toNat) v41) 28 5 v46) 11 (b.toInt.toNat) 1) 12 (b.toInt.toNat) y) 13 (b.toInt.toNat) r) 14 (b.toInt.toNat) t3, J4, h.2.2.2))) rfl ?_
      refine qm_Ru.rt (v := none) (h' := (h.1, qm_up (qm_up (qm_up (qm_up (qm_up (qm_up (qm_up (qm_up (qm_up (qm_up (qm_up (qm_up (qm_up h.2.1 17 (v24.toInt.toNat) v32) 11 (v30.toInt.toNat) 0) 12 (v30.toInt.toNat) (-1)) 13 (v30.toInt.toNat) (-1)) 14 (v30.toInt.toNat) (-1)) 36 (v36.toInt.toNat) b) 28 6 v39) 37 (y.toInt.toNat) v41) 28 5 v46) 11 (b.toInt.toNat) 1) 12 (b.toInt.toNat) y) 13 (b.toInt.toNat) r) 14 (b.toInt.toNat) t3, J4, h.2.2.2)) rfl ?_
      refine qm_Ru.go 1 (c' := (54, [.ref 28, .int b, .int y, .int r, .int t3], [.int t3], (h.1, qm_up (qm_up (qm_up (qm_up (qm_up (qm_up (qm_up (qm_up (qm_up (qm_up (qm_up (qm_up (qm_up h.2.1 17 (v24.toInt.toNat) v32) 11 (v30.toInt.toNat) 0) 12 (v30.toInt.toNat) (-1)) 13 (v30.toInt.toNat) (-1)) 14 (v30.toInt.toNat) (-1)) 36 (v36.toInt.toNat) b) 28 6 v39) 37 (y.toInt.toNat) v41) 28 5 v46) 11 (b.toInt.toNat) 1) 12 (b.toInt.toNat) y) 13 (b.toInt.toNat) r) 14 (b.toInt.toNat) t3, J4, h.2.2.2))) rfl ?_
      refine qm_Ru.rt (v := (some (.int t3))) (h' := (h.1, qm_up (qm_up (qm_up (qm_up (qm_up (qm_up (qm_up (qm_up (qm_up (qm_up (qm_up (qm_up (qm_up h.2.1 17 (v24.toInt.toNat) v32) 11 (v30.toInt.toNat) 0) 12 (v30.toInt.toNat) (-1)) 13 (v30.toInt.toNat) (-1)) 14 (v30.toInt.toNat) (-1)) 36 (v36.toInt.toNat) b) 28 6 v39) 37 (y.toInt.toNat) v41) 28 5 v46) 11 (b.toInt.toNat) 1) 12 (b.toInt.toNat) y) 13 (b.toInt.toNat) r) 14 (b.toInt.toNat) t3, J4, h.2.2.2)) rfl ?_
      exact k (some (.int t3)) (qm_up (qm_up (qm_up (qm_up (qm_up (qm_up (qm_up (qm_up (qm_up (qm_up (qm_up (qm_up (qm_up h.2.1 17 (v24.toInt.toNat) v32) 11 (v30.toInt.toNat) 0) 12 (v30.toInt.toNat) (-1)) 13 (v30.toInt.toNat) (-1)) 14 (v30.toInt.toNat) (-1)) 36 (v36.toInt.toNat) b) 28 6 v39) 37 (y.toInt.toNat) v41) 28 5 v46) 11 (b.toInt.toNat) 1) 12 (b.toInt.toNat) y) 13 (b.toInt.toNat) r) 14 (b.toInt.toNat) t3) (J4) ⟨_, rfl, ⟨by show (-3 : Int) ≤ t3.toInt; omega, by show t3.toInt ≤ (3 : Int); omega⟩⟩ (hb_up (o := 14) (k := b.toInt.toNat) (x := t3) (hb_up (o := 13) (k := b.toInt.toNat) (x := r) (hb_up (o := 12) (k := b.toInt.toNat) (x := y) (hb_up (o := 11) (k := b.toInt.toNat) (x := 1) (hb_up (o := 28) (k := 5) (x := v46) (hb_up (o := 37) (k := y.toInt.toNat) (x := v41) (hb_up (o := 28) (k := 6) (x := v39) (hb_up (o := 36) (k := v36.toInt.toNat) (x := b) (hb_up (o := 14) (k := v30.toInt.toNat) (x := (-1)) (hb_up (o := 13) (k := v30.toInt.toNat) (x := (-1)) (hb_up (o := 12) (k := v30.toInt.toNat) (x := (-1)) (hb_up (o := 11) (k := v30.toInt.toNat) (x := 0) (hb_up (o := 17) (k := v24.toInt.toNat) (x := v32) hB ⟨by show (0 : Int) ≤ v32.toInt; omega, by show v32.toInt ≤ (4 : Int); omega⟩) ⟨(show (0 : Int) ≤ 0 from by decide), (show (0 : Int) ≤ 2 from by decide)⟩) ⟨(show (-1 : Int) ≤ -1 from by decide), (show (-1 : Int) ≤ 4 from by decide)⟩) ⟨(show (-1 : Int) ≤ -1 from by decide), (show (-1 : Int) ≤ 3 from by decide)⟩) ⟨(show (-1 : Int) ≤ -1 from by decide), (show (-1 : Int) ≤ 3 from by decide)⟩) ⟨by show (-1 : Int) ≤ b.toInt; omega, by show b.toInt ≤ (29 : Int); omega⟩) (qa_in_full _)) (qa_in_full _)) (qa_in_full _)) ⟨(show (0 : Int) ≤ 1 from by decide), (show (1 : Int) ≤ 2 from by decide)⟩) ⟨by show (-1 : Int) ≤ y.toInt; omega, by show y.toInt ≤ (4 : Int); omega⟩) ⟨by show (-1 : Int) ≤ r.toInt; omega, by show r.toInt ≤ (3 : Int); omega⟩) ⟨by show (-1 : Int) ≤ t3.toInt; omega, by show t3.toInt ≤ (3 : Int); omega⟩) ⟨⟨(mC_put (I := qm_up (qm_up (qm_up (qm_up (qm_up h.2.1 17 (v24.toInt.toNat) v32) 11 (v30.toInt.toNat) 0) 12 (v30.toInt.toNat) (-1)) 13 (v30.toInt.toNat) (-1)) 14 (v30.toInt.toNat) (-1)) (I' := qm_up (qm_up (qm_up (qm_up (qm_up (qm_up (qm_up (qm_up (qm_up (qm_up (qm_up (qm_up (qm_up h.2.1 17 (v24.toInt.toNat) v32) 11 (v30.toInt.toNat) 0) 12 (v30.toInt.toNat) (-1)) 13 (v30.toInt.toNat) (-1)) 14 (v30.toInt.toNat) (-1)) 36 (v36.toInt.toNat) b) 28 6 v39) 37 (y.toInt.toNat) v41) 28 5 v46) 11 (b.toInt.toNat) 1) 12 (b.toInt.toNat) y) 13 (b.toInt.toNat) r) 14 (b.toInt.toNat) t3) (mC_take (I := h.2.1) (I' := qm_up (qm_up (qm_up (qm_up (qm_up h.2.1 17 (v24.toInt.toNat) v32) 11 (v30.toInt.toNat) 0) 12 (v30.toInt.toNat) (-1)) 13 (v30.toInt.toNat) (-1)) 14 (v30.toInt.toNat) (-1)) hV.1.1 ((pI_sk rfl).trans ((pI_sk rfl).trans ((pI_sk rfl).trans (pI_up.trans (congrArg (fun f => fu_up f v30.toInt.toNat (Int32.toInt 0)) ((pI_sk rfl).trans rfl)))))) ((pI_sk rfl).trans ((pI_sk rfl).trans (pI_up.trans (congrArg (fun f => fu_up f v30.toInt.toNat (Int32.toInt ((-1)))) ((pI_sk rfl).trans ((pI_sk rfl).trans rfl)))))) ((pI_sk rfl).trans (pI_up.trans (congrArg (fun f => fu_up f v30.toInt.toNat (Int32.toInt ((-1)))) ((pI_sk rfl).trans ((pI_sk rfl).trans ((pI_sk rfl).trans rfl)))))) (pI_up.trans (congrArg (fun f => fu_up f v30.toInt.toNat (Int32.toInt ((-1)))) ((pI_sk rfl).trans ((pI_sk rfl).trans ((pI_sk rfl).trans ((pI_sk rfl).trans rfl)))))) ((pI_sk rfl).trans ((pI_sk rfl).trans ((pI_sk rfl).trans ((pI_sk rfl).trans ((pI_sk rfl).trans rfl))))) ((pI_sk rfl).trans ((pI_sk rfl).trans ((pI_sk rfl).trans ((pI_sk rfl).trans ((pI_sk rfl).trans rfl))))) ((pI_sk rfl).trans ((pI_sk rfl).trans ((pI_sk rfl).trans ((pI_sk rfl).trans (pI_up.trans rfl))))) rfl (congrArg Int32.toInt q_v25) (show (h.2.1 16 (v29.toInt.toNat)).toInt.toNat = v30.toInt.toNat from by rw [q_v30]) rfl (by omega) (by omega) (by omega) (by omega) (by omega)) ((pI_sk rfl).trans ((pI_sk rfl).trans ((pI_sk rfl).trans (pI_up.trans (congrArg (fun f => fu_up f b.toInt.toNat (Int32.toInt 1)) ((pI_sk rfl).trans ((pI_sk rfl).trans ((pI_sk rfl).trans ((pI_sk rfl).trans rfl))))))))) ((pI_sk rfl).trans ((pI_sk rfl).trans (pI_up.trans (congrArg (fun f => fu_up f b.toInt.toNat (Int32.toInt y)) ((pI_sk rfl).trans ((pI_sk rfl).trans ((pI_sk rfl).trans ((pI_sk rfl).trans ((pI_sk rfl).trans rfl))))))))) ((pI_sk rfl).trans (pI_up.trans (congrArg (fun f => fu_up f b.toInt.toNat (Int32.toInt r)) ((pI_sk rfl).trans ((pI_sk rfl).trans ((pI_sk rfl).trans ((pI_sk rfl).trans ((pI_sk rfl).trans ((pI_sk rfl).trans rfl))))))))) (pI_up.trans (congrArg (fun f => fu_up f b.toInt.toNat (Int32.toInt t3)) ((pI_sk rfl).trans ((pI_sk rfl).trans ((pI_sk rfl).trans ((pI_sk rfl).trans ((pI_sk rfl).trans ((pI_sk rfl).trans ((pI_sk rfl).trans rfl))))))))) ((pI_sk rfl).trans ((pI_sk rfl).trans ((pI_sk rfl).trans ((pI_sk rfl).trans ((pI_sk rfl).trans ((pI_sk rfl).trans ((pI_sk rfl).trans (pI_up.trans rfl)))))))) ((pI_sk rfl).trans ((pI_sk rfl).trans ((pI_sk rfl).trans ((pI_sk rfl).trans ((pI_sk rfl).trans ((pI_sk rfl).trans ((pI_sk rfl).trans ((pI_sk rfl).trans rfl)))))))) ((pI_sk rfl).trans ((pI_sk rfl).trans ((pI_sk rfl).trans ((pI_sk rfl).trans ((pI_sk rfl).trans ((pI_sk rfl).trans ((pI_sk rfl).trans ((pI_sk rfl).trans rfl)))))))) rfl (congrArg Int32.toInt ((hk_ot rfl).trans ((hk_ot rfl).trans ((hk_ot rfl).trans (hk_equ (by omega)))))) (congrArg Int32.toInt q_v6) rfl (by omega) (by omega) (by omega) (by omega) (by omega) (by omega)), (mB_put (I := qm_up (qm_up (qm_up (qm_up (qm_up h.2.1 17 (v24.toInt.toNat) v32) 11 (v30.toInt.toNat) 0) 12 (v30.toInt.toNat) (-1)) 13 (v30.toInt.toNat) (-1)) 14 (v30.toInt.toNat) (-1)) (I' := qm_up (qm_up (qm_up (qm_up (qm_up (qm_up (qm_up (qm_up (qm_up (qm_up (qm_up (qm_up (qm_up h.2.1 17 (v24.toInt.toNat) v32) 11 (v30.toInt.toNat) 0) 12 (v30.toInt.toNat) (-1)) 13 (v30.toInt.toNat) (-1)) 14 (v30.toInt.toNat) (-1)) 36 (v36.toInt.toNat) b) 28 6 v39) 37 (y.toInt.toNat) v41) 28 5 v46) 11 (b.toInt.toNat) 1) 12 (b.toInt.toNat) y) 13 (b.toInt.toNat) r) 14 (b.toInt.toNat) t3) (y := y.toInt) (r := r.toInt) (t := t3.toInt) hV.1.2 ((pI_sk rfl).trans ((pI_sk rfl).trans ((pI_sk rfl).trans ((pI_sk rfl).trans ((pI_sk rfl).trans ((pI_sk rfl).trans ((pI_sk rfl).trans (pI_up.trans rfl)))))))) (by omega) (by omega) fb)⟩, hV.2⟩ (fun o ho i => ((hk_mod ho rfl).trans ((hk_mod ho rfl).trans ((hk_mod ho rfl).trans ((hk_mod ho rfl).trans ((hk_mod ho rfl).trans ((hk_mod ho rfl).trans ((hk_mod ho rfl).trans ((hk_mod ho rfl).trans ((hk_mod ho rfl).trans ((hk_mod ho rfl).trans ((hk_mod ho rfl).trans ((hk_mod ho rfl).trans ((hk_mod ho rfl).trans rfl))))))))))))))
