/-! contracts of the reference by hand -/
theorem hs_digsone {X : Option (Nat × (Nat → Int32))} {d : Nat} {Z : Option Value → qm_H → Prop} {h : qm_H} (hH : hk_H h) (hB : hk_B h.2.1) {dd a t : Int32} (b_dd : (0 : Int) ≤ dd.toInt ∧ dd.toInt ≤ 5) (b_a : (0 : Int) ≤ a.toInt ∧ a.toInt ≤ 3) (b_t : (0 : Int) ≤ t.toInt ∧ t.toInt ≤ 3) (hne : a.toInt ≠ t.toInt) {ha hb : Int} (ea : lvl h.2.1 dd.toInt.toNat (16 + a.toInt.toNat) = ha) (eb : lvl h.2.1 dd.toInt.toNat (16 + t.toInt.toNat) = hb) (a1 : 1 ≤ ha) (a4 : ha ≤ 4) (b0 : 0 ≤ hb) (b3 : hb ≤ 3) (k : ∀ I : Nat → Nat → Int32, hk_B I → (∀ o, [161].contains o = false → ∀ i, I o i = h.2.1 o i) → lvl I dd.toInt.toNat = dg (lvl h.2.1 dd.toInt.toNat) a.toInt.toNat t.toInt.toNat ha hb (lvl h.2.1 dd.toInt.toNat (4 * a.toInt.toNat + (ha - 1).toNat)) → (∀ i, (i < 20 * dd.toInt.toNat ∨ 20 * dd.toInt.toNat + 20 ≤ i) → I 161 i = h.2.1 161 i) → Z none (h.1, I, h.2.2.1, h.2.2.2)) : qm_Ru X (d + 20) cd_338 (qm_ent 5 [.ref 118, .int dd, .int a, .int t] h) Z := by
  refine qm_Ru.go 3 (c' := (3, [.ref 118, .int dd, .int a, .int t, .float 0], [.int a, .int dd, .ref 118], h)) rfl ?_
  refine hk_inv (o := 118) (r := []) (as := [.ref 118, .int dd, .int a]) rfl rfl (hH.1 118 (17, 105) rfl) rfl rfl rfl rfl ?_
  refine qm_Ru.go 1 (c' := (1, [.ref 118, .int dd, .int a, .float 0], [.ref 118], h)) rfl ?_
  refine hk_getr rfl (hH.1 118 (17, 105) rfl) rfl (hH.2 118 64 (some 161) rfl) ?_
  refine qm_Ru.go 3 (c' := (8, [.ref 118, .int dd, .int a, .float 0], [.int (20 * dd), .ref 161], h)) rfl ?_
  obtain ⟨v1, q_v1, e_v1⟩ := hk_mul (x := 20) (y := dd) (a := 20) (b := dd.toInt) rfl rfl (by omega) (by omega)
  rw [q_v1]
  refine qm_Ru.go 2 (c' := (11, [.ref 118, .int dd, .int a, .float 0], [.int (v1 + 16), .ref 161], h)) rfl ?_
  obtain ⟨v2, q_v2, e_v2⟩ := hk_add (x := v1) (y := 16) (a := v1.toInt) (b := 16) rfl rfl (by omega) (by omega)
  rw [q_v2]
  refine qm_Ru.go 2 (c' := (13, [.ref 118, .int dd, .int a, .float 0], [.int (v2 + a), .ref 161], h)) rfl ?_
  obtain ⟨v3, q_v3, e_v3⟩ := hk_add (x := v2) (y := a) (a := v2.toInt) (b := a.toInt) rfl rfl (by omega) (by omega)
  rw [q_v3]
  obtain ⟨v4, q_v4⟩ : ∃ v, h.2.1 161 (v3.toInt.toNat) = v := ⟨_, rfl⟩
  have b_v4 : (0 : Int) ≤ v4.toInt ∧ v4.toInt ≤ 29 := by rw [← q_v4]; exact hB 161 (v3.toInt.toNat)
  refine hk_ial (v := v4) rfl (hH.1 161 (0, 120) rfl) (by omega) (by omega) q_v4 ?_
  refine qm_Ru.go 0 (c' := (14, [.ref 118, .int dd, .int a, .float 0], [.int v4], h)) rfl ?_
  have l_v4 : v4.toInt = ha := by rw [← ea]; exact (lv_of q_v4 (by omega)).symm
  refine qm_Ru.go 2 (c' := (16, [.ref 118, .int dd, .int a, .int v4], [.int v4], h)) rfl ?_
  refine hk_zne (ix := v4.toInt) rfl rfl (fun z5 => ?_) (fun z5 => by exfalso; omega)
  refine qm_Ru.go 1 (c' := (24, [.ref 118, .int dd, .int a, .int v4], [.ref 118], h)) rfl ?_
  refine hk_getr rfl (hH.1 118 (17, 105) rfl) rfl (hH.2 118 64 (some 161) rfl) ?_
  refine qm_Ru.go 3 (c' := (31, [.ref 118, .int dd, .int a, .int v4], [.int (20 * dd), .ref 161], h)) rfl ?_
  rw [q_v1]
  refine qm_Ru.go 3 (c' := (34, [.ref 118, .int dd, .int a, .int v4], [.int (4 * a), .int v1, .ref 161], h)) rfl ?_
  obtain ⟨v7, q_v7, e_v7⟩ := hk_mul (x := 4) (y := a) (a := 4) (b := a.toInt) rfl rfl (by omega) (by omega)
  rw [q_v7]
  refine qm_Ru.go 1 (c' := (35, [.ref 118, .int dd, .int a, .int v4], [.int (v1 + v7), .ref 161], h)) rfl ?_
  obtain ⟨v8, q_v8, e_v8⟩ := hk_add (x := v1) (y := v7) (a := v1.toInt) (b := v7.toInt) rfl rfl (by omega) (by omega)
  rw [q_v8]
  refine qm_Ru.go 2 (c' := (37, [.ref 118, .int dd, .int a, .int v4], [.int (v8 + v4), .ref 161], h)) rfl ?_
  obtain ⟨v9, q_v9, e_v9⟩ := hk_add (x := v8) (y := v4) (a := v8.toInt) (b := v4.toInt) rfl rfl (by omega) (by omega)
  rw [q_v9]
  refine qm_Ru.go 2 (c' := (39, [.ref 118, .int dd, .int a, .int v4], [.int (v9 - 1), .ref 161], h)) rfl ?_
  obtain ⟨v10, q_v10, e_v10⟩ := hk_sub (x := v9) (y := 1) (a := v9.toInt) (b := 1) rfl rfl (by omega) (by omega)
  rw [q_v10]
  obtain ⟨v11, q_v11⟩ : ∃ v, h.2.1 161 (v10.toInt.toNat) = v := ⟨_, rfl⟩
  have b_v11 : (0 : Int) ≤ v11.toInt ∧ v11.toInt ≤ 29 := by rw [← q_v11]; exact hB 161 (v10.toInt.toNat)
  refine hk_ial (v := v11) rfl (hH.1 161 (0, 120) rfl) (by omega) (by omega) q_v11 ?_
  refine qm_Ru.go 0 (c' := (40, [.ref 118, .int dd, .int a, .int v4], [.int v11], h)) rfl ?_
  have l_v11 : lvl h.2.1 dd.toInt.toNat (4 * a.toInt.toNat + (ha - 1).toNat) = v11.toInt := lv_of q_v11 (by omega)
  refine qm_Ru.rt (v := (some (.int v11))) (h' := h) rfl ?_
  refine qm_Ru.go 2 (c' := (9, [.ref 118, .int dd, .int a, .int t, .int v11], [.ref 118], h)) rfl ?_
  refine hk_getr rfl (hH.1 118 (17, 105) rfl) rfl (hH.2 118 64 (some 161) rfl) ?_
  refine qm_Ru.go 3 (c' := (16, [.ref 118, .int dd, .int a, .int t, .int v11], [.int (20 * dd), .ref 161], h)) rfl ?_
  rw [q_v1]
  refine qm_Ru.go 2 (c' := (19, [.ref 118, .int dd, .int a, .int t, .int v11], [.int (v1 + 16), .ref 161], h)) rfl ?_
  rw [q_v2]
  refine qm_Ru.go 2 (c' := (21, [.ref 118, .int dd, .int a, .int t, .int v11], [.int (v2 + a), .ref 161], h)) rfl ?_
  rw [q_v3]
  refine qm_Ru.go 1 (c' := (22, [.ref 118, .int dd, .int a, .int t, .int v11], [.int v3, .ref 161, .int v3, .ref 161], h)) rfl ?_
  refine hk_ial (v := v4) rfl (hH.1 161 (0, 120) rfl) (by omega) (by omega) q_v4 ?_
  refine qm_Ru.go 2 (c' := (25, [.ref 118, .int dd, .int a, .int t, .int v11], [.int (v4 - 1), .int v3, .ref 161], h)) rfl ?_
  obtain ⟨v15, q_v15, e_v15⟩ := hk_sub (x := v4) (y := 1) (a := v4.toInt) (b := 1) rfl rfl (by omega) (by omega)
  rw [q_v15]
  refine hk_ias rfl (hH.1 161 (0, 120) rfl) (by omega) (by omega) ?_
  refine qm_Ru.go 1 (c' := (27, [.ref 118, .int dd, .int a, .int t, .int v11], [.ref 118], (h.1, qm_up h.2.1 161 (v3.toInt.toNat) v15, h.2.2.1, h.2.2.2))) rfl ?_
  refine hk_getr rfl (hH.1 118 (17, 105) rfl) rfl (hH.2 118 64 (some 161) rfl) ?_
  refine qm_Ru.go 3 (c' := (34, [.ref 118, .int dd, .int a, .int t, .int v11], [.int (20 * dd), .ref 161], (h.1, qm_up h.2.1 161 (v3.toInt.toNat) v15, h.2.2.1, h.2.2.2))) rfl ?_
  rw [q_v1]
  refine qm_Ru.go 3 (c' := (37, [.ref 118, .int dd, .int a, .int t, .int v11], [.int (4 * t), .int v1, .ref 161], (h.1, qm_up h.2.1 161 (v3.toInt.toNat) v15, h.2.2.1, h.2.2.2))) rfl ?_
  obtain ⟨v17, q_v17, e_v17⟩ := hk_mul (x := 4) (y := t) (a := 4) (b := t.toInt) rfl rfl (by omega) (by omega)
  rw [q_v17]
  refine qm_Ru.go 1 (c' := (38, [.ref 118, .int dd, .int a, .int t, .int v11], [.int (v1 + v17), .ref 161], (h.1, qm_up h.2.1 161 (v3.toInt.toNat) v15, h.2.2.1, h.2.2.2))) rfl ?_
  obtain ⟨v18, q_v18, e_v18⟩ := hk_add (x := v1) (y := v17) (a := v1.toInt) (b := v17.toInt) rfl rfl (by omega) (by omega)
  rw [q_v18]
  refine qm_Ru.go 1 (c' := (39, [.ref 118, .int dd, .int a, .int t, .int v11], [.ref 118, .int v18, .ref 161], (h.1, qm_up h.2.1 161 (v3.toInt.toNat) v15, h.2.2.1, h.2.2.2))) rfl ?_
  refine hk_getr rfl (hH.1 118 (17, 105) rfl) rfl (hH.2 118 64 (some 161) rfl) ?_
  refine qm_Ru.go 3 (c' := (46, [.ref 118, .int dd, .int a, .int t, .int v11], [.int (20 * dd), .ref 161, .int v18, .ref 161], (h.1, qm_up h.2.1 161 (v3.toInt.toNat) v15, h.2.2.1, h.2.2.2))) rfl ?_
  rw [q_v1]
  refine qm_Ru.go 2 (c' := (49, [.ref 118, .int dd, .int a, .int t, .int v11], [.int (v1 + 16), .ref 161, .int v18, .ref 161], (h.1, qm_up h.2.1 161 (v3.toInt.toNat) v15, h.2.2.1, h.2.2.2))) rfl ?_
  rw [q_v2]
  refine qm_Ru.go 2 (c' := (51, [.ref 118, .int dd, .int a, .int t, .int v11], [.int (v2 + t), .ref 161, .int v18, .ref 161], (h.1, qm_up h.2.1 161 (v3.toInt.toNat) v15, h.2.2.1, h.2.2.2))) rfl ?_
  obtain ⟨v21, q_v21, e_v21⟩ := hk_add (x := v2) (y := t) (a := v2.toInt) (b := t.toInt) rfl rfl (by omega) (by omega)
  rw [q_v21]
  obtain ⟨v22, q_v22⟩ : ∃ v, h.2.1 161 (v21.toInt.toNat) = v := ⟨_, rfl⟩
  have b_v22 : (0 : Int) ≤ v22.toInt ∧ v22.toInt ≤ 29 := by rw [← q_v22]; exact hB 161 (v21.toInt.toNat)
  refine hk_ial (v := v22) rfl (hH.1 161 (0, 120) rfl) (by omega) (by omega) (show (qm_up h.2.1 161 (v3.toInt.toNat) v15) 161 (v21.toInt.toNat) = _ from ((hk_neq (by omega)).trans q_v22)) ?_
  refine qm_Ru.go 0 (c' := (52, [.ref 118, .int dd, .int a, .int t, .int v11], [.int v22, .int v18, .ref 161], (h.1, qm_up h.2.1 161 (v3.toInt.toNat) v15, h.2.2.1, h.2.2.2))) rfl ?_
  have l_v22 : v22.toInt = hb := by rw [← eb]; exact (lv_of q_v22 (by omega)).symm
  refine qm_Ru.go 1 (c' := (53, [.ref 118, .int dd, .int a, .int t, .int v11], [.int (v18 + v22), .ref 161], (h.1, qm_up h.2.1 161 (v3.toInt.toNat) v15, h.2.2.1, h.2.2.2))) rfl ?_
  obtain ⟨v23, q_v23, e_v23⟩ := hk_add (x := v18) (y := v22) (a := v18.toInt) (b := v22.toInt) rfl rfl (by omega) (by omega)
  rw [q_v23]
  refine qm_Ru.go 1 (c' := (55, [.ref 118, .int dd, .int a, .int t, .int v11], [.int v11, .int v23, .ref 161], (h.1, qm_up h.2.1 161 (v3.toInt.toNat) v15, h.2.2.1, h.2.2.2))) rfl ?_
  refine hk_ias rfl (hH.1 161 (0, 120) rfl) (by omega) (by omega) ?_
  refine qm_Ru.go 1 (c' := (57, [.ref 118, .int dd, .int a, .int t, .int v11], [.ref 118], (h.1, qm_up (qm_up h.2.1 161 (v3.toInt.toNat) v15) 161 (v23.toInt.toNat) v11, h.2.2.1, h.2.2.2))) rfl ?_
  refine hk_getr rfl (hH.1 118 (17, 105) rfl) rfl (hH.2 118 64 (some 161) rfl) ?_
  refine qm_Ru.go 3 (c' := (64, [.ref 118, .int dd, .int a, .int t, .int v11], [.int (20 * dd), .ref 161], (h.1, qm_up (qm_up h.2.1 161 (v3.toInt.toNat) v15) 161 (v23.toInt.toNat) v11, h.2.2.1, h.2.2.2))) rfl ?_
  rw [q_v1]
  refine qm_Ru.go 2 (c' := (67, [.ref 118, .int dd, .int a, .int t, .int v11], [.int (v1 + 16), .ref 161], (h.1, qm_up (qm_up h.2.1 161 (v3.toInt.toNat) v15) 161 (v23.toInt.toNat) v11, h.2.2.1, h.2.2.2))) rfl ?_
  rw [q_v2]
  refine qm_Ru.go 2 (c' := (69, [.ref 118, .int dd, .int a, .int t, .int v11], [.int (v2 + t), .ref 161], (h.1, qm_up (qm_up h.2.1 161 (v3.toInt.toNat) v15) 161 (v23.toInt.toNat) v11, h.2.2.1, h.2.2.2))) rfl ?_
  rw [q_v21]
  refine qm_Ru.go 1 (c' := (70, [.ref 118, .int dd, .int a, .int t, .int v11], [.int v21, .ref 161, .int v21, .ref 161], (h.1, qm_up (qm_up h.2.1 161 (v3.toInt.toNat) v15) 161 (v23.toInt.toNat) v11, h.2.2.1, h.2.2.2))) rfl ?_
  refine hk_ial (v := v22) rfl (hH.1 161 (0, 120) rfl) (by omega) (by omega) (show (qm_up (qm_up h.2.1 161 (v3.toInt.toNat) v15) 161 (v23.toInt.toNat) v11) 161 (v21.toInt.toNat) = _ from ((hk_neq (by omega)).trans ((hk_neq (by omega)).trans q_v22))) ?_
  refine qm_Ru.go 0 (c' := (71, [.ref 118, .int dd, .int a, .int t, .int v11], [.int v22, .int v21, .ref 161], (h.1, qm_up (qm_up h.2.1 161 (v3.toInt.toNat) v15) 161 (v23.toInt.toNat) v11, h.2.2.1, h.2.2.2))) rfl ?_
  refine qm_Ru.go 2 (c' := (73, [.ref 118, .int dd, .int a, .int t, .int v11], [.int (v22 + 1), .int v21, .ref 161], (h.1, qm_up (qm_up h.2.1 161 (v3.toInt.toNat) v15) 161 (v23.toInt.toNat) v11, h.2.2.1, h.2.2.2))) rfl ?_
  obtain ⟨v27, q_v27, e_v27⟩ := hk_add (x := v22) (y := 1) (a := v22.toInt) (b := 1) rfl rfl (by omega) (by omega)
  rw [q_v27]
  refine hk_ias rfl (hH.1 161 (0, 120) rfl) (by omega) (by omega) ?_
  refine qm_Ru.go 0 (c' := (74, [.ref 118, .int dd, .int a, .int t, .int v11], [], (h.1, qm_up (qm_up (qm_up h.2.1 161 (v3.toInt.toNat) v15) 161 (v23.toInt.toNat) v11) 161 (v21.toInt.toNat) v27, h.2.2.1, h.2.2.2))) rfl ?_
  refine qm_Ru.rt (v := none) (h' := (h.1, qm_up (qm_up (qm_up h.2.1 161 (v3.toInt.toNat) v15) 161 (v23.toInt.toNat) v11) 161 (v21.toInt.toNat) v27, h.2.2.1, h.2.2.2)) rfl ?_
  exact k (qm_up (qm_up (qm_up h.2.1 161 (v3.toInt.toNat) v15) 161 (v23.toInt.toNat) v11) 161 (v21.toInt.toNat) v27) (hb_up (o := 161) (k := v21.toInt.toNat) (x := v27) (hb_up (o := 161) (k := v23.toInt.toNat) (x := v11) (hb_up (o := 161) (k := v3.toInt.toNat) (x := v15) hB ⟨by show (0 : Int) ≤ v15.toInt; omega, by show v15.toInt ≤ (29 : Int); omega⟩) ⟨by show (0 : Int) ≤ v11.toInt; omega, by show v11.toInt ≤ (29 : Int); omega⟩) ⟨by show (0 : Int) ≤ v27.toInt; omega, by show v27.toInt ≤ (29 : Int); omega⟩) (fun o ho i => ((hk_mod ho rfl).trans ((hk_mod ho rfl).trans ((hk_mod ho rfl).trans rfl)))) ((lv_up (n := 16 + t.toInt.toNat) (by omega)).trans (by rw [lv_up (n := 4 * t.toInt.toNat + hb.toNat) (by omega), lv_up (n := 16 + a.toInt.toNat) (by omega), l_v11]; unfold dg; rw [show v15.toInt = ha - 1 from by omega, show v27.toInt = hb + 1 from by omega])) (fun i hi => (hk_neq (by omega)).trans ((hk_neq (by omega)).trans (hk_neq (by omega))))
