/-! contracts of the reference by hand -/
theorem hs_mv_22 {X : Option (Nat × (Nat → Int32))} {d : Nat} {Z : Option Value → qm_H → Prop} {h : qm_H} (hH : hk_H h) (hB : hk_B h.2.1) {a t : Int32} (b_a : (0 : Int) ≤ a.toInt ∧ a.toInt ≤ 3) (b_t : (0 : Int) ≤ t.toInt ∧ t.toInt ≤ 3) (hne : a.toInt ≠ t.toInt) {ha hb : Int} (ea : (pI h.2.1 22) (16 + a.toInt.toNat) = ha) (eb : (pI h.2.1 22) (16 + t.toInt.toNat) = hb) (a1 : 1 ≤ ha) (a4 : ha ≤ 4) (b0 : 0 ≤ hb) (b3 : hb ≤ 3) (k : ∀ I : Nat → Nat → Int32, hk_B I → (∀ o, [22].contains o = false → ∀ i, I o i = h.2.1 o i) → pI I 22 = dg (pI h.2.1 22) a.toInt.toNat t.toInt.toNat ha hb ((pI h.2.1 22) (4 * a.toInt.toNat + (ha - 1).toNat)) → Z none (h.1, I, h.2.2.1, h.2.2.2)) : qm_Ru X (d + 20) cd_166 (qm_ent 4 [.ref 22, .int a, .int t] h) Z := by
  refine qm_Ru.go 2 (c' := (2, [.ref 22, .int a, .int t, .float 0], [.int a, .ref 22], h)) rfl ?_
  refine qm_Ru.call (j := 164) (as := [.ref 22, .int a]) (c' := (5, [.ref 22, .int a, .int t, .float 0], [], h)) rfl rfl rfl ?_
  refine qm_Ru.go 4 (c' := (5, [.ref 22, .int a, .float 0], [.int (16 + a), .ref 22], h)) rfl ?_
  obtain ⟨v1, q_v1, e_v1⟩ := hk_add (x := 16) (y := a) (a := 16) (b := a.toInt) rfl rfl (by omega) (by omega)
  rw [q_v1]
  obtain ⟨v2, q_v2⟩ : ∃ v, h.2.1 22 (v1.toInt.toNat) = v := ⟨_, rfl⟩
  have b_v2 : (0 : Int) ≤ v2.toInt ∧ v2.toInt ≤ 12 := by rw [← q_v2]; exact hB 22 (v1.toInt.toNat)
  refine hk_ial (v := v2) rfl (hH.1 22 (0, 21) rfl) (by omega) (by omega) q_v2 ?_
  refine qm_Ru.go 0 (c' := (6, [.ref 22, .int a, .float 0], [.int v2], h)) rfl ?_
  have l_v2 : v2.toInt = ha := ((congrArg (pI h.2.1 22) (show 16 + a.toInt.toNat = v1.toInt.toNat from by omega)).trans (congrArg Int32.toInt q_v2)).symm.trans ea
  refine qm_Ru.go 2 (c' := (8, [.ref 22, .int a, .int v2], [.int v2], h)) rfl ?_
  refine hk_zne (ix := v2.toInt) rfl rfl (fun z3 => ?_) (fun z3 => by exfalso; omega)
  refine qm_Ru.go 4 (c' := (20, [.ref 22, .int a, .int v2], [.int (a * 4), .ref 22], h)) rfl ?_
  obtain ⟨v4, q_v4, e_v4⟩ := hk_mul (x := a) (y := 4) (a := a.toInt) (b := 4) rfl rfl (by omega) (by omega)
  rw [q_v4]
  refine qm_Ru.go 2 (c' := (22, [.ref 22, .int a, .int v2], [.int (v4 + v2), .ref 22], h)) rfl ?_
  obtain ⟨v5, q_v5, e_v5⟩ := hk_add (x := v4) (y := v2) (a := v4.toInt) (b := v2.toInt) rfl rfl (by omega) (by omega)
  rw [q_v5]
  refine qm_Ru.go 2 (c' := (24, [.ref 22, .int a, .int v2], [.int (v5 - 1), .ref 22], h)) rfl ?_
  obtain ⟨v6, q_v6, e_v6⟩ := hk_sub (x := v5) (y := 1) (a := v5.toInt) (b := 1) rfl rfl (by omega) (by omega)
  rw [q_v6]
  obtain ⟨v7, q_v7⟩ : ∃ v, h.2.1 22 (v6.toInt.toNat) = v := ⟨_, rfl⟩
  have b_v7 : (0 : Int) ≤ v7.toInt ∧ v7.toInt ≤ 12 := by rw [← q_v7]; exact hB 22 (v6.toInt.toNat)
  refine hk_ial (v := v7) rfl (hH.1 22 (0, 21) rfl) (by omega) (by omega) q_v7 ?_
  refine qm_Ru.go 0 (c' := (25, [.ref 22, .int a, .int v2], [.int v7], h)) rfl ?_
  have l_v7 : (pI h.2.1 22) (4 * a.toInt.toNat + (ha - 1).toNat) = v7.toInt := ((congrArg (pI h.2.1 22) (show 4 * a.toInt.toNat + (ha - 1).toNat = v6.toInt.toNat from by omega)).trans (congrArg Int32.toInt q_v7))
  refine qm_Ru.rt (v := (some (.int v7))) (h' := h) rfl ?_
  refine qm_Ru.go 5 (c' := (11, [.ref 22, .int a, .int t, .int v7], [.int (16 + a), .ref 22], h)) rfl ?_
  rw [q_v1]
  refine qm_Ru.go 1 (c' := (12, [.ref 22, .int a, .int t, .int v7], [.int v1, .ref 22, .int v1, .ref 22], h)) rfl ?_
  refine hk_ial (v := v2) rfl (hH.1 22 (0, 21) rfl) (by omega) (by omega) q_v2 ?_
  refine qm_Ru.go 2 (c' := (15, [.ref 22, .int a, .int t, .int v7], [.int (v2 - 1), .int v1, .ref 22], h)) rfl ?_
  obtain ⟨v9, q_v9, e_v9⟩ := hk_sub (x := v2) (y := 1) (a := v2.toInt) (b := 1) rfl rfl (by omega) (by omega)
  rw [q_v9]
  refine hk_ias rfl (hH.1 22 (0, 21) rfl) (by omega) (by omega) ?_
  refine qm_Ru.go 4 (c' := (20, [.ref 22, .int a, .int t, .int v7], [.int (t * 4), .ref 22], (h.1, qm_up h.2.1 22 (v1.toInt.toNat) v9, h.2.2.1, h.2.2.2))) rfl ?_
  obtain ⟨v10, q_v10, e_v10⟩ := hk_mul (x := t) (y := 4) (a := t.toInt) (b := 4) rfl rfl (by omega) (by omega)
  rw [q_v10]
  refine qm_Ru.go 4 (c' := (25, [.ref 22, .int a, .int t, .int v7], [.int (16 + t), .ref 22, .int v10, .ref 22], (h.1, qm_up h.2.1 22 (v1.toInt.toNat) v9, h.2.2.1, h.2.2.2))) rfl ?_
  obtain ⟨v11, q_v11, e_v11⟩ := hk_add (x := 16) (y := t) (a := 16) (b := t.toInt) rfl rfl (by omega) (by omega)
  rw [q_v11]
  obtain ⟨v12, q_v12⟩ : ∃ v, h.2.1 22 (v11.toInt.toNat) = v := ⟨_, rfl⟩
  have b_v12 : (0 : Int) ≤ v12.toInt ∧ v12.toInt ≤ 12 := by rw [← q_v12]; exact hB 22 (v11.toInt.toNat)
  refine hk_ial (v := v12) rfl (hH.1 22 (0, 21) rfl) (by omega) (by omega) (show (qm_up h.2.1 22 (v1.toInt.toNat) v9) 22 (v11.toInt.toNat) = _ from ((hk_neq (by omega)).trans q_v12)) ?_
  refine qm_Ru.go 0 (c' := (26, [.ref 22, .int a, .int t, .int v7], [.int v12, .int v10, .ref 22], (h.1, qm_up h.2.1 22 (v1.toInt.toNat) v9, h.2.2.1, h.2.2.2))) rfl ?_
  have l_v12 : v12.toInt = hb := ((congrArg (pI h.2.1 22) (show 16 + t.toInt.toNat = v11.toInt.toNat from by omega)).trans (congrArg Int32.toInt q_v12)).symm.trans eb
  refine qm_Ru.go 1 (c' := (27, [.ref 22, .int a, .int t, .int v7], [.int (v10 + v12), .ref 22], (h.1, qm_up h.2.1 22 (v1.toInt.toNat) v9, h.2.2.1, h.2.2.2))) rfl ?_
  obtain ⟨v13, q_v13, e_v13⟩ := hk_add (x := v10) (y := v12) (a := v10.toInt) (b := v12.toInt) rfl rfl (by omega) (by omega)
  rw [q_v13]
  refine qm_Ru.go 1 (c' := (28, [.ref 22, .int a, .int t, .int v7], [.int v7, .int v13, .ref 22], (h.1, qm_up h.2.1 22 (v1.toInt.toNat) v9, h.2.2.1, h.2.2.2))) rfl ?_
  refine hk_ias rfl (hH.1 22 (0, 21) rfl) (by omega) (by omega) ?_
  refine qm_Ru.go 4 (c' := (34, [.ref 22, .int a, .int t, .int v7], [.int (16 + t), .ref 22], (h.1, qm_up (qm_up h.2.1 22 (v1.toInt.toNat) v9) 22 (v13.toInt.toNat) v7, h.2.2.1, h.2.2.2))) rfl ?_
  rw [q_v11]
  refine qm_Ru.go 1 (c' := (35, [.ref 22, .int a, .int t, .int v7], [.int v11, .ref 22, .int v11, .ref 22], (h.1, qm_up (qm_up h.2.1 22 (v1.toInt.toNat) v9) 22 (v13.toInt.toNat) v7, h.2.2.1, h.2.2.2))) rfl ?_
  refine hk_ial (v := v12) rfl (hH.1 22 (0, 21) rfl) (by omega) (by omega) (show (qm_up (qm_up h.2.1 22 (v1.toInt.toNat) v9) 22 (v13.toInt.toNat) v7) 22 (v11.toInt.toNat) = _ from ((hk_neq (by omega)).trans ((hk_neq (by omega)).trans q_v12))) ?_
  refine qm_Ru.go 0 (c' := (36, [.ref 22, .int a, .int t, .int v7], [.int v12, .int v11, .ref 22], (h.1, qm_up (qm_up h.2.1 22 (v1.toInt.toNat) v9) 22 (v13.toInt.toNat) v7, h.2.2.1, h.2.2.2))) rfl ?_
  refine qm_Ru.go 2 (c' := (38, [.ref 22, .int a, .int t, .int v7], [.int (v12 + 1), .int v11, .ref 22], (h.1, qm_up (qm_up h.2.1 22 (v1.toInt.toNat) v9) 22 (v13.toInt.toNat) v7, h.2.2.1, h.2.2.2))) rfl ?_
  obtain ⟨v15, q_v15, e_v15⟩ := hk_add (x := v12) (y := 1) (a := v12.toInt) (b := 1) rfl rfl (by omega) (by omega)
  rw [q_v15]
  refine hk_ias rfl (hH.1 22 (0, 21) rfl) (by omega) (by omega) ?_
  refine qm_Ru.go 0 (c' := (39, [.ref 22, .int a, .int t, .int v7], [], (h.1, qm_up (qm_up (qm_up h.2.1 22 (v1.toInt.toNat) v9) 22 (v13.toInt.toNat) v7) 22 (v11.toInt.toNat) v15, h.2.2.1, h.2.2.2))) rfl ?_
  refine qm_Ru.rt (v := none) (h' := (h.1, qm_up (qm_up (qm_up h.2.1 22 (v1.toInt.toNat) v9) 22 (v13.toInt.toNat) v7) 22 (v11.toInt.toNat) v15, h.2.2.1, h.2.2.2)) rfl ?_
  exact k (qm_up (qm_up (qm_up h.2.1 22 (v1.toInt.toNat) v9) 22 (v13.toInt.toNat) v7) 22 (v11.toInt.toNat) v15) (hb_up (o := 22) (k := v11.toInt.toNat) (x := v15) (hb_up (o := 22) (k := v13.toInt.toNat) (x := v7) (hb_up (o := 22) (k := v1.toInt.toNat) (x := v9) hB ⟨by show (0 : Int) ≤ v9.toInt; omega, by show v9.toInt ≤ (12 : Int); omega⟩) ⟨by show (0 : Int) ≤ v7.toInt; omega, by show v7.toInt ≤ (12 : Int); omega⟩) ⟨by show (0 : Int) ≤ v15.toInt; omega, by show v15.toInt ≤ (12 : Int); omega⟩) (fun o ho i => ((hk_mod ho rfl).trans ((hk_mod ho rfl).trans ((hk_mod ho rfl).trans rfl)))) (by rw [pI_up, pI_up, pI_up, l_v7]; unfold dg; rw [show v9.toInt = ha - 1 from by omega, show v15.toInt = hb + 1 from by omega, show v1.toInt.toNat = 16 + a.toInt.toNat from by omega, show v13.toInt.toNat = 4 * t.toInt.toNat + hb.toNat from by omega, show v11.toInt.toNat = 16 + t.toInt.toNat from by omega])
theorem hs_mv_23 {X : Option (Nat × (Nat → Int32))} {d : Nat} {Z : Option Value → qm_H → Prop} {h : qm_H} (hH : hk_H h) (hB : hk_B h.2.1) {a t : Int32} (b_a : (0 : Int) ≤ a.toInt ∧ a.toInt ≤ 3) (b_t : (0 : Int) ≤ t.toInt ∧ t.toInt ≤ 3) (hne : a.toInt ≠ t.toInt) {ha hb : Int} (ea : (pI h.2.1 23) (16 + a.toInt.toNat) = ha) (eb : (pI h.2.1 23) (16 + t.toInt.toNat) = hb) (a1 : 1 ≤ ha) (a4 : ha ≤ 4) (b0 : 0 ≤ hb) (b3 : hb ≤ 3) (k : ∀ I : Nat → Nat → Int32, hk_B I → (∀ o, [23].contains o = false → ∀ i, I o i = h.2.1 o i) → pI I 23 = dg (pI h.2.1 23) a.toInt.toNat t.toInt.toNat ha hb ((pI h.2.1 23) (4 * a.toInt.toNat + (ha - 1).toNat)) → Z none (h.1, I, h.2.2.1, h.2.2.2)) : qm_Ru X (d + 20) cd_166 (qm_ent 4 [.ref 23, .int a, .int t] h) Z := by
  refine qm_Ru.go 2 (c' := (2, [.ref 23, .int a, .int t, .float 0], [.int a, .ref 23], h)) rfl ?_
  refine qm_Ru.call (j := 164) (as := [.ref 23, .int a]) (c' := (5, [.ref 23, .int a, .int t, .float 0], [], h)) rfl rfl rfl ?_
  refine qm_Ru.go 4 (c' := (5, [.ref 23, .int a, .float 0], [.int (16 + a), .ref 23], h)) rfl ?_
  obtain ⟨v1, q_v1, e_v1⟩ := hk_add (x := 16) (y := a) (a := 16) (b := a.toInt) rfl rfl (by omega) (by omega)
  rw [q_v1]
  obtain ⟨v2, q_v2⟩ : ∃ v, h.2.1 23 (v1.toInt.toNat) = v := ⟨_, rfl⟩
  have b_v2 : (0 : Int) ≤ v2.toInt ∧ v2.toInt ≤ 12 := by rw [← q_v2]; exact hB 23 (v1.toInt.toNat)
  refine hk_ial (v := v2) rfl (hH.1 23 (0, 21) rfl) (by omega) (by omega) q_v2 ?_
  refine qm_Ru.go 0 (c' := (6, [.ref 23, .int a, .float 0], [.int v2], h)) rfl ?_
  have l_v2 : v2.toInt = ha := ((congrArg (pI h.2.1 23) (show 16 + a.toInt.toNat = v1.toInt.toNat from by omega)).trans (congrArg Int32.toInt q_v2)).symm.trans ea
  refine qm_Ru.go 2 (c' := (8, [.ref 23, .int a, .int v2], [.int v2], h)) rfl ?_
  refine hk_zne (ix := v2.toInt) rfl rfl (fun z3 => ?_) (fun z3 => by exfalso; omega)
  refine qm_Ru.go 4 (c' := (20, [.ref 23, .int a, .int v2], [.int (a * 4), .ref 23], h)) rfl ?_
  obtain ⟨v4, q_v4, e_v4⟩ := hk_mul (x := a) (y := 4) (a := a.toInt) (b := 4) rfl rfl (by omega) (by omega)
  rw [q_v4]
  refine qm_Ru.go 2 (c' := (22, [.ref 23, .int a, .int v2], [.int (v4 + v2), .ref 23], h)) rfl ?_
  obtain ⟨v5, q_v5, e_v5⟩ := hk_add (x := v4) (y := v2) (a := v4.toInt) (b := v2.toInt) rfl rfl (by omega) (by omega)
  rw [q_v5]
  refine qm_Ru.go 2 (c' := (24, [.ref 23, .int a, .int v2], [.int (v5 - 1), .ref 23], h)) rfl ?_
  obtain ⟨v6, q_v6, e_v6⟩ := hk_sub (x := v5) (y := 1) (a := v5.toInt) (b := 1) rfl rfl (by omega) (by omega)
  rw [q_v6]
  obtain ⟨v7, q_v7⟩ : ∃ v, h.2.1 23 (v6.toInt.toNat) = v := ⟨_, rfl⟩
  have b_v7 : (0 : Int) ≤ v7.toInt ∧ v7.toInt ≤ 12 := by rw [← q_v7]; exact hB 23 (v6.toInt.toNat)
  refine hk_ial (v := v7) rfl (hH.1 23 (0, 21) rfl) (by omega) (by omega) q_v7 ?_
  refine qm_Ru.go 0 (c' := (25, [.ref 23, .int a, .int v2], [.int v7], h)) rfl ?_
  have l_v7 : (pI h.2.1 23) (4 * a.toInt.toNat + (ha - 1).toNat) = v7.toInt := ((congrArg (pI h.2.1 23) (show 4 * a.toInt.toNat + (ha - 1).toNat = v6.toInt.toNat from by omega)).trans (congrArg Int32.toInt q_v7))
  refine qm_Ru.rt (v := (some (.int v7))) (h' := h) rfl ?_
  refine qm_Ru.go 5 (c' := (11, [.ref 23, .int a, .int t, .int v7], [.int (16 + a), .ref 23], h)) rfl ?_
  rw [q_v1]
  refine qm_Ru.go 1 (c' := (12, [.ref 23, .int a, .int t, .int v7], [.int v1, .ref 23, .int v1, .ref 23], h)) rfl ?_
  refine hk_ial (v := v2) rfl (hH.1 23 (0, 21) rfl) (by omega) (by omega) q_v2 ?_
  refine qm_Ru.go 2 (c' := (15, [.ref 23, .int a, .int t, .int v7], [.int (v2 - 1), .int v1, .ref 23], h)) rfl ?_
  obtain ⟨v9, q_v9, e_v9⟩ := hk_sub (x := v2) (y := 1) (a := v2.toInt) (b := 1) rfl rfl (by omega) (by omega)
  rw [q_v9]
  refine hk_ias rfl (hH.1 23 (0, 21) rfl) (by omega) (by omega) ?_
  refine qm_Ru.go 4 (c' := (20, [.ref 23, .int a, .int t, .int v7], [.int (t * 4), .ref 23], (h.1, qm_up h.2.1 23 (v1.toInt.toNat) v9, h.2.2.1, h.2.2.2))) rfl ?_
  obtain ⟨v10, q_v10, e_v10⟩ := hk_mul (x := t) (y := 4) (a := t.toInt) (b := 4) rfl rfl (by omega) (by omega)
  rw [q_v10]
  refine qm_Ru.go 4 (c' := (25, [.ref 23, .int a, .int t, .int v7], [.int (16 + t), .ref 23, .int v10, .ref 23], (h.1, qm_up h.2.1 23 (v1.toInt.toNat) v9, h.2.2.1, h.2.2.2))) rfl ?_
  obtain ⟨v11, q_v11, e_v11⟩ := hk_add (x := 16) (y := t) (a := 16) (b := t.toInt) rfl rfl (by omega) (by omega)
  rw [q_v11]
  obtain ⟨v12, q_v12⟩ : ∃ v, h.2.1 23 (v11.toInt.toNat) = v := ⟨_, rfl⟩
  have b_v12 : (0 : Int) ≤ v12.toInt ∧ v12.toInt ≤ 12 := by rw [← q_v12]; exact hB 23 (v11.toInt.toNat)
  refine hk_ial (v := v12) rfl (hH.1 23 (0, 21) rfl) (by omega) (by omega) (show (qm_up h.2.1 23 (v1.toInt.toNat) v9) 23 (v11.toInt.toNat) = _ from ((hk_neq (by omega)).trans q_v12)) ?_
  refine qm_Ru.go 0 (c' := (26, [.ref 23, .int a, .int t, .int v7], [.int v12, .int v10, .ref 23], (h.1, qm_up h.2.1 23 (v1.toInt.toNat) v9, h.2.2.1, h.2.2.2))) rfl ?_
  have l_v12 : v12.toInt = hb := ((congrArg (pI h.2.1 23) (show 16 + t.toInt.toNat = v11.toInt.toNat from by omega)).trans (congrArg Int32.toInt q_v12)).symm.trans eb
  refine qm_Ru.go 1 (c' := (27, [.ref 23, .int a, .int t, .int v7], [.int (v10 + v12), .ref 23], (h.1, qm_up h.2.1 23 (v1.toInt.toNat) v9, h.2.2.1, h.2.2.2))) rfl ?_
  obtain ⟨v13, q_v13, e_v13⟩ := hk_add (x := v10) (y := v12) (a := v10.toInt) (b := v12.toInt) rfl rfl (by omega) (by omega)
  rw [q_v13]
  refine qm_Ru.go 1 (c' := (28, [.ref 23, .int a, .int t, .int v7], [.int v7, .int v13, .ref 23], (h.1, qm_up h.2.1 23 (v1.toInt.toNat) v9, h.2.2.1, h.2.2.2))) rfl ?_
  refine hk_ias rfl (hH.1 23 (0, 21) rfl) (by omega) (by omega) ?_
  refine qm_Ru.go 4 (c' := (34, [.ref 23, .int a, .int t, .int v7], [.int (16 + t), .ref 23], (h.1, qm_up (qm_up h.2.1 23 (v1.toInt.toNat) v9) 23 (v13.toInt.toNat) v7, h.2.2.1, h.2.2.2))) rfl ?_
  rw [q_v11]
  refine qm_Ru.go 1 (c' := (35, [.ref 23, .int a, .int t, .int v7], [.int v11, .ref 23, .int v11, .ref 23], (h.1, qm_up (qm_up h.2.1 23 (v1.toInt.toNat) v9) 23 (v13.toInt.toNat) v7, h.2.2.1, h.2.2.2))) rfl ?_
  refine hk_ial (v := v12) rfl (hH.1 23 (0, 21) rfl) (by omega) (by omega) (show (qm_up (qm_up h.2.1 23 (v1.toInt.toNat) v9) 23 (v13.toInt.toNat) v7) 23 (v11.toInt.toNat) = _ from ((hk_neq (by omega)).trans ((hk_neq (by omega)).trans q_v12))) ?_
  refine qm_Ru.go 0 (c' := (36, [.ref 23, .int a, .int t, .int v7], [.int v12, .int v11, .ref 23], (h.1, qm_up (qm_up h.2.1 23 (v1.toInt.toNat) v9) 23 (v13.toInt.toNat) v7, h.2.2.1, h.2.2.2))) rfl ?_
  refine qm_Ru.go 2 (c' := (38, [.ref 23, .int a, .int t, .int v7], [.int (v12 + 1), .int v11, .ref 23], (h.1, qm_up (qm_up h.2.1 23 (v1.toInt.toNat) v9) 23 (v13.toInt.toNat) v7, h.2.2.1, h.2.2.2))) rfl ?_
  obtain ⟨v15, q_v15, e_v15⟩ := hk_add (x := v12) (y := 1) (a := v12.toInt) (b := 1) rfl rfl (by omega) (by omega)
  rw [q_v15]
  refine hk_ias rfl (hH.1 23 (0, 21) rfl) (by omega) (by omega) ?_
  refine qm_Ru.go 0 (c' := (39, [.ref 23, .int a, .int t, .int v7], [], (h.1, qm_up (qm_up (qm_up h.2.1 23 (v1.toInt.toNat) v9) 23 (v13.toInt.toNat) v7) 23 (v11.toInt.toNat) v15, h.2.2.1, h.2.2.2))) rfl ?_
  refine qm_Ru.rt (v := none) (h' := (h.1, qm_up (qm_up (qm_up h.2.1 23 (v1.toInt.toNat) v9) 23 (v13.toInt.toNat) v7) 23 (v11.toInt.toNat) v15, h.2.2.1, h.2.2.2)) rfl ?_
  exact k (qm_up (qm_up (qm_up h.2.1 23 (v1.toInt.toNat) v9) 23 (v13.toInt.toNat) v7) 23 (v11.toInt.toNat) v15) (hb_up (o := 23) (k := v11.toInt.toNat) (x := v15) (hb_up (o := 23) (k := v13.toInt.toNat) (x := v7) (hb_up (o := 23) (k := v1.toInt.toNat) (x := v9) hB ⟨by show (0 : Int) ≤ v9.toInt; omega, by show v9.toInt ≤ (12 : Int); omega⟩) ⟨by show (0 : Int) ≤ v7.toInt; omega, by show v7.toInt ≤ (12 : Int); omega⟩) ⟨by show (0 : Int) ≤ v15.toInt; omega, by show v15.toInt ≤ (12 : Int); omega⟩) (fun o ho i => ((hk_mod ho rfl).trans ((hk_mod ho rfl).trans ((hk_mod ho rfl).trans rfl)))) (by rw [pI_up, pI_up, pI_up, l_v7]; unfold dg; rw [show v9.toInt = ha - 1 from by omega, show v15.toInt = hb + 1 from by omega, show v1.toInt.toNat = 16 + a.toInt.toNat from by omega, show v13.toInt.toNat = 4 * t.toInt.toNat + hb.toNat from by omega, show v11.toInt.toNat = 16 + t.toInt.toNat from by omega])
theorem hs_mv_24 {X : Option (Nat × (Nat → Int32))} {d : Nat} {Z : Option Value → qm_H → Prop} {h : qm_H} (hH : hk_H h) (hB : hk_B h.2.1) {a t : Int32} (b_a : (0 : Int) ≤ a.toInt ∧ a.toInt ≤ 3) (b_t : (0 : Int) ≤ t.toInt ∧ t.toInt ≤ 3) (hne : a.toInt ≠ t.toInt) {ha hb : Int} (ea : (pI h.2.1 24) (16 + a.toInt.toNat) = ha) (eb : (pI h.2.1 24) (16 + t.toInt.toNat) = hb) (a1 : 1 ≤ ha) (a4 : ha ≤ 4) (b0 : 0 ≤ hb) (b3 : hb ≤ 3) (k : ∀ I : Nat → Nat → Int32, hk_B I → (∀ o, [24].contains o = false → ∀ i, I o i = h.2.1 o i) → pI I 24 = dg (pI h.2.1 24) a.toInt.toNat t.toInt.toNat ha hb ((pI h.2.1 24) (4 * a.toInt.toNat + (ha - 1).toNat)) → Z none (h.1, I, h.2.2.1, h.2.2.2)) : qm_Ru X (d + 20) cd_166 (qm_ent 4 [.ref 24, .int a, .int t] h) Z := by
  refine qm_Ru.go 2 (c' := (2, [.ref 24, .int a, .int t, .float 0], [.int a, .ref 24], h)) rfl ?_
  refine qm_Ru.call (j := 164) (as := [.ref 24, .int a]) (c' := (5, [.ref 24, .int a, .int t, .float 0], [], h)) rfl rfl rfl ?_
  refine qm_Ru.go 4 (c' := (5, [.ref 24, .int a, .float 0], [.int (16 + a), .ref 24], h)) rfl ?_
  obtain ⟨v1, q_v1, e_v1⟩ := hk_add (x := 16) (y := a) (a := 16) (b := a.toInt) rfl rfl (by omega) (by omega)
  rw [q_v1]
  obtain ⟨v2, q_v2⟩ : ∃ v, h.2.1 24 (v1.toInt.toNat) = v := ⟨_, rfl⟩
  have b_v2 : (0 : Int) ≤ v2.toInt ∧ v2.toInt ≤ 12 := by rw [← q_v2]; exact hB 24 (v1.toInt.toNat)
  refine hk_ial (v := v2) rfl (hH.1 24 (0, 21) rfl) (by omega) (by omega) q_v2 ?_
  refine qm_Ru.go 0 (c' := (6, [.ref 24, .int a, .float 0], [.int v2], h)) rfl ?_
  have l_v2 : v2.toInt = ha := ((congrArg (pI h.2.1 24) (show 16 + a.toInt.toNat = v1.toInt.toNat from by omega)).trans (congrArg Int32.toInt q_v2)).symm.trans ea
  refine qm_Ru.go 2 (c' := (8, [.ref 24, .int a, .int v2], [.int v2], h)) rfl ?_
  refine hk_zne (ix := v2.toInt) rfl rfl (fun z3 => ?_) (fun z3 => by exfalso; omega)
  refine qm_Ru.go 4 (c' := (20, [.ref 24, .int a, .int v2], [.int (a * 4), .ref 24], h)) rfl ?_
  obtain ⟨v4, q_v4, e_v4⟩ := hk_mul (x := a) (y := 4) (a := a.toInt) (b := 4) rfl rfl (by omega) (by omega)
  rw [q_v4]
  refine qm_Ru.go 2 (c' := (22, [.ref 24, .int a, .int v2], [.int (v4 + v2), .ref 24], h)) rfl ?_
  obtain ⟨v5, q_v5, e_v5⟩ := hk_add (x := v4) (y := v2) (a := v4.toInt) (b := v2.toInt) rfl rfl (by omega) (by omega)
  rw [q_v5]
  refine qm_Ru.go 2 (c' := (24, [.ref 24, .int a, .int v2], [.int (v5 - 1), .ref 24], h)) rfl ?_
  obtain ⟨v6, q_v6, e_v6⟩ := hk_sub (x := v5) (y := 1) (a := v5.toInt) (b := 1) rfl rfl (by omega) (by omega)
  rw [q_v6]
  obtain ⟨v7, q_v7⟩ : ∃ v, h.2.1 24 (v6.toInt.toNat) = v := ⟨_, rfl⟩
  have b_v7 : (0 : Int) ≤ v7.toInt ∧ v7.toInt ≤ 12 := by rw [← q_v7]; exact hB 24 (v6.toInt.toNat)
  refine hk_ial (v := v7) rfl (hH.1 24 (0, 21) rfl) (by omega) (by omega) q_v7 ?_
  refine qm_Ru.go 0 (c' := (25, [.ref 24, .int a, .int v2], [.int v7], h)) rfl ?_
  have l_v7 : (pI h.2.1 24) (4 * a.toInt.toNat + (ha - 1).toNat) = v7.toInt := ((congrArg (pI h.2.1 24) (show 4 * a.toInt.toNat + (ha - 1).toNat = v6.toInt.toNat from by omega)).trans (congrArg Int32.toInt q_v7))
  refine qm_Ru.rt (v := (some (.int v7))) (h' := h) rfl ?_
  refine qm_Ru.go 5 (c' := (11, [.ref 24, .int a, .int t, .int v7], [.int (16 + a), .ref 24], h)) rfl ?_
  rw [q_v1]
  refine qm_Ru.go 1 (c' := (12, [.ref 24, .int a, .int t, .int v7], [.int v1, .ref 24, .int v1, .ref 24], h)) rfl ?_
  refine hk_ial (v := v2) rfl (hH.1 24 (0, 21) rfl) (by omega) (by omega) q_v2 ?_
  refine qm_Ru.go 2 (c' := (15, [.ref 24, .int a, .int t, .int v7], [.int (v2 - 1), .int v1, .ref 24], h)) rfl ?_
  obtain ⟨v9, q_v9, e_v9⟩ := hk_sub (x := v2) (y := 1) (a := v2.toInt) (b := 1) rfl rfl (by omega) (by omega)
  rw [q_v9]
  refine hk_ias rfl (hH.1 24 (0, 21) rfl) (by omega) (by omega) ?_
  refine qm_Ru.go 4 (c' := (20, [.ref 24, .int a, .int t, .int v7], [.int (t * 4), .ref 24], (h.1, qm_up h.2.1 24 (v1.toInt.toNat) v9, h.2.2.1, h.2.2.2))) rfl ?_
  obtain ⟨v10, q_v10, e_v10⟩ := hk_mul (x := t) (y := 4) (a := t.toInt) (b := 4) rfl rfl (by omega) (by omega)
  rw [q_v10]
  refine qm_Ru.go 4 (c' := (25, [.ref 24, .int a, .int t, .int v7], [.int (16 + t), .ref 24, .int v10, .ref 24], (h.1, qm_up h.2.1 24 (v1.toInt.toNat) v9, h.2.2.1, h.2.2.2))) rfl ?_
  obtain ⟨v11, q_v11, e_v11⟩ := hk_add (x := 16) (y := t) (a := 16) (b := t.toInt) rfl rfl (by omega) (by omega)
  rw [q_v11]
  obtain ⟨v12, q_v12⟩ : ∃ v, h.2.1 24 (v11.toInt.toNat) = v := ⟨_, rfl⟩
  have b_v12 : (0 : Int) ≤ v12.toInt ∧ v12.toInt ≤ 12 := by rw [← q_v12]; exact hB 24 (v11.toInt.toNat)
  refine hk_ial (v := v12) rfl (hH.1 24 (0, 21) rfl) (by omega) (by omega) (show (qm_up h.2.1 24 (v1.toInt.toNat) v9) 24 (v11.toInt.toNat) = _ from ((hk_neq (by omega)).trans q_v12)) ?_
  refine qm_Ru.go 0 (c' := (26, [.ref 24, .int a, .int t, .int v7], [.int v12, .int v10, .ref 24], (h.1, qm_up h.2.1 24 (v1.toInt.toNat) v9, h.2.2.1, h.2.2.2))) rfl ?_
  have l_v12 : v12.toInt = hb := ((congrArg (pI h.2.1 24) (show 16 + t.toInt.toNat = v11.toInt.toNat from by omega)).trans (congrArg Int32.toInt q_v12)).symm.trans eb
  refine qm_Ru.go 1 (c' := (27, [.ref 24, .int a, .int t, .int v7], [.int (v10 + v12), .ref 24], (h.1, qm_up h.2.1 24 (v1.toInt.toNat) v9, h.2.2.1, h.2.2.2))) rfl ?_
  obtain ⟨v13, q_v13, e_v13⟩ := hk_add (x := v10) (y := v12) (a := v10.toInt) (b := v12.toInt) rfl rfl (by omega) (by omega)
  rw [q_v13]
  refine qm_Ru.go 1 (c' := (28, [.ref 24, .int a, .int t, .int v7], [.int v7, .int v13, .ref 24], (h.1, qm_up h.2.1 24 (v1.toInt.toNat) v9, h.2.2.1, h.2.2.2))) rfl ?_
  refine hk_ias rfl (hH.1 24 (0, 21) rfl) (by omega) (by omega) ?_
  refine qm_Ru.go 4 (c' := (34, [.ref 24, .int a, .int t, .int v7], [.int (16 + t), .ref 24], (h.1, qm_up (qm_up h.2.1 24 (v1.toInt.toNat) v9) 24 (v13.toInt.toNat) v7, h.2.2.1, h.2.2.2))) rfl ?_
  rw [q_v11]
  refine qm_Ru.go 1 (c' := (35, [.ref 24, .int a, .int t, .int v7], [.int v11, .ref 24, .int v11, .ref 24], (h.1, qm_up (qm_up h.2.1 24 (v1.toInt.toNat) v9) 24 (v13.toInt.toNat) v7, h.2.2.1, h.2.2.2))) rfl ?_
  refine hk_ial (v := v12) rfl (hH.1 24 (0, 21) rfl) (by omega) (by omega) (show (qm_up (qm_up h.2.1 24 (v1.toInt.toNat) v9) 24 (v13.toInt.toNat) v7) 24 (v11.toInt.toNat) = _ from ((hk_neq (by omega)).trans ((hk_neq (by omega)).trans q_v12))) ?_
  refine qm_Ru.go 0 (c' := (36, [.ref 24, .int a, .int t, .int v7], [.int v12, .int v11, .ref 24], (h.1, qm_up (qm_up h.2.1 24 (v1.toInt.toNat) v9) 24 (v13.toInt.toNat) v7, h.2.2.1, h.2.2.2))) rfl ?_
  refine qm_Ru.go 2 (c' := (38, [.ref 24, .int a, .int t, .int v7], [.int (v12 + 1), .int v11, .ref 24], (h.1, qm_up (qm_up h.2.1 24 (v1.toInt.toNat) v9) 24 (v13.toInt.toNat) v7, h.2.2.1, h.2.2.2))) rfl ?_
  obtain ⟨v15, q_v15, e_v15⟩ := hk_add (x := v12) (y := 1) (a := v12.toInt) (b := 1) rfl rfl (by omega) (by omega)
  rw [q_v15]
  refine hk_ias rfl (hH.1 24 (0, 21) rfl) (by omega) (by omega) ?_
  refine qm_Ru.go 0 (c' := (39, [.ref 24, .int a, .int t, .int v7], [], (h.1, qm_up (qm_up (qm_up h.2.1 24 (v1.toInt.toNat) v9) 24 (v13.toInt.toNat) v7) 24 (v11.toInt.toNat) v15, h.2.2.1, h.2.2.2))) rfl ?_
  refine qm_Ru.rt (v := none) (h' := (h.1, qm_up (qm_up (qm_up h.2.1 24 (v1.toInt.toNat) v9) 24 (v13.toInt.toNat) v7) 24 (v11.toInt.toNat) v15, h.2.2.1, h.2.2.2)) rfl ?_
  exact k (qm_up (qm_up (qm_up h.2.1 24 (v1.toInt.toNat) v9) 24 (v13.toInt.toNat) v7) 24 (v11.toInt.toNat) v15) (hb_up (o := 24) (k := v11.toInt.toNat) (x := v15) (hb_up (o := 24) (k := v13.toInt.toNat) (x := v7) (hb_up (o := 24) (k := v1.toInt.toNat) (x := v9) hB ⟨by show (0 : Int) ≤ v9.toInt; omega, by show v9.toInt ≤ (12 : Int); omega⟩) ⟨by show (0 : Int) ≤ v7.toInt; omega, by show v7.toInt ≤ (12 : Int); omega⟩) ⟨by show (0 : Int) ≤ v15.toInt; omega, by show v15.toInt ≤ (12 : Int); omega⟩) (fun o ho i => ((hk_mod ho rfl).trans ((hk_mod ho rfl).trans ((hk_mod ho rfl).trans rfl)))) (by rw [pI_up, pI_up, pI_up, l_v7]; unfold dg; rw [show v9.toInt = ha - 1 from by omega, show v15.toInt = hb + 1 from by omega, show v1.toInt.toNat = 16 + a.toInt.toNat from by omega, show v13.toInt.toNat = 4 * t.toInt.toNat + hb.toNat from by omega, show v11.toInt.toNat = 16 + t.toInt.toNat from by omega])
theorem hs_mv_25 {X : Option (Nat × (Nat → Int32))} {d : Nat} {Z : Option Value → qm_H → Prop} {h : qm_H} (hH : hk_H h) (hB : hk_B h.2.1) {a t : Int32} (b_a : (0 : Int) ≤ a.toInt ∧ a.toInt ≤ 3) (b_t : (0 : Int) ≤ t.toInt ∧ t.toInt ≤ 3) (hne : a.toInt ≠ t.toInt) {ha hb : Int} (ea : (pI h.2.1 25) (16 + a.toInt.toNat) = ha) (eb : (pI h.2.1 25) (16 + t.toInt.toNat) = hb) (a1 : 1 ≤ ha) (a4 : ha ≤ 4) (b0 : 0 ≤ hb) (b3 : hb ≤ 3) (k : ∀ I : Nat → Nat → Int32, hk_B I → (∀ o, [25].contains o = false → ∀ i, I o i = h.2.1 o i) → pI I 25 = dg (pI h.2.1 25) a.toInt.toNat t.toInt.toNat ha hb ((pI h.2.1 25) (4 * a.toInt.toNat + (ha - 1).toNat)) → Z none (h.1, I, h.2.2.1, h.2.2.2)) : qm_Ru X (d + 20) cd_166 (qm_ent 4 [.ref 25, .int a, .int t] h) Z := by
  refine qm_Ru.go 2 (c' := (2, [.ref 25, .int a, .int t, .float 0], [.int a, .ref 25], h)) rfl ?_
  refine qm_Ru.call (j := 164) (as := [.ref 25, .int a]) (c' := (5, [.ref 25, .int a, .int t, .float 0], [], h)) rfl rfl rfl ?_
  refine qm_Ru.go 4 (c' := (5, [.ref 25, .int a, .float 0], [.int (16 + a), .ref 25], h)) rfl ?_
  obtain ⟨v1, q_v1, e_v1⟩ := hk_add (x := 16) (y := a) (a := 16) (b := a.toInt) rfl rfl (by omega) (by omega)
  rw [q_v1]
  obtain ⟨v2, q_v2⟩ : ∃ v, h.2.1 25 (v1.toInt.toNat) = v := ⟨_, rfl⟩
  have b_v2 : (0 : Int) ≤ v2.toInt ∧ v2.toInt ≤ 12 := by rw [← q_v2]; exact hB 25 (v1.toInt.toNat)
  refine hk_ial (v := v2) rfl (hH.1 25 (0, 21) rfl) (by omega) (by omega) q_v2 ?_
  refine qm_Ru.go 0 (c' := (6, [.ref 25, .int a, .float 0], [.int v2], h)) rfl ?_
  have l_v2 : v2.toInt = ha := ((congrArg (pI h.2.1 25) (show 16 + a.toInt.toNat = v1.toInt.toNat from by omega)).trans (congrArg Int32.toInt q_v2)).symm.trans ea
  refine qm_Ru.go 2 (c' := (8, [.ref 25, .int a, .int v2], [.int v2], h)) rfl ?_
  refine hk_zne (ix := v2.toInt) rfl rfl (fun z3 => ?_) (fun z3 => by exfalso; omega)
  refine qm_Ru.go 4 (c' := (20, [.ref 25, .int a, .int v2], [.int (a * 4), .ref 25], h)) rfl ?_
  obtain ⟨v4, q_v4, e_v4⟩ := hk_mul (x := a) (y := 4) (a := a.toInt) (b := 4) rfl rfl (by omega) (by omega)
  rw [q_v4]
  refine qm_Ru.go 2 (c' := (22, [.ref 25, .int a, .int v2], [.int (v4 + v2), .ref 25], h)) rfl ?_
  obtain ⟨v5, q_v5, e_v5⟩ := hk_add (x := v4) (y := v2) (a := v4.toInt) (b := v2.toInt) rfl rfl (by omega) (by omega)
  rw [q_v5]
  refine qm_Ru.go 2 (c' := (24, [.ref 25, .int a, .int v2], [.int (v5 - 1), .ref 25], h)) rfl ?_
  obtain ⟨v6, q_v6, e_v6⟩ := hk_sub (x := v5) (y := 1) (a := v5.toInt) (b := 1) rfl rfl (by omega) (by omega)
  rw [q_v6]
  obtain ⟨v7, q_v7⟩ : ∃ v, h.2.1 25 (v6.toInt.toNat) = v := ⟨_, rfl⟩
  have b_v7 : (0 : Int) ≤ v7.toInt ∧ v7.toInt ≤ 12 := by rw [← q_v7]; exact hB 25 (v6.toInt.toNat)
  refine hk_ial (v := v7) rfl (hH.1 25 (0, 21) rfl) (by omega) (by omega) q_v7 ?_
  refine qm_Ru.go 0 (c' := (25, [.ref 25, .int a, .int v2], [.int v7], h)) rfl ?_
  have l_v7 : (pI h.2.1 25) (4 * a.toInt.toNat + (ha - 1).toNat) = v7.toInt := ((congrArg (pI h.2.1 25) (show 4 * a.toInt.toNat + (ha - 1).toNat = v6.toInt.toNat from by omega)).trans (congrArg Int32.toInt q_v7))
  refine qm_Ru.rt (v := (some (.int v7))) (h' := h) rfl ?_
  refine qm_Ru.go 5 (c' := (11, [.ref 25, .int a, .int t, .int v7], [.int (16 + a), .ref 25], h)) rfl ?_
  rw [q_v1]
  refine qm_Ru.go 1 (c' := (12, [.ref 25, .int a, .int t, .int v7], [.int v1, .ref 25, .int v1, .ref 25], h)) rfl ?_
  refine hk_ial (v := v2) rfl (hH.1 25 (0, 21) rfl) (by omega) (by omega) q_v2 ?_
  refine qm_Ru.go 2 (c' := (15, [.ref 25, .int a, .int t, .int v7], [.int (v2 - 1), .int v1, .ref 25], h)) rfl ?_
  obtain ⟨v9, q_v9, e_v9⟩ := hk_sub (x := v2) (y := 1) (a := v2.toInt) (b := 1) rfl rfl (by omega) (by omega)
  rw [q_v9]
  refine hk_ias rfl (hH.1 25 (0, 21) rfl) (by omega) (by omega) ?_
  refine qm_Ru.go 4 (c' := (20, [.ref 25, .int a, .int t, .int v7], [.int (t * 4), .ref 25], (h.1, qm_up h.2.1 25 (v1.toInt.toNat) v9, h.2.2.1, h.2.2.2))) rfl ?_
  obtain ⟨v10, q_v10, e_v10⟩ := hk_mul (x := t) (y := 4) (a := t.toInt) (b := 4) rfl rfl (by omega) (by omega)
  rw [q_v10]
  refine qm_Ru.go 4 (c' := (25, [.ref 25, .int a, .int t, .int v7], [.int (16 + t), .ref 25, .int v10, .ref 25], (h.1, qm_up h.2.1 25 (v1.toInt.toNat) v9, h.2.2.1, h.2.2.2))) rfl ?_
  obtain ⟨v11, q_v11, e_v11⟩ := hk_add (x := 16) (y := t) (a := 16) (b := t.toInt) rfl rfl (by omega) (by omega)
  rw [q_v11]
  obtain ⟨v12, q_v12⟩ : ∃ v, h.2.1 25 (v11.toInt.toNat) = v := ⟨_, rfl⟩
  have b_v12 : (0 : Int) ≤ v12.toInt ∧ v12.toInt ≤ 12 := by rw [← q_v12]; exact hB 25 (v11.toInt.toNat)
  refine hk_ial (v := v12) rfl (hH.1 25 (0, 21) rfl) (by omega) (by omega) (show (qm_up h.2.1 25 (v1.toInt.toNat) v9) 25 (v11.toInt.toNat) = _ from ((hk_neq (by omega)).trans q_v12)) ?_
  refine qm_Ru.go 0 (c' := (26, [.ref 25, .int a, .int t, .int v7], [.int v12, .int v10, .ref 25], (h.1, qm_up h.2.1 25 (v1.toInt.toNat) v9, h.2.2.1, h.2.2.2))) rfl ?_
  have l_v12 : v12.toInt = hb := ((congrArg (pI h.2.1 25) (show 16 + t.toInt.toNat = v11.toInt.toNat from by omega)).trans (congrArg Int32.toInt q_v12)).symm.trans eb
  refine qm_Ru.go 1 (c' := (27, [.ref 25, .int a, .int t, .int v7], [.int (v10 + v12), .ref 25], (h.1, qm_up h.2.1 25 (v1.toInt.toNat) v9, h.2.2.1, h.2.2.2))) rfl ?_
  obtain ⟨v13, q_v13, e_v13⟩ := hk_add (x := v10) (y := v12) (a := v10.toInt) (b := v12.toInt) rfl rfl (by omega) (by omega)
  rw [q_v13]
  refine qm_Ru.go 1 (c' := (28, [.ref 25, .int a, .int t, .int v7], [.int v7, .int v13, .ref 25], (h.1, qm_up h.2.1 25 (v1.toInt.toNat) v9, h.2.2.1, h.2.2.2))) rfl ?_
  refine hk_ias rfl (hH.1 25 (0, 21) rfl) (by omega) (by omega) ?_
  refine qm_Ru.go 4 (c' := (34, [.ref 25, .int a, .int t, .int v7], [.int (16 + t), .ref 25], (h.1, qm_up (qm_up h.2.1 25 (v1.toInt.toNat) v9) 25 (v13.toInt.toNat) v7, h.2.2.1, h.2.2.2))) rfl ?_
  rw [q_v11]
  refine qm_Ru.go 1 (c' := (35, [.ref 25, .int a, .int t, .int v7], [.int v11, .ref 25, .int v11, .ref 25], (h.1, qm_up (qm_up h.2.1 25 (v1.toInt.toNat) v9) 25 (v13.toInt.toNat) v7, h.2.2.1, h.2.2.2))) rfl ?_
  refine hk_ial (v := v12) rfl (hH.1 25 (0, 21) rfl) (by omega) (by omega) (show (qm_up (qm_up h.2.1 25 (v1.toInt.toNat) v9) 25 (v13.toInt.toNat) v7) 25 (v11.toInt.toNat) = _ from ((hk_neq (by omega)).trans ((hk_neq (by omega)).trans q_v12))) ?_
  refine qm_Ru.go 0 (c' := (36, [.ref 25, .int a, .int t, .int v7], [.int v12, .int v11, .ref 25], (h.1, qm_up (qm_up h.2.1 25 (v1.toInt.toNat) v9) 25 (v13.toInt.toNat) v7, h.2.2.1, h.2.2.2))) rfl ?_
  refine qm_Ru.go 2 (c' := (38, [.ref 25, .int a, .int t, .int v7], [.int (v12 + 1), .int v11, .ref 25], (h.1, qm_up (qm_up h.2.1 25 (v1.toInt.toNat) v9) 25 (v13.toInt.toNat) v7, h.2.2.1, h.2.2.2))) rfl ?_
  obtain ⟨v15, q_v15, e_v15⟩ := hk_add (x := v12) (y := 1) (a := v12.toInt) (b := 1) rfl rfl (by omega) (by omega)
  rw [q_v15]
  refine hk_ias rfl (hH.1 25 (0, 21) rfl) (by omega) (by omega) ?_
  refine qm_Ru.go 0 (c' := (39, [.ref 25, .int a, .int t, .int v7], [], (h.1, qm_up (qm_up (qm_up h.2.1 25 (v1.toInt.toNat) v9) 25 (v13.toInt.toNat) v7) 25 (v11.toInt.toNat) v15, h.2.2.1, h.2.2.2))) rfl ?_
  refine qm_Ru.rt (v := none) (h' := (h.1, qm_up (qm_up (qm_up h.2.1 25 (v1.toInt.toNat) v9) 25 (v13.toInt.toNat) v7) 25 (v11.toInt.toNat) v15, h.2.2.1, h.2.2.2)) rfl ?_
  exact k (qm_up (qm_up (qm_up h.2.1 25 (v1.toInt.toNat) v9) 25 (v13.toInt.toNat) v7) 25 (v11.toInt.toNat) v15) (hb_up (o := 25) (k := v11.toInt.toNat) (x := v15) (hb_up (o := 25) (k := v13.toInt.toNat) (x := v7) (hb_up (o := 25) (k := v1.toInt.toNat) (x := v9) hB ⟨by show (0 : Int) ≤ v9.toInt; omega, by show v9.toInt ≤ (12 : Int); omega⟩) ⟨by show (0 : Int) ≤ v7.toInt; omega, by show v7.toInt ≤ (12 : Int); omega⟩) ⟨by show (0 : Int) ≤ v15.toInt; omega, by show v15.toInt ≤ (12 : Int); omega⟩) (fun o ho i => ((hk_mod ho rfl).trans ((hk_mod ho rfl).trans ((hk_mod ho rfl).trans rfl)))) (by rw [pI_up, pI_up, pI_up, l_v7]; unfold dg; rw [show v9.toInt = ha - 1 from by omega, show v15.toInt = hb + 1 from by omega, show v1.toInt.toNat = 16 + a.toInt.toNat from by omega, show v13.toInt.toNat = 4 * t.toInt.toNat + hb.toNat from by omega, show v11.toInt.toNat = 16 + t.toInt.toNat from by omega])
theorem hs_mv_26 {X : Option (Nat × (Nat → Int32))} {d : Nat} {Z : Option Value → qm_H → Prop} {h : qm_H} (hH : hk_H h) (hB : hk_B h.2.1) {a t : Int32} (b_a : (0 : Int) ≤ a.toInt ∧ a.toInt ≤ 3) (b_t : (0 : Int) ≤ t.toInt ∧ t.toInt ≤ 3) (hne : a.toInt ≠ t.toInt) {ha hb : Int} (ea : (pI h.2.1 26) (16 + a.toInt.toNat) = ha) (eb : (pI h.2.1 26) (16 + t.toInt.toNat) = hb) (a1 : 1 ≤ ha) (a4 : ha ≤ 4) (b0 : 0 ≤ hb) (b3 : hb ≤ 3) (k : ∀ I : Nat → Nat → Int32, hk_B I → (∀ o, [26].contains o = false → ∀ i, I o i = h.2.1 o i) → pI I 26 = dg (pI h.2.1 26) a.toInt.toNat t.toInt.toNat ha hb ((pI h.2.1 26) (4 * a.toInt.toNat + (ha - 1).toNat)) → Z none (h.1, I, h.2.2.1, h.2.2.2)) : qm_Ru X (d + 20) cd_166 (qm_ent 4 [.ref 26, .int a, .int t] h) Z := by
  refine qm_Ru.go 2 (c' := (2, [.ref 26, .int a, .int t, .float 0], [.int a, .ref 26], h)) rfl ?_
  refine qm_Ru.call (j := 164) (as := [.ref 26, .int a]) (c' := (5, [.ref 26, .int a, .int t, .float 0], [], h)) rfl rfl rfl ?_
  refine qm_Ru.go 4 (c' := (5, [.ref 26, .int a, .float 0], [.int (16 + a), .ref 26], h)) rfl ?_
  obtain ⟨v1, q_v1, e_v1⟩ := hk_add (x := 16) (y := a) (a := 16) (b := a.toInt) rfl rfl (by omega) (by omega)
  rw [q_v1]
  obtain ⟨v2, q_v2⟩ : ∃ v, h.2.1 26 (v1.toInt.toNat) = v := ⟨_, rfl⟩
  have b_v2 : (0 : Int) ≤ v2.toInt ∧ v2.toInt ≤ 12 := by rw [← q_v2]; exact hB 26 (v1.toInt.toNat)
  refine hk_ial (v := v2) rfl (hH.1 26 (0, 21) rfl) (by omega) (by omega) q_v2 ?_
  refine qm_Ru.go 0 (c' := (6, [.ref 26, .int a, .float 0], [.int v2], h)) rfl ?_
  have l_v2 : v2.toInt = ha := ((congrArg (pI h.2.1 26) (show 16 + a.toInt.toNat = v1.toInt.toNat from by omega)).trans (congrArg Int32.toInt q_v2)).symm.trans ea
  refine qm_Ru.go 2 (c' := (8, [.ref 26, .int a, .int v2], [.int v2], h)) rfl ?_
  refine hk_zne (ix := v2.toInt) rfl rfl (fun z3 => ?_) (fun z3 => by exfalso; omega)
  refine qm_Ru.go 4 (c' := (20, [.ref 26, .int a, .int v2], [.int (a * 4), .ref 26], h)) rfl ?_
  obtain ⟨v4, q_v4, e_v4⟩ := hk_mul (x := a) (y := 4) (a := a.toInt) (b := 4) rfl rfl (by omega) (by omega)
  rw [q_v4]
  refine qm_Ru.go 2 (c' := (22, [.ref 26, .int a, .int v2], [.int (v4 + v2), .ref 26], h)) rfl ?_
  obtain ⟨v5, q_v5, e_v5⟩ := hk_add (x := v4) (y := v2) (a := v4.toInt) (b := v2.toInt) rfl rfl (by omega) (by omega)
  rw [q_v5]
  refine qm_Ru.go 2 (c' := (24, [.ref 26, .int a, .int v2], [.int (v5 - 1), .ref 26], h)) rfl ?_
  obtain ⟨v6, q_v6, e_v6⟩ := hk_sub (x := v5) (y := 1) (a := v5.toInt) (b := 1) rfl rfl (by omega) (by omega)
  rw [q_v6]
  obtain ⟨v7, q_v7⟩ : ∃ v, h.2.1 26 (v6.toInt.toNat) = v := ⟨_, rfl⟩
  have b_v7 : (0 : Int) ≤ v7.toInt ∧ v7.toInt ≤ 12 := by rw [← q_v7]; exact hB 26 (v6.toInt.toNat)
  refine hk_ial (v := v7) rfl (hH.1 26 (0, 21) rfl) (by omega) (by omega) q_v7 ?_
  refine qm_Ru.go 0 (c' := (25, [.ref 26, .int a, .int v2], [.int v7], h)) rfl ?_
  have l_v7 : (pI h.2.1 26) (4 * a.toInt.toNat + (ha - 1).toNat) = v7.toInt := ((congrArg (pI h.2.1 26) (show 4 * a.toInt.toNat + (ha - 1).toNat = v6.toInt.toNat from by omega)).trans (congrArg Int32.toInt q_v7))
  refine qm_Ru.rt (v := (some (.int v7))) (h' := h) rfl ?_
  refine qm_Ru.go 5 (c' := (11, [.ref 26, .int a, .int t, .int v7], [.int (16 + a), .ref 26], h)) rfl ?_
  rw [q_v1]
  refine qm_Ru.go 1 (c' := (12, [.ref 26, .int a, .int t, .int v7], [.int v1, .ref 26, .int v1, .ref 26], h)) rfl ?_
  refine hk_ial (v := v2) rfl (hH.1 26 (0, 21) rfl) (by omega) (by omega) q_v2 ?_
  refine qm_Ru.go 2 (c' := (15, [.ref 26, .int a, .int t, .int v7], [.int (v2 - 1), .int v1, .ref 26], h)) rfl ?_
  obtain ⟨v9, q_v9, e_v9⟩ := hk_sub (x := v2) (y := 1) (a := v2.toInt) (b := 1) rfl rfl (by omega) (by omega)
  rw [q_v9]
  refine hk_ias rfl (hH.1 26 (0, 21) rfl) (by omega) (by omega) ?_
  refine qm_Ru.go 4 (c' := (20, [.ref 26, .int a, .int t, .int v7], [.int (t * 4), .ref 26], (h.1, qm_up h.2.1 26 (v1.toInt.toNat) v9, h.2.2.1, h.2.2.2))) rfl ?_
  obtain ⟨v10, q_v10, e_v10⟩ := hk_mul (x := t) (y := 4) (a := t.toInt) (b := 4) rfl rfl (by omega) (by omega)
  rw [q_v10]
  refine qm_Ru.go 4 (c' := (25, [.ref 26, .int a, .int t, .int v7], [.int (16 + t), .ref 26, .int v10, .ref 26], (h.1, qm_up h.2.1 26 (v1.toInt.toNat) v9, h.2.2.1, h.2.2.2))) rfl ?_
  obtain ⟨v11, q_v11, e_v11⟩ := hk_add (x := 16) (y := t) (a := 16) (b := t.toInt) rfl rfl (by omega) (by omega)
  rw [q_v11]
  obtain ⟨v12, q_v12⟩ : ∃ v, h.2.1 26 (v11.toInt.toNat) = v := ⟨_, rfl⟩
  have b_v12 : (0 : Int) ≤ v12.toInt ∧ v12.toInt ≤ 12 := by rw [← q_v12]; exact hB 26 (v11.toInt.toNat)
  refine hk_ial (v := v12) rfl (hH.1 26 (0, 21) rfl) (by omega) (by omega) (show (qm_up h.2.1 26 (v1.toInt.toNat) v9) 26 (v11.toInt.toNat) = _ from ((hk_neq (by omega)).trans q_v12)) ?_
  refine qm_Ru.go 0 (c' := (26, [.ref 26, .int a, .int t, .int v7], [.int v12, .int v10, .ref 26], (h.1, qm_up h.2.1 26 (v1.toInt.toNat) v9, h.2.2.1, h.2.2.2))) rfl ?_
  have l_v12 : v12.toInt = hb := ((congrArg (pI h.2.1 26) (show 16 + t.toInt.toNat = v11.toInt.toNat from by omega)).trans (congrArg Int32.toInt q_v12)).symm.trans eb
  refine qm_Ru.go 1 (c' := (27, [.ref 26, .int a, .int t, .int v7], [.int (v10 + v12), .ref 26], (h.1, qm_up h.2.1 26 (v1.toInt.toNat) v9, h.2.2.1, h.2.2.2))) rfl ?_
  obtain ⟨v13, q_v13, e_v13⟩ := hk_add (x := v10) (y := v12) (a := v10.toInt) (b := v12.toInt) rfl rfl (by omega) (by omega)
  rw [q_v13]
  refine qm_Ru.go 1 (c' := (28, [.ref 26, .int a, .int t, .int v7], [.int v7, .int v13, .ref 26], (h.1, qm_up h.2.1 26 (v1.toInt.toNat) v9, h.2.2.1, h.2.2.2))) rfl ?_
  refine hk_ias rfl (hH.1 26 (0, 21) rfl) (by omega) (by omega) ?_
  refine qm_Ru.go 4 (c' := (34, [.ref 26, .int a, .int t, .int v7], [.int (16 + t), .ref 26], (h.1, qm_up (qm_up h.2.1 26 (v1.toInt.toNat) v9) 26 (v13.toInt.toNat) v7, h.2.2.1, h.2.2.2))) rfl ?_
  rw [q_v11]
  refine qm_Ru.go 1 (c' := (35, [.ref 26, .int a, .int t, .int v7], [.int v11, .ref 26, .int v11, .ref 26], (h.1, qm_up (qm_up h.2.1 26 (v1.toInt.toNat) v9) 26 (v13.toInt.toNat) v7, h.2.2.1, h.2.2.2))) rfl ?_
  refine hk_ial (v := v12) rfl (hH.1 26 (0, 21) rfl) (by omega) (by omega) (show (qm_up (qm_up h.2.1 26 (v1.toInt.toNat) v9) 26 (v13.toInt.toNat) v7) 26 (v11.toInt.toNat) = _ from ((hk_neq (by omega)).trans ((hk_neq (by omega)).trans q_v12))) ?_
  refine qm_Ru.go 0 (c' := (36, [.ref 26, .int a, .int t, .int v7], [.int v12, .int v11, .ref 26], (h.1, qm_up (qm_up h.2.1 26 (v1.toInt.toNat) v9) 26 (v13.toInt.toNat) v7, h.2.2.1, h.2.2.2))) rfl ?_
  refine qm_Ru.go 2 (c' := (38, [.ref 26, .int a, .int t, .int v7], [.int (v12 + 1), .int v11, .ref 26], (h.1, qm_up (qm_up h.2.1 26 (v1.toInt.toNat) v9) 26 (v13.toInt.toNat) v7, h.2.2.1, h.2.2.2))) rfl ?_
  obtain ⟨v15, q_v15, e_v15⟩ := hk_add (x := v12) (y := 1) (a := v12.toInt) (b := 1) rfl rfl (by omega) (by omega)
  rw [q_v15]
  refine hk_ias rfl (hH.1 26 (0, 21) rfl) (by omega) (by omega) ?_
  refine qm_Ru.go 0 (c' := (39, [.ref 26, .int a, .int t, .int v7], [], (h.1, qm_up (qm_up (qm_up h.2.1 26 (v1.toInt.toNat) v9) 26 (v13.toInt.toNat) v7) 26 (v11.toInt.toNat) v15, h.2.2.1, h.2.2.2))) rfl ?_
  refine qm_Ru.rt (v := none) (h' := (h.1, qm_up (qm_up (qm_up h.2.1 26 (v1.toInt.toNat) v9) 26 (v13.toInt.toNat) v7) 26 (v11.toInt.toNat) v15, h.2.2.1, h.2.2.2)) rfl ?_
  exact k (qm_up (qm_up (qm_up h.2.1 26 (v1.toInt.toNat) v9) 26 (v13.toInt.toNat) v7) 26 (v11.toInt.toNat) v15) (hb_up (o := 26) (k := v11.toInt.toNat) (x := v15) (hb_up (o := 26) (k := v13.toInt.toNat) (x := v7) (hb_up (o := 26) (k := v1.toInt.toNat) (x := v9) hB ⟨by show (0 : Int) ≤ v9.toInt; omega, by show v9.toInt ≤ (12 : Int); omega⟩) ⟨by show (0 : Int) ≤ v7.toInt; omega, by show v7.toInt ≤ (12 : Int); omega⟩) ⟨by show (0 : Int) ≤ v15.toInt; omega, by show v15.toInt ≤ (12 : Int); omega⟩) (fun o ho i => ((hk_mod ho rfl).trans ((hk_mod ho rfl).trans ((hk_mod ho rfl).trans rfl)))) (by rw [pI_up, pI_up, pI_up, l_v7]; unfold dg; rw [show v9.toInt = ha - 1 from by omega, show v15.toInt = hb + 1 from by omega, show v1.toInt.toNat = 16 + a.toInt.toNat from by omega, show v13.toInt.toNat = 4 * t.toInt.toNat + hb.toNat from by omega, show v11.toInt.toNat = 16 + t.toInt.toNat from by omega])
theorem hs_mv_27 {X : Option (Nat × (Nat → Int32))} {d : Nat} {Z : Option Value → qm_H → Prop} {h : qm_H} (hH : hk_H h) (hB : hk_B h.2.1) {a t : Int32} (b_a : (0 : Int) ≤ a.toInt ∧ a.toInt ≤ 3) (b_t : (0 : Int) ≤ t.toInt ∧ t.toInt ≤ 3) (hne : a.toInt ≠ t.toInt) {ha hb : Int} (ea : (pI h.2.1 27) (16 + a.toInt.toNat) = ha) (eb : (pI h.2.1 27) (16 + t.toInt.toNat) = hb) (a1 : 1 ≤ ha) (a4 : ha ≤ 4) (b0 : 0 ≤ hb) (b3 : hb ≤ 3) (k : ∀ I : Nat → Nat → Int32, hk_B I → (∀ o, [27].contains o = false → ∀ i, I o i = h.2.1 o i) → pI I 27 = dg (pI h.2.1 27) a.toInt.toNat t.toInt.toNat ha hb ((pI h.2.1 27) (4 * a.toInt.toNat + (ha - 1).toNat)) → Z none (h.1, I, h.2.2.1, h.2.2.2)) : qm_Ru X (d + 20) cd_166 (qm_ent 4 [.ref 27, .int a, .int t] h) Z := by
  refine qm_Ru.go 2 (c' := (2, [.ref 27, .int a, .int t, .float 0], [.int a, .ref 27], h)) rfl ?_
  refine qm_Ru.call (j := 164) (as := [.ref 27, .int a]) (c' := (5, [.ref 27, .int a, .int t, .float 0], [], h)) rfl rfl rfl ?_
  refine qm_Ru.go 4 (c' := (5, [.ref 27, .int a, .float 0], [.int (16 + a), .ref 27], h)) rfl ?_
  obtain ⟨v1, q_v1, e_v1⟩ := hk_add (x := 16) (y := a) (a := 16) (b := a.toInt) rfl rfl (by omega) (by omega)
  rw [q_v1]
  obtain ⟨v2, q_v2⟩ : ∃ v, h.2.1 27 (v1.toInt.toNat) = v := ⟨_, rfl⟩
  have b_v2 : (0 : Int) ≤ v2.toInt ∧ v2.toInt ≤ 12 := by rw [← q_v2]; exact hB 27 (v1.toInt.toNat)
  refine hk_ial (v := v2) rfl (hH.1 27 (0, 21) rfl) (by omega) (by omega) q_v2 ?_
  refine qm_Ru.go 0 (c' := (6, [.ref 27, .int a, .float 0], [.int v2], h)) rfl ?_
  have l_v2 : v2.toInt = ha := ((congrArg (pI h.2.1 27) (show 16 + a.toInt.toNat = v1.toInt.toNat from by omega)).trans (congrArg Int32.toInt q_v2)).symm.trans ea
  refine qm_Ru.go 2 (c' := (8, [.ref 27, .int a, .int v2], [.int v2], h)) rfl ?_
  refine hk_zne (ix := v2.toInt) rfl rfl (fun z3 => ?_) (fun z3 => by exfalso; omega)
  refine qm_Ru.go 4 (c' := (20, [.ref 27, .int a, .int v2], [.int (a * 4), .ref 27], h)) rfl ?_
  obtain ⟨v4, q_v4, e_v4⟩ := hk_mul (x := a) (y := 4) (a := a.toInt) (b := 4) rfl rfl (by omega) (by omega)
  rw [q_v4]
  refine qm_Ru.go 2 (c' := (22, [.ref 27, .int a, .int v2], [.int (v4 + v2), .ref 27], h)) rfl ?_
  obtain ⟨v5, q_v5, e_v5⟩ := hk_add (x := v4) (y := v2) (a := v4.toInt) (b := v2.toInt) rfl rfl (by omega) (by omega)
  rw [q_v5]
  refine qm_Ru.go 2 (c' := (24, [.ref 27, .int a, .int v2], [.int (v5 - 1), .ref 27], h)) rfl ?_
  obtain ⟨v6, q_v6, e_v6⟩ := hk_sub (x := v5) (y := 1) (a := v5.toInt) (b := 1) rfl rfl (by omega) (by omega)
  rw [q_v6]
  obtain ⟨v7, q_v7⟩ : ∃ v, h.2.1 27 (v6.toInt.toNat) = v := ⟨_, rfl⟩
  have b_v7 : (0 : Int) ≤ v7.toInt ∧ v7.toInt ≤ 12 := by rw [← q_v7]; exact hB 27 (v6.toInt.toNat)
  refine hk_ial (v := v7) rfl (hH.1 27 (0, 21) rfl) (by omega) (by omega) q_v7 ?_
  refine qm_Ru.go 0 (c' := (25, [.ref 27, .int a, .int v2], [.int v7], h)) rfl ?_
  have l_v7 : (pI h.2.1 27) (4 * a.toInt.toNat + (ha - 1).toNat) = v7.toInt := ((congrArg (pI h.2.1 27) (show 4 * a.toInt.toNat + (ha - 1).toNat = v6.toInt.toNat from by omega)).trans (congrArg Int32.toInt q_v7))
  refine qm_Ru.rt (v := (some (.int v7))) (h' := h) rfl ?_
  refine qm_Ru.go 5 (c' := (11, [.ref 27, .int a, .int t, .int v7], [.int (16 + a), .ref 27], h)) rfl ?_
  rw [q_v1]
  refine qm_Ru.go 1 (c' := (12, [.ref 27, .int a, .int t, .int v7], [.int v1, .ref 27, .int v1, .ref 27], h)) rfl ?_
  refine hk_ial (v := v2) rfl (hH.1 27 (0, 21) rfl) (by omega) (by omega) q_v2 ?_
  refine qm_Ru.go 2 (c' := (15, [.ref 27, .int a, .int t, .int v7], [.int (v2 - 1), .int v1, .ref 27], h)) rfl ?_
  obtain ⟨v9, q_v9, e_v9⟩ := hk_sub (x := v2) (y := 1) (a := v2.toInt) (b := 1) rfl rfl (by omega) (by omega)
  rw [q_v9]
  refine hk_ias rfl (hH.1 27 (0, 21) rfl) (by omega) (by omega) ?_
  refine qm_Ru.go 4 (c' := (20, [.ref 27, .int a, .int t, .int v7], [.int (t * 4), .ref 27], (h.1, qm_up h.2.1 27 (v1.toInt.toNat) v9, h.2.2.1, h.2.2.2))) rfl ?_
  obtain ⟨v10, q_v10, e_v10⟩ := hk_mul (x := t) (y := 4) (a := t.toInt) (b := 4) rfl rfl (by omega) (by omega)
  rw [q_v10]
  refine qm_Ru.go 4 (c' := (25, [.ref 27, .int a, .int t, .int v7], [.int (16 + t), .ref 27, .int v10, .ref 27], (h.1, qm_up h.2.1 27 (v1.toInt.toNat) v9, h.2.2.1, h.2.2.2))) rfl ?_
  obtain ⟨v11, q_v11, e_v11⟩ := hk_add (x := 16) (y := t) (a := 16) (b := t.toInt) rfl rfl (by omega) (by omega)
  rw [q_v11]
  obtain ⟨v12, q_v12⟩ : ∃ v, h.2.1 27 (v11.toInt.toNat) = v := ⟨_, rfl⟩
  have b_v12 : (0 : Int) ≤ v12.toInt ∧ v12.toInt ≤ 12 := by rw [← q_v12]; exact hB 27 (v11.toInt.toNat)
  refine hk_ial (v := v12) rfl (hH.1 27 (0, 21) rfl) (by omega) (by omega) (show (qm_up h.2.1 27 (v1.toInt.toNat) v9) 27 (v11.toInt.toNat) = _ from ((hk_neq (by omega)).trans q_v12)) ?_
  refine qm_Ru.go 0 (c' := (26, [.ref 27, .int a, .int t, .int v7], [.int v12, .int v10, .ref 27], (h.1, qm_up h.2.1 27 (v1.toInt.toNat) v9, h.2.2.1, h.2.2.2))) rfl ?_
  have l_v12 : v12.toInt = hb := ((congrArg (pI h.2.1 27) (show 16 + t.toInt.toNat = v11.toInt.toNat from by omega)).trans (congrArg Int32.toInt q_v12)).symm.trans eb
  refine qm_Ru.go 1 (c' := (27, [.ref 27, .int a, .int t, .int v7], [.int (v10 + v12), .ref 27], (h.1, qm_up h.2.1 27 (v1.toInt.toNat) v9, h.2.2.1, h.2.2.2))) rfl ?_
  obtain ⟨v13, q_v13, e_v13⟩ := hk_add (x := v10) (y := v12) (a := v10.toInt) (b := v12.toInt) rfl rfl (by omega) (by omega)
  rw [q_v13]
  refine qm_Ru.go 1 (c' := (28, [.ref 27, .int a, .int t, .int v7], [.int v7, .int v13, .ref 27], (h.1, qm_up h.2.1 27 (v1.toInt.toNat) v9, h.2.2.1, h.2.2.2))) rfl ?_
  refine hk_ias rfl (hH.1 27 (0, 21) rfl) (by omega) (by omega) ?_
  refine qm_Ru.go 4 (c' := (34, [.ref 27, .int a, .int t, .int v7], [.int (16 + t), .ref 27], (h.1, qm_up (qm_up h.2.1 27 (v1.toInt.toNat) v9) 27 (v13.toInt.toNat) v7, h.2.2.1, h.2.2.2))) rfl ?_
  rw [q_v11]
  refine qm_Ru.go 1 (c' := (35, [.ref 27, .int a, .int t, .int v7], [.int v11, .ref 27, .int v11, .ref 27], (h.1, qm_up (qm_up h.2.1 27 (v1.toInt.toNat) v9) 27 (v13.toInt.toNat) v7, h.2.2.1, h.2.2.2))) rfl ?_
  refine hk_ial (v := v12) rfl (hH.1 27 (0, 21) rfl) (by omega) (by omega) (show (qm_up (qm_up h.2.1 27 (v1.toInt.toNat) v9) 27 (v13.toInt.toNat) v7) 27 (v11.toInt.toNat) = _ from ((hk_neq (by omega)).trans ((hk_neq (by omega)).trans q_v12))) ?_
  refine qm_Ru.go 0 (c' := (36, [.ref 27, .int a, .int t, .int v7], [.int v12, .int v11, .ref 27], (h.1, qm_up (qm_up h.2.1 27 (v1.toInt.toNat) v9) 27 (v13.toInt.toNat) v7, h.2.2.1, h.2.2.2))) rfl ?_
  refine qm_Ru.go 2 (c' := (38, [.ref 27, .int a, .int t, .int v7], [.int (v12 + 1), .int v11, .ref 27], (h.1, qm_up (qm_up h.2.1 27 (v1.toInt.toNat) v9) 27 (v13.toInt.toNat) v7, h.2.2.1, h.2.2.2))) rfl ?_
  obtain ⟨v15, q_v15, e_v15⟩ := hk_add (x := v12) (y := 1) (a := v12.toInt) (b := 1) rfl rfl (by omega) (by omega)
  rw [q_v15]
  refine hk_ias rfl (hH.1 27 (0, 21) rfl) (by omega) (by omega) ?_
  refine qm_Ru.go 0 (c' := (39, [.ref 27, .int a, .int t, .int v7], [], (h.1, qm_up (qm_up (qm_up h.2.1 27 (v1.toInt.toNat) v9) 27 (v13.toInt.toNat) v7) 27 (v11.toInt.toNat) v15, h.2.2.1, h.2.2.2))) rfl ?_
  refine qm_Ru.rt (v := none) (h' := (h.1, qm_up (qm_up (qm_up h.2.1 27 (v1.toInt.toNat) v9) 27 (v13.toInt.toNat) v7) 27 (v11.toInt.toNat) v15, h.2.2.1, h.2.2.2)) rfl ?_
  exact k (qm_up (qm_up (qm_up h.2.1 27 (v1.toInt.toNat) v9) 27 (v13.toInt.toNat) v7) 27 (v11.toInt.toNat) v15) (hb_up (o := 27) (k := v11.toInt.toNat) (x := v15) (hb_up (o := 27) (k := v13.toInt.toNat) (x := v7) (hb_up (o := 27) (k := v1.toInt.toNat) (x := v9) hB ⟨by show (0 : Int) ≤ v9.toInt; omega, by show v9.toInt ≤ (12 : Int); omega⟩) ⟨by show (0 : Int) ≤ v7.toInt; omega, by show v7.toInt ≤ (12 : Int); omega⟩) ⟨by show (0 : Int) ≤ v15.toInt; omega, by show v15.toInt ≤ (12 : Int); omega⟩) (fun o ho i => ((hk_mod ho rfl).trans ((hk_mod ho rfl).trans ((hk_mod ho rfl).trans rfl)))) (by rw [pI_up, pI_up, pI_up, l_v7]; unfold dg; rw [show v9.toInt = ha - 1 from by omega, show v15.toInt = hb + 1 from by omega, show v1.toInt.toNat = 16 + a.toInt.toNat from by omega, show v13.toInt.toNat = 4 * t.toInt.toNat + hb.toNat from by omega, show v11.toInt.toNat = 16 + t.toInt.toNat from by omega])
theorem hs_all_5 {L : Nat} {xs : Nat → Int32} {d : Nat} {Z : Option Value → qm_H → Prop} {h : qm_H} (h6 : 6 ≤ L) (hH : hk_H h) (hB : hk_B h.2.1) {al le : Int32} (b_al : (0 : Int) ≤ al.toInt ∧ al.toInt ≤ 12) (b_le : (-5 : Int) ≤ le.toInt ∧ le.toInt ≤ 5) (ht : tw (pI h.2.1 27)) (k : ∀ (v : Int32) (I : Nat → Nat → Int32) (J : Nat → Nat → Int64), (0 : Int) ≤ v.toInt ∧ v.toInt ≤ 1 → hk_B I → (∀ o, [20, 27].contains o = false → ∀ i, I o i = h.2.1 o i) → Z (some (.int v)) (h.1, I, J, h.2.2.2)) : qm_Ru (some (L, xs)) (d + 80) cd_170 (qm_ent 9 [.ref 21, .ref 20, .int al, .int 5, .int le] h) Z := by
  refine qm_Ru.go 2 (c' := (2, [.ref 21, .ref 20, .int al, .int 5, .int le, .float 0, .float 0, .float 0, .float 0], [.int 5, .ref 21], h)) rfl ?_
  refine hk_aal rfl (hH.1 21 (4, 6) rfl) (by decide) (by decide) (hH.2 21 5 (some 27) rfl) ?_
  refine qm_Ru.go 3 (c' := (8, [.ref 21, .ref 20, .int al, .int 5, .int le, .ref 27, .float 0, .float 0, .float 0], [.int al, .ref 27], h)) rfl ?_
  refine qm_Ru.call (j := 171) (as := [.ref 27, .int al]) (c' := (11, [.ref 21, .ref 20, .int al, .int 5, .int le, .ref 27, .float 0, .float 0, .float 0], [], h)) rfl rfl rfl (hs_srv_27 (h := h) h6 hH hB (al := al) (by omega) ht (fun I1 J2 hB_I1 e_I1 tw_I1 => ?_))
  refine qm_Ru.go 2 (c' := (15, [.ref 21, .ref 20, .int al, .int 5, .int le, .ref 27, .float 0, .float 0, .float 0], [.int 20, .ref 27], (h.1, I1, J2, h.2.2.2))) rfl ?_
  obtain ⟨v3, q_v3⟩ : ∃ v, I1 27 20 = v := ⟨_, rfl⟩
  have b_v3 : (0 : Int) ≤ v3.toInt ∧ v3.toInt ≤ 12 := by rw [← q_v3]; exact hB_I1 27 20
  refine hk_ial (v := v3) rfl (hH.1 27 (0, 21) rfl) (by decide) (by decide) q_v3 ?_
  refine qm_Ru.go 1 (c' := (17, [.ref 21, .ref 20, .int al, .int 5, .int le, .ref 27, .float 0, .float 0, .float 0], [.int al, .int v3], (h.1, I1, J2, h.2.2.2))) rfl ?_
  refine hk_clt (ix := v3.toInt) (iy := al.toInt) rfl rfl rfl (fun z4 => ?_) (fun z4 => ?_)
  · refine qm_Ru.go 4 (c' := (38, [.ref 21, .ref 20, .int al, .int 5, .int le, .ref 27, .float 0, .float 0, .float 0], [.int 0], (h.1, I1, J2, h.2.2.2))) rfl ?_
    refine qm_Ru.rt (v := (some (.int 0))) (h' := (h.1, I1, J2, h.2.2.2)) rfl ?_
    exact k 0 (I1) (J2) (by decide) hB_I1 (fun o ho i => e_I1 o (hk_ms rfl ho) i)
  · refine qm_Ru.go 1 (c' := (21, [.ref 21, .ref 20, .int al, .int 5, .int le, .ref 27, .float 0, .float 0, .float 0], [.int 1], (h.1, I1, J2, h.2.2.2))) rfl ?_
    refine qm_Ru.rt (v := (some (.int 1))) (h' := (h.1, I1, J2, h.2.2.2)) rfl ?_
    exact k 1 (I1) (J2) (by decide) hB_I1 (fun o ho i => e_I1 o (hk_ms rfl ho) i)
theorem hl_all_4 {L : Nat} {xs : Nat → Int32} {d : Nat} {Z : Option Value → qm_H → Prop} {h : qm_H} (h6 : 6 ≤ L) (hH : hk_H h) (hB : hk_B h.2.1) {al le : Int32} (b_al : (0 : Int) ≤ al.toInt ∧ al.toInt ≤ 12) (b_le : (-4 : Int) ≤ le.toInt ∧ le.toInt ≤ 5) (ht : tw (pI h.2.1 26)) (k : ∀ (v : Int32) (I : Nat → Nat → Int32) (J : Nat → Nat → Int64), (0 : Int) ≤ v.toInt ∧ v.toInt ≤ 1 → hk_B I → (∀ o, [20, 27].contains o = false → ∀ i, I o i = h.2.1 o i) → Z (some (.int v)) (h.1, I, J, h.2.2.2)) : ∀ (m : Nat) (I : Nat → Nat → Int32) (J : Nat → Nat → Int64) (w : Int32) (l7 l8 : Value), hk_B I → (∀ o, [20, 27].contains o = false → ∀ i, I o i = h.2.1 o i) → ((0 : Int) ≤ w.toInt ∧ w.toInt ≤ 16) → (16 - w.toInt).toNat = m → qm_Ru (some (L, xs)) (d + 100) cd_170 (42, [.ref 21, .ref 20, .int al, .int 4, .int le, .ref 26, .int w, l7, l8], [], (h.1, I, J, h.2.2.2)) Z := by
  intro m
  induction m using Nat.strongRecOn with
  | ind m ih =>
    intro I J w l7 l8 hBI e h_w hm
    refine qm_Ru.go 2 (c' := (46, [.ref 21, .ref 20, .int al, .int 4, .int le, .ref 26, .int w, l7, l8], [.int 16, .int w], (h.1, I, J, h.2.2.2))) rfl ?_
    refine hk_cge (ix := w.toInt) (iy := 16) rfl rfl rfl (fun z1 => ?_) (fun z1 => ?_)
    · refine qm_Ru.go 1 (c' := (156, [.ref 21, .ref 20, .int al, .int 4, .int le, .ref 26, .int w, l7, l8], [.int 0], (h.1, I, J, h.2.2.2))) rfl ?_
      refine qm_Ru.rt (v := (some (.int 0))) (h' := (h.1, I, J, h.2.2.2)) rfl ?_
      exact k 0 (I) (J) (by decide) hBI (fun o ho i => (e o ho i))
    · refine qm_Ru.go 3 (c' := (53, [.ref 21, .ref 20, .int al, .int 4, .int le, .ref 26, .int w, l7, l8], [.int (w / 4)], (h.1, I, J, h.2.2.2))) rfl ?_
      obtain ⟨v2, q_v2, e_v2⟩ := hk_div (x := w) (y := 4) (a := w.toInt) (b := 4) rfl rfl (by omega) (by omega)
      rw [q_v2]
      refine qm_Ru.go 4 (c' := (59, [.ref 21, .ref 20, .int al, .int 4, .int le, .ref 26, .int w, .int v2, l8], [.int (w - w / 4 * 4)], (h.1, I, J, h.2.2.2))) rfl ?_
      obtain ⟨v3, q_v3, e_v3⟩ := hk_rem (x := w) (y := 4) (a := w.toInt) (b := 4) rfl rfl (by omega) (by omega)
      rw [q_v3]
      refine qm_Ru.go 3 (c' := (65, [.ref 21, .ref 20, .int al, .int 4, .int le, .ref 26, .int w, .int v2, .int v3], [.int v3, .int v2], (h.1, I, J, h.2.2.2))) rfl ?_
      refine hk_ceq (ix := v2.toInt) (iy := v3.toInt) rfl rfl rfl (fun z4 => ?_) (fun z4 => ?_)
      · refine qm_Ru.go 1 (c' := (152, [.ref 21, .ref 20, .int al, .int 4, .int le, .ref 26, .int (w + 1), .int v2, .int v3], [], (h.1, I, J, h.2.2.2))) rfl ?_
        obtain ⟨v5, q_v5, e_v5⟩ := hk_add (x := w) (y := 1) (a := w.toInt) (b := 1) rfl rfl (by omega) (by omega)
        rw [q_v5]
        refine qm_Ru.go 1 (c' := (42, [.ref 21, .ref 20, .int al, .int 4, .int le, .ref 26, .int v5, .int v2, .int v3], [], (h.1, I, J, h.2.2.2))) rfl ?_
        exact ih _ (by omega) (I) (J) v5 (.int v2) (.int v3) hBI (fun o ho i => (e o ho i)) (by omega) rfl
      · refine qm_Ru.go 4 (c' := (75, [.ref 21, .ref 20, .int al, .int 4, .int le, .ref 26, .int w, .int v2, .int v3], [.int (16 + v2), .ref 26], (h.1, I, J, h.2.2.2))) rfl ?_
        obtain ⟨v6, q_v6, e_v6⟩ := hk_add (x := 16) (y := v2) (a := 16) (b := v2.toInt) rfl rfl (by omega) (by omega)
        rw [q_v6]
        obtain ⟨v7, q_v7⟩ : ∃ v, h.2.1 26 (v6.toInt.toNat) = v := ⟨_, rfl⟩
        have b_v7 : (0 : Int) ≤ v7.toInt ∧ v7.toInt ≤ 12 := by rw [← q_v7]; exact hB 26 (v6.toInt.toNat)
        refine hk_ial (v := v7) rfl (hH.1 26 (0, 21) rfl) (by omega) (by omega) (show (I) 26 (v6.toInt.toNat) = _ from ((e 26 rfl (v6.toInt.toNat)).trans q_v7)) ?_
        refine qm_Ru.go 0 (c' := (76, [.ref 21, .ref 20, .int al, .int 4, .int le, .ref 26, .int w, .int v2, .int v3], [.int v7], (h.1, I, J, h.2.2.2))) rfl ?_
        have r_v7 : (0 : Int) ≤ v7.toInt ∧ v7.toInt ≤ 4 := by rw [← q_v7, show v6.toInt.toNat = 16 + v2.toInt.toNat from by omega]; exact ht _ (by omega)
        have l_v7 : (pI h.2.1 26) (16 + v2.toInt.toNat) = v7.toInt := (congrArg (pI h.2.1 26) (show 16 + v2.toInt.toNat = v6.toInt.toNat from by omega)).trans (congrArg Int32.toInt q_v7)
        refine hk_zeq (ix := v7.toInt) rfl rfl (fun z8 => ?_) (fun z8 => ?_)
        · refine qm_Ru.go 1 (c' := (152, [.ref 21, .ref 20, .int al, .int 4, .int le, .ref 26, .int (w + 1), .int v2, .int v3], [], (h.1, I, J, h.2.2.2))) rfl ?_
          obtain ⟨v9, q_v9, e_v9⟩ := hk_add (x := w) (y := 1) (a := w.toInt) (b := 1) rfl rfl (by omega) (by omega)
          rw [q_v9]
          refine qm_Ru.go 1 (c' := (42, [.ref 21, .ref 20, .int al, .int 4, .int le, .ref 26, .int v9, .int v2, .int v3], [], (h.1, I, J, h.2.2.2))) rfl ?_
          exact ih _ (by omega) (I) (J) v9 (.int v2) (.int v3) hBI (fun o ho i => (e o ho i)) (by omega) rfl
        · refine qm_Ru.go 4 (c' := (86, [.ref 21, .ref 20, .int al, .int 4, .int le, .ref 26, .int w, .int v2, .int v3], [.int (16 + v3), .ref 26], (h.1, I, J, h.2.2.2))) rfl ?_
          obtain ⟨v10, q_v10, e_v10⟩ := hk_add (x := 16) (y := v3) (a := 16) (b := v3.toInt) rfl rfl (by omega) (by omega)
          rw [q_v10]
          obtain ⟨v11, q_v11⟩ : ∃ v, h.2.1 26 (v10.toInt.toNat) = v := ⟨_, rfl⟩
          have b_v11 : (0 : Int) ≤ v11.toInt ∧ v11.toInt ≤ 12 := by rw [← q_v11]; exact hB 26 (v10.toInt.toNat)
          refine hk_ial (v := v11) rfl (hH.1 26 (0, 21) rfl) (by omega) (by omega) (show (I) 26 (v10.toInt.toNat) = _ from ((e 26 rfl (v10.toInt.toNat)).trans q_v11)) ?_
          refine qm_Ru.go 0 (c' := (87, [.ref 21, .ref 20, .int al, .int 4, .int le, .ref 26, .int w, .int v2, .int v3], [.int v11], (h.1, I, J, h.2.2.2))) rfl ?_
          have r_v11 : (0 : Int) ≤ v11.toInt ∧ v11.toInt ≤ 4 := by rw [← q_v11, show v10.toInt.toNat = 16 + v3.toInt.toNat from by omega]; exact ht _ (by omega)
          have l_v11 : (pI h.2.1 26) (16 + v3.toInt.toNat) = v11.toInt := (congrArg (pI h.2.1 26) (show 16 + v3.toInt.toNat = v10.toInt.toNat from by omega)).trans (congrArg Int32.toInt q_v11)
          refine qm_Ru.go 1 (c' := (88, [.ref 21, .ref 20, .int al, .int 4, .int le, .ref 26, .int w, .int v2, .int v3], [.int 4, .int v11], (h.1, I, J, h.2.2.2))) rfl ?_
          refine hk_cne (ix := v11.toInt) (iy := 4) rfl rfl rfl (fun z12 => ?_) (fun z12 => ?_)
          · refine qm_Ru.go 6 (c' := (101, [.ref 21, .ref 20, .int al, .int 4, .int le, .ref 26, .int w, .int v2, .int v3], [.int 5, .ref 21, .int 0, .ref 26], (h.1, I, J, h.2.2.2))) rfl ?_
            refine hk_aal rfl (hH.1 21 (4, 6) rfl) (by decide) (by decide) (hH.2 21 5 (some 27) rfl) ?_
            refine qm_Ru.go 2 (c' := (105, [.ref 21, .ref 20, .int al, .int 4, .int le, .ref 26, .int w, .int v2, .int v3], [.int 21, .int 0, .ref 27, .int 0, .ref 26], (h.1, I, J, h.2.2.2))) rfl ?_
            refine hk_acp rfl (hH.1 26 (0, 21) rfl) (hH.1 27 (0, 21) rfl) rfl ?_
            refine qm_Ru.go 0 (c' := (108, [.ref 21, .ref 20, .int al, .int 4, .int le, .ref 26, .int w, .int v2, .int v3], [], (h.1, qm_cp (I) 26 0 27 0 21, J, h.2.2.2))) rfl ?_
            obtain ⟨I13, d_I13⟩ : ∃ J, qm_cp (I) 26 0 27 0 21 = J := ⟨_, rfl⟩
            rw [d_I13]
            have hB_I13 : hk_B I13 := by rw [← d_I13]; exact cp_B hBI (fun i hi => ⟨(hBI 26 _).1, Int.le_trans (hBI 26 _).2 (show (12 : Int) ≤ 12 from by decide)⟩)
            have e_I13 : ∀ o, [27].contains o = false → ∀ i, I13 o i = (I) o i := fun o ho i => by rw [← d_I13]; exact cp_ot (fun c => by subst c; cases ho)
            have ci_I13 : ∀ i : Nat, i < 21 → I13 27 (0 + i) = (I) 26 (0 + i) := fun i hi => by rw [← d_I13]; exact cp_in hi
            refine qm_Ru.go 4 (c' := (112, [.ref 21, .ref 20, .int al, .int 4, .int le, .ref 26, .int w, .int v2, .int v3], [.int 5, .ref 21], (h.1, I13, J, h.2.2.2))) rfl ?_
            refine hk_aal rfl (hH.1 21 (4, 6) rfl) (by decide) (by decide) (hH.2 21 5 (some 27) rfl) ?_
            refine qm_Ru.go 2 (c' := (117, [.ref 21, .ref 20, .int al, .int 4, .int le, .ref 26, .int w, .int v2, .int v3], [.int v3, .int v2, .ref 27], (h.1, I13, J, h.2.2.2))) rfl ?_
            have cj_I14 : ∀ i : Nat, i < 21 → pI (I13) 27 i = pI h.2.1 26 i := fun i hi => by have g := ci_I13 i hi; rw [Nat.zero_add] at g; exact (congrArg Int32.toInt g).trans (congrArg Int32.toInt (e 26 rfl i))
            have tj_I14 : tw (pI (I13) 27) := fun s hs => by rw [cj_I14 (16 + s) (by omega)]; exact ht s hs
            have ea_I14 := (cj_I14 (16 + v2.toInt.toNat) (by omega)).trans l_v7
            have eb_I14 := (cj_I14 (16 + v3.toInt.toNat) (by omega)).trans l_v11
            refine qm_Ru.call (j := 166) (as := [.ref 27, .int v2, .int v3]) (c' := (120, [.ref 21, .ref 20, .int al, .int 4, .int le, .ref 26, .int w, .int v2, .int v3], [], (h.1, I13, J, h.2.2.2))) rfl rfl rfl (hs_mv_27 (h := (h.1, I13, J, h.2.2.2)) hH hB_I13 (a := v2) (t := v3) (by omega) (by omega) (by omega) ea_I14 eb_I14 (by omega) (by omega) (by omega) (by omega) (fun I14 hB_I14 e_I14 d_I14 => ?_))
            have tw_I14 : tw (pI I14 27) := by rw [d_I14]; exact (lev_dig (qd := fun _ => 0) (sv := 0) (qn := 0) ⟨tj_I14, fun q h1 h2 => absurd h2 (by omega)⟩ (by omega) (by omega) (by omega) ea_I14 eb_I14 (by omega) (by omega) rfl).1
            refine qm_Ru.go 5 (c' := (127, [.ref 21, .ref 20, .int al, .int 4, .int le, .ref 26, .int w, .int v2, .int v3], [.int (10 * v2), .int 4, .ref 20], (h.1, I14, J, h.2.2.2))) rfl ?_
            obtain ⟨v15, q_v15, e_v15⟩ := hk_mul (x := 10) (y := v2) (a := 10) (b := v2.toInt) rfl rfl (by omega) (by omega)
            rw [q_v15]
            refine qm_Ru.go 2 (c' := (130, [.ref 21, .ref 20, .int al, .int 4, .int le, .ref 26, .int w, .int v2, .int v3], [.int (v15 + v3), .int 4, .ref 20], (h.1, I14, J, h.2.2.2))) rfl ?_
            obtain ⟨v16, q_v16, e_v16⟩ := hk_add (x := v15) (y := v3) (a := v15.toInt) (b := v3.toInt) rfl rfl (by omega) (by omega)
            rw [q_v16]
            refine hk_ias rfl (hH.1 20 (0, 5) rfl) (by decide) (by decide) ?_
            refine qm_Ru.go 9 (c' := (141, [.ref 21, .ref 20, .int al, .int 4, .int le, .ref 26, .int w, .int v2, .int v3], [.int (le - 1), .int 5, .int al, .ref 20, .ref 21], (h.1, qm_up I14 20 4 v16, J, h.2.2.2))) rfl ?_
            obtain ⟨v17, q_v17, e_v17⟩ := hk_sub (x := le) (y := 1) (a := le.toInt) (b := 1) rfl rfl (by omega) (by omega)
            rw [q_v17]
            refine qm_Ru.call (j := 170) (as := [.ref 21, .ref 20, .int al, .int 5, .int v17]) (c' := (144, [.ref 21, .ref 20, .int al, .int 4, .int le, .ref 26, .int w, .int v2, .int v3], [], (h.1, qm_up I14 20 4 v16, J, h.2.2.2))) rfl rfl rfl (hs_all_5 (h := (h.1, qm_up I14 20 4 v16, J, h.2.2.2)) h6 hH (hb_up (o := 20) (k := 4) (x := v16) hB_I14 (qa_in_full _)) (al := al) (le := v17) (by omega) (by omega) (by show tw (pI (qm_up I14 20 4 v16) 27); rw [pI_sk rfl]; exact tw_I14) (fun v20 I18 J19 b_v20 hB_I18 e_I18 => ?_))
            have e_I18 : ∀ o, [20, 27].contains o = false → ∀ i, I18 o i = (qm_up I14 20 4 v16) o i := e_I18
            refine qm_Ru.go 0 (c' := (144, [.ref 21, .ref 20, .int al, .int 4, .int le, .ref 26, .int w, .int v2, .int v3], [.int v20], (h.1, I18, J19, h.2.2.2))) rfl ?_
            refine hk_zeq (ix := v20.toInt) rfl rfl (fun z21 => ?_) (fun z21 => ?_)
            · refine qm_Ru.go 1 (c' := (152, [.ref 21, .ref 20, .int al, .int 4, .int le, .ref 26, .int (w + 1), .int v2, .int v3], [], (h.1, I18, J19, h.2.2.2))) rfl ?_
              obtain ⟨v22, q_v22, e_v22⟩ := hk_add (x := w) (y := 1) (a := w.toInt) (b := 1) rfl rfl (by omega) (by omega)
              rw [q_v22]
              refine qm_Ru.go 1 (c' := (42, [.ref 21, .ref 20, .int al, .int 4, .int le, .ref 26, .int v22, .int v2, .int v3], [], (h.1, I18, J19, h.2.2.2))) rfl ?_
              exact ih _ (by omega) (I18) (J19) v22 (.int v2) (.int v3) hB_I18 (fun o ho i => ((e_I18 o (hk_ms rfl ho) i).trans ((hk_mod ho rfl).trans ((e_I14 o (hk_ms rfl ho) i).trans ((e_I13 o (hk_ms rfl ho) i).trans (e o ho i)))))) (by omega) rfl
            · refine qm_Ru.go 1 (c' := (148, [.ref 21, .ref 20, .int al, .int 4, .int le, .ref 26, .int w, .int v2, .int v3], [.int 1], (h.1, I18, J19, h.2.2.2))) rfl ?_
              refine qm_Ru.rt (v := (some (.int 1))) (h' := (h.1, I18, J19, h.2.2.2)) rfl ?_
              exact k 1 (I18) (J19) (by decide) hB_I18 (fun o ho i => ((e_I18 o (hk_ms rfl ho) i).trans ((hk_mod ho rfl).trans ((e_I14 o (hk_ms rfl ho) i).trans ((e_I13 o (hk_ms rfl ho) i).trans (e o ho i))))))
          · refine qm_Ru.go 2 (c' := (152, [.ref 21, .ref 20, .int al, .int 4, .int le, .ref 26, .int (w + 1), .int v2, .int v3], [], (h.1, I, J, h.2.2.2))) rfl ?_
            obtain ⟨v23, q_v23, e_v23⟩ := hk_add (x := w) (y := 1) (a := w.toInt) (b := 1) rfl rfl (by omega) (by omega)
            rw [q_v23]
            refine qm_Ru.go 1 (c' := (42, [.ref 21, .ref 20, .int al, .int 4, .int le, .ref 26, .int v23, .int v2, .int v3], [], (h.1, I, J, h.2.2.2))) rfl ?_
            exact ih _ (by omega) (I) (J) v23 (.int v2) (.int v3) hBI (fun o ho i => (e o ho i)) (by omega) rfl
theorem hs_all_4 {L : Nat} {xs : Nat → Int32} {d : Nat} {Z : Option Value → qm_H → Prop} {h : qm_H} (h6 : 6 ≤ L) (hH : hk_H h) (hB : hk_B h.2.1) {al le : Int32} (b_al : (0 : Int) ≤ al.toInt ∧ al.toInt ≤ 12) (b_le : (-4 : Int) ≤ le.toInt ∧ le.toInt ≤ 5) (ht : tw (pI h.2.1 26)) (k : ∀ (v : Int32) (I : Nat → Nat → Int32) (J : Nat → Nat → Int64), (0 : Int) ≤ v.toInt ∧ v.toInt ≤ 1 → hk_B I → (∀ o, [20, 26, 27].contains o = false → ∀ i, I o i = h.2.1 o i) → Z (some (.int v)) (h.1, I, J, h.2.2.2)) : qm_Ru (some (L, xs)) (d + 100) cd_170 (qm_ent 9 [.ref 21, .ref 20, .int al, .int 4, .int le] h) Z := by
  refine qm_Ru.go 2 (c' := (2, [.ref 21, .ref 20, .int al, .int 4, .int le, .float 0, .float 0, .float 0, .float 0], [.int 4, .ref 21], h)) rfl ?_
  refine hk_aal rfl (hH.1 21 (4, 6) rfl) (by decide) (by decide) (hH.2 21 4 (some 26) rfl) ?_
  refine qm_Ru.go 3 (c' := (8, [.ref 21, .ref 20, .int al, .int 4, .int le, .ref 26, .float 0, .float 0, .float 0], [.int al, .ref 26], h)) rfl ?_
  refine qm_Ru.call (j := 171) (as := [.ref 26, .int al]) (c' := (11, [.ref 21, .ref 20, .int al, .int 4, .int le, .ref 26, .float 0, .float 0, .float 0], [], h)) rfl rfl rfl (hs_srv_26 (h := h) h6 hH hB (al := al) (by omega) ht (fun I1 J2 hB_I1 e_I1 tw_I1 => ?_))
  refine qm_Ru.go 2 (c' := (15, [.ref 21, .ref 20, .int al, .int 4, .int le, .ref 26, .float 0, .float 0, .float 0], [.int 20, .ref 26], (h.1, I1, J2, h.2.2.2))) rfl ?_
  obtain ⟨v3, q_v3⟩ : ∃ v, I1 26 20 = v := ⟨_, rfl⟩
  have b_v3 : (0 : Int) ≤ v3.toInt ∧ v3.toInt ≤ 12 := by rw [← q_v3]; exact hB_I1 26 20
  refine hk_ial (v := v3) rfl (hH.1 26 (0, 21) rfl) (by decide) (by decide) q_v3 ?_
  refine qm_Ru.go 1 (c' := (17, [.ref 21, .ref 20, .int al, .int 4, .int le, .ref 26, .float 0, .float 0, .float 0], [.int al, .int v3], (h.1, I1, J2, h.2.2.2))) rfl ?_
  refine hk_clt (ix := v3.toInt) (iy := al.toInt) rfl rfl rfl (fun z4 => ?_) (fun z4 => ?_)
  · refine qm_Ru.go 4 (c' := (29, [.ref 21, .ref 20, .int al, .int 4, .int le, .ref 26, .float 0, .float 0, .float 0], [.ref 26], (h.1, I1, J2, h.2.2.2))) rfl ?_
    refine qm_Ru.call (j := 172) (as := [.ref 26]) (c' := (32, [.ref 21, .ref 20, .int al, .int 4, .int le, .ref 26, .float 0, .float 0, .float 0], [], (h.1, I1, J2, h.2.2.2))) rfl rfl rfl (hs_blk_26 (h := (h.1, I1, J2, h.2.2.2)) h6 hH hB_I1 tw_I1 (fun v7 I5 J6 b_v7 _ e_I5 => ?_))
    have e_I5 : I1 = I5 := funext fun o => funext fun i => (e_I5 o rfl i).symm
    subst e_I5
    refine qm_Ru.go 1 (c' := (34, [.ref 21, .ref 20, .int al, .int 4, .int le, .ref 26, .float 0, .float 0, .float 0], [.int le, .int v7], (h.1, I1, J6, h.2.2.2))) rfl ?_
    refine hk_cle (ix := v7.toInt) (iy := le.toInt) rfl rfl rfl (fun z8 => ?_) (fun z8 => ?_)
    · refine qm_Ru.go 2 (c' := (42, [.ref 21, .ref 20, .int al, .int 4, .int le, .ref 26, .int 0, .float 0, .float 0], [], (h.1, I1, J6, h.2.2.2))) rfl ?_
      exact hl_all_4 (h := (h.1, I1, J6, h.2.2.2)) h6 hH hB_I1 b_al b_le tw_I1 (fun v I J bv hBI e => k v I J bv hBI (fun o ho i => (e o (hk_ms rfl ho) i).trans (e_I1 o (hk_ms rfl ho) i))) _ I1 (J6) 0 _ _ hB_I1 (fun _ _ _ => rfl) (by decide) rfl
    · refine qm_Ru.go 1 (c' := (38, [.ref 21, .ref 20, .int al, .int 4, .int le, .ref 26, .float 0, .float 0, .float 0], [.int 0], (h.1, I1, J6, h.2.2.2))) rfl ?_
      refine qm_Ru.rt (v := (some (.int 0))) (h' := (h.1, I1, J6, h.2.2.2)) rfl ?_
      exact k 0 (I1) (J6) (by decide) hB_I1 (fun o ho i => e_I1 o (hk_ms rfl ho) i)
  · refine qm_Ru.go 1 (c' := (21, [.ref 21, .ref 20, .int al, .int 4, .int le, .ref 26, .float 0, .float 0, .float 0], [.int 1], (h.1, I1, J2, h.2.2.2))) rfl ?_
    refine qm_Ru.rt (v := (some (.int 1))) (h' := (h.1, I1, J2, h.2.2.2)) rfl ?_
    exact k 1 (I1) (J2) (by decide) hB_I1 (fun o ho i => e_I1 o (hk_ms rfl ho) i)
theorem hl_all_3 {L : Nat} {xs : Nat → Int32} {d : Nat} {Z : Option Value → qm_H → Prop} {h : qm_H} (h6 : 6 ≤ L) (hH : hk_H h) (hB : hk_B h.2.1) {al le : Int32} (b_al : (0 : Int) ≤ al.toInt ∧ al.toInt ≤ 12) (b_le : (-3 : Int) ≤ le.toInt ∧ le.toInt ≤ 5) (ht : tw (pI h.2.1 25)) (k : ∀ (v : Int32) (I : Nat → Nat → Int32) (J : Nat → Nat → Int64), (0 : Int) ≤ v.toInt ∧ v.toInt ≤ 1 → hk_B I → (∀ o, [20, 26, 27].contains o = false → ∀ i, I o i = h.2.1 o i) → Z (some (.int v)) (h.1, I, J, h.2.2.2)) : ∀ (m : Nat) (I : Nat → Nat → Int32) (J : Nat → Nat → Int64) (w : Int32) (l7 l8 : Value), hk_B I → (∀ o, [20, 26, 27].contains o = false → ∀ i, I o i = h.2.1 o i) → ((0 : Int) ≤ w.toInt ∧ w.toInt ≤ 16) → (16 - w.toInt).toNat = m → qm_Ru (some (L, xs)) (d + 120) cd_170 (42, [.ref 21, .ref 20, .int al, .int 3, .int le, .ref 25, .int w, l7, l8], [], (h.1, I, J, h.2.2.2)) Z := by
  intro m
  induction m using Nat.strongRecOn with
  | ind m ih =>
    intro I J w l7 l8 hBI e h_w hm
    refine qm_Ru.go 2 (c' := (46, [.ref 21, .ref 20, .int al, .int 3, .int le, .ref 25, .int w, l7, l8], [.int 16, .int w], (h.1, I, J, h.2.2.2))) rfl ?_
    refine hk_cge (ix := w.toInt) (iy := 16) rfl rfl rfl (fun z1 => ?_) (fun z1 => ?_)
    · refine qm_Ru.go 1 (c' := (156, [.ref 21, .ref 20, .int al, .int 3, .int le, .ref 25, .int w, l7, l8], [.int 0], (h.1, I, J, h.2.2.2))) rfl ?_
      refine qm_Ru.rt (v := (some (.int 0))) (h' := (h.1, I, J, h.2.2.2)) rfl ?_
      exact k 0 (I) (J) (by decide) hBI (fun o ho i => (e o ho i))
    · refine qm_Ru.go 3 (c' := (53, [.ref 21, .ref 20, .int al, .int 3, .int le, .ref 25, .int w, l7, l8], [.int (w / 4)], (h.1, I, J, h.2.2.2))) rfl ?_
      obtain ⟨v2, q_v2, e_v2⟩ := hk_div (x := w) (y := 4) (a := w.toInt) (b := 4) rfl rfl (by omega) (by omega)
      rw [q_v2]
      refine qm_Ru.go 4 (c' := (59, [.ref 21, .ref 20, .int al, .int 3, .int le, .ref 25, .int w, .int v2, l8], [.int (w - w / 4 * 4)], (h.1, I, J, h.2.2.2))) rfl ?_
      obtain ⟨v3, q_v3, e_v3⟩ := hk_rem (x := w) (y := 4) (a := w.toInt) (b := 4) rfl rfl (by omega) (by omega)
      rw [q_v3]
      refine qm_Ru.go 3 (c' := (65, [.ref 21, .ref 20, .int al, .int 3, .int le, .ref 25, .int w, .int v2, .int v3], [.int v3, .int v2], (h.1, I, J, h.2.2.2))) rfl ?_
      refine hk_ceq (ix := v2.toInt) (iy := v3.toInt) rfl rfl rfl (fun z4 => ?_) (fun z4 => ?_)
      · refine qm_Ru.go 1 (c' := (152, [.ref 21, .ref 20, .int al, .int 3, .int le, .ref 25, .int (w + 1), .int v2, .int v3], [], (h.1, I, J, h.2.2.2))) rfl ?_
        obtain ⟨v5, q_v5, e_v5⟩ := hk_add (x := w) (y := 1) (a := w.toInt) (b := 1) rfl rfl (by omega) (by omega)
        rw [q_v5]
        refine qm_Ru.go 1 (c' := (42, [.ref 21, .ref 20, .int al, .int 3, .int le, .ref 25, .int v5, .int v2, .int v3], [], (h.1, I, J, h.2.2.2))) rfl ?_
        exact ih _ (by omega) (I) (J) v5 (.int v2) (.int v3) hBI (fun o ho i => (e o ho i)) (by omega) rfl
      · refine qm_Ru.go 4 (c' := (75, [.ref 21, .ref 20, .int al, .int 3, .int le, .ref 25, .int w, .int v2, .int v3], [.int (16 + v2), .ref 25], (h.1, I, J, h.2.2.2))) rfl ?_
        obtain ⟨v6, q_v6, e_v6⟩ := hk_add (x := 16) (y := v2) (a := 16) (b := v2.toInt) rfl rfl (by omega) (by omega)
        rw [q_v6]
        obtain ⟨v7, q_v7⟩ : ∃ v, h.2.1 25 (v6.toInt.toNat) = v := ⟨_, rfl⟩
        have b_v7 : (0 : Int) ≤ v7.toInt ∧ v7.toInt ≤ 12 := by rw [← q_v7]; exact hB 25 (v6.toInt.toNat)
        refine hk_ial (v := v7) rfl (hH.1 25 (0, 21) rfl) (by omega) (by omega) (show (I) 25 (v6.toInt.toNat) = _ from ((e 25 rfl (v6.toInt.toNat)).trans q_v7)) ?_
        refine qm_Ru.go 0 (c' := (76, [.ref 21, .ref 20, .int al, .int 3, .int le, .ref 25, .int w, .int v2, .int v3], [.int v7], (h.1, I, J, h.2.2.2))) rfl ?_
        have r_v7 : (0 : Int) ≤ v7.toInt ∧ v7.toInt ≤ 4 := by rw [← q_v7, show v6.toInt.toNat = 16 + v2.toInt.toNat from by omega]; exact ht _ (by omega)
        have l_v7 : (pI h.2.1 25) (16 + v2.toInt.toNat) = v7.toInt := (congrArg (pI h.2.1 25) (show 16 + v2.toInt.toNat = v6.toInt.toNat from by omega)).trans (congrArg Int32.toInt q_v7)
        refine hk_zeq (ix := v7.toInt) rfl rfl (fun z8 => ?_) (fun z8 => ?_)
        · refine qm_Ru.go 1 (c' := (152, [.ref 21, .ref 20, .int al, .int 3, .int le, .ref 25, .int (w + 1), .int v2, .int v3], [], (h.1, I, J, h.2.2.2))) rfl ?_
          obtain ⟨v9, q_v9, e_v9⟩ := hk_add (x := w) (y := 1) (a := w.toInt) (b := 1) rfl rfl (by omega) (by omega)
          rw [q_v9]
          refine qm_Ru.go 1 (c' := (42, [.ref 21, .ref 20, .int al, .int 3, .int le, .ref 25, .int v9, .int v2, .int v3], [], (h.1, I, J, h.2.2.2))) rfl ?_
          exact ih _ (by omega) (I) (J) v9 (.int v2) (.int v3) hBI (fun o ho i => (e o ho i)) (by omega) rfl
        · refine qm_Ru.go 4 (c' := (86, [.ref 21, .ref 20, .int al, .int 3, .int le, .ref 25, .int w, .int v2, .int v3], [.int (16 + v3), .ref 25], (h.1, I, J, h.2.2.2))) rfl ?_
          obtain ⟨v10, q_v10, e_v10⟩ := hk_add (x := 16) (y := v3) (a := 16) (b := v3.toInt) rfl rfl (by omega) (by omega)
          rw [q_v10]
          obtain ⟨v11, q_v11⟩ : ∃ v, h.2.1 25 (v10.toInt.toNat) = v := ⟨_, rfl⟩
          have b_v11 : (0 : Int) ≤ v11.toInt ∧ v11.toInt ≤ 12 := by rw [← q_v11]; exact hB 25 (v10.toInt.toNat)
          refine hk_ial (v := v11) rfl (hH.1 25 (0, 21) rfl) (by omega) (by omega) (show (I) 25 (v10.toInt.toNat) = _ from ((e 25 rfl (v10.toInt.toNat)).trans q_v11)) ?_
          refine qm_Ru.go 0 (c' := (87, [.ref 21, .ref 20, .int al, .int 3, .int le, .ref 25, .int w, .int v2, .int v3], [.int v11], (h.1, I, J, h.2.2.2))) rfl ?_
          have r_v11 : (0 : Int) ≤ v11.toInt ∧ v11.toInt ≤ 4 := by rw [← q_v11, show v10.toInt.toNat = 16 + v3.toInt.toNat from by omega]; exact ht _ (by omega)
          have l_v11 : (pI h.2.1 25) (16 + v3.toInt.toNat) = v11.toInt := (congrArg (pI h.2.1 25) (show 16 + v3.toInt.toNat = v10.toInt.toNat from by omega)).trans (congrArg Int32.toInt q_v11)
          refine qm_Ru.go 1 (c' := (88, [.ref 21, .ref 20, .int al, .int 3, .int le, .ref 25, .int w, .int v2, .int v3], [.int 4, .int v11], (h.1, I, J, h.2.2.2))) rfl ?_
          refine hk_cne (ix := v11.toInt) (iy := 4) rfl rfl rfl (fun z12 => ?_) (fun z12 => ?_)
          · refine qm_Ru.go 6 (c' := (101, [.ref 21, .ref 20, .int al, .int 3, .int le, .ref 25, .int w, .int v2, .int v3], [.int 4, .ref 21, .int 0, .ref 25], (h.1, I, J, h.2.2.2))) rfl ?_
            refine hk_aal rfl (hH.1 21 (4, 6) rfl) (by decide) (by decide) (hH.2 21 4 (some 26) rfl) ?_
            refine qm_Ru.go 2 (c' := (105, [.ref 21, .ref 20, .int al, .int 3, .int le, .ref 25, .int w, .int v2, .int v3], [.int 21, .int 0, .ref 26, .int 0, .ref 25], (h.1, I, J, h.2.2.2))) rfl ?_
            refine hk_acp rfl (hH.1 25 (0, 21) rfl) (hH.1 26 (0, 21) rfl) rfl ?_
            refine qm_Ru.go 0 (c' := (108, [.ref 21, .ref 20, .int al, .int 3, .int le, .ref 25, .int w, .int v2, .int v3], [], (h.1, qm_cp (I) 25 0 26 0 21, J, h.2.2.2))) rfl ?_
            obtain ⟨I13, d_I13⟩ : ∃ J, qm_cp (I) 25 0 26 0 21 = J := ⟨_, rfl⟩
            rw [d_I13]
            have hB_I13 : hk_B I13 := by rw [← d_I13]; exact cp_B hBI (fun i hi => ⟨(hBI 25 _).1, Int.le_trans (hBI 25 _).2 (show (12 : Int) ≤ 12 from by decide)⟩)
            have e_I13 : ∀ o, [26].contains o = false → ∀ i, I13 o i = (I) o i := fun o ho i => by rw [← d_I13]; exact cp_ot (fun c => by subst c; cases ho)
            have ci_I13 : ∀ i : Nat, i < 21 → I13 26 (0 + i) = (I) 25 (0 + i) := fun i hi => by rw [← d_I13]; exact cp_in hi
            refine qm_Ru.go 4 (c' := (112, [.ref 21, .ref 20, .int al, .int 3, .int le, .ref 25, .int w, .int v2, .int v3], [.int 4, .ref 21], (h.1, I13, J, h.2.2.2))) rfl ?_
            refine hk_aal rfl (hH.1 21 (4, 6) rfl) (by decide) (by decide) (hH.2 21 4 (some 26) rfl) ?_
            refine qm_Ru.go 2 (c' := (117, [.ref 21, .ref 20, .int al, .int 3, .int le, .ref 25, .int w, .int v2, .int v3], [.int v3, .int v2, .ref 26], (h.1, I13, J, h.2.2.2))) rfl ?_
            have cj_I14 : ∀ i : Nat, i < 21 → pI (I13) 26 i = pI h.2.1 25 i := fun i hi => by have g := ci_I13 i hi; rw [Nat.zero_add] at g; exact (congrArg Int32.toInt g).trans (congrArg Int32.toInt (e 25 rfl i))
            have tj_I14 : tw (pI (I13) 26) := fun s hs => by rw [cj_I14 (16 + s) (by omega)]; exact ht s hs
            have ea_I14 := (cj_I14 (16 + v2.toInt.toNat) (by omega)).trans l_v7
            have eb_I14 := (cj_I14 (16 + v3.toInt.toNat) (by omega)).trans l_v11
            refine qm_Ru.call (j := 166) (as := [.ref 26, .int v2, .int v3]) (c' := (120, [.ref 21, .ref 20, .int al, .int 3, .int le, .ref 25, .int w, .int v2, .int v3], [], (h.1, I13, J, h.2.2.2))) rfl rfl rfl (hs_mv_26 (h := (h.1, I13, J, h.2.2.2)) hH hB_I13 (a := v2) (t := v3) (by omega) (by omega) (by omega) ea_I14 eb_I14 (by omega) (by omega) (by omega) (by omega) (fun I14 hB_I14 e_I14 d_I14 => ?_))
            have tw_I14 : tw (pI I14 26) := by rw [d_I14]; exact (lev_dig (qd := fun _ => 0) (sv := 0) (qn := 0) ⟨tj_I14, fun q h1 h2 => absurd h2 (by omega)⟩ (by omega) (by omega) (by omega) ea_I14 eb_I14 (by omega) (by omega) rfl).1
            refine qm_Ru.go 5 (c' := (127, [.ref 21, .ref 20, .int al, .int 3, .int le, .ref 25, .int w, .int v2, .int v3], [.int (10 * v2), .int 3, .ref 20], (h.1, I14, J, h.2.2.2))) rfl ?_
            obtain ⟨v15, q_v15, e_v15⟩ := hk_mul (x := 10) (y := v2) (a := 10) (b := v2.toInt) rfl rfl (by omega) (by omega)
            rw [q_v15]
            refine qm_Ru.go 2 (c' := (130, [.ref 21, .ref 20, .int al, .int 3, .int le, .ref 25, .int w, .int v2, .int v3], [.int (v15 + v3), .int 3, .ref 20], (h.1, I14, J, h.2.2.2))) rfl ?_
            obtain ⟨v16, q_v16, e_v16⟩ := hk_add (x := v15) (y := v3) (a := v15.toInt) (b := v3.toInt) rfl rfl (by omega) (by omega)
            rw [q_v16]
            refine hk_ias rfl (hH.1 20 (0, 5) rfl) (by decide) (by decide) ?_
            refine qm_Ru.go 9 (c' := (141, [.ref 21, .ref 20, .int al, .int 3, .int le, .ref 25, .int w, .int v2, .int v3], [.int (le - 1), .int 4, .int al, .ref 20, .ref 21], (h.1, qm_up I14 20 3 v16, J, h.2.2.2))) rfl ?_
            obtain ⟨v17, q_v17, e_v17⟩ := hk_sub (x := le) (y := 1) (a := le.toInt) (b := 1) rfl rfl (by omega) (by omega)
            rw [q_v17]
            refine qm_Ru.call (j := 170) (as := [.ref 21, .ref 20, .int al, .int 4, .int v17]) (c' := (144, [.ref 21, .ref 20, .int al, .int 3, .int le, .ref 25, .int w, .int v2, .int v3], [], (h.1, qm_up I14 20 3 v16, J, h.2.2.2))) rfl rfl rfl (hs_all_4 (h := (h.1, qm_up I14 20 3 v16, J, h.2.2.2)) h6 hH (hb_up (o := 20) (k := 3) (x := v16) hB_I14 (qa_in_full _)) (al := al) (le := v17) (by omega) (by omega) (by show tw (pI (qm_up I14 20 3 v16) 26); rw [pI_sk rfl]; exact tw_I14) (fun v20 I18 J19 b_v20 hB_I18 e_I18 => ?_))
            have e_I18 : ∀ o, [20, 26, 27].contains o = false → ∀ i, I18 o i = (qm_up I14 20 3 v16) o i := e_I18
            refine qm_Ru.go 0 (c' := (144, [.ref 21, .ref 20, .int al, .int 3, .int le, .ref 25, .int w, .int v2, .int v3], [.int v20], (h.1, I18, J19, h.2.2.2))) rfl ?_
            refine hk_zeq (ix := v20.toInt) rfl rfl (fun z21 => ?_) (fun z21 => ?_)
            · refine qm_Ru.go 1 (c' := (152, [.ref 21, .ref 20, .int al, .int 3, .int le, .ref 25, .int (w + 1), .int v2, .int v3], [], (h.1, I18, J19, h.2.2.2))) rfl ?_
              obtain ⟨v22, q_v22, e_v22⟩ := hk_add (x := w) (y := 1) (a := w.toInt) (b := 1) rfl rfl (by omega) (by omega)
              rw [q_v22]
              refine qm_Ru.go 1 (c' := (42, [.ref 21, .ref 20, .int al, .int 3, .int le, .ref 25, .int v22, .int v2, .int v3], [], (h.1, I18, J19, h.2.2.2))) rfl ?_
              exact ih _ (by omega) (I18) (J19) v22 (.int v2) (.int v3) hB_I18 (fun o ho i => ((e_I18 o (hk_ms rfl ho) i).trans ((hk_mod ho rfl).trans ((e_I14 o (hk_ms rfl ho) i).trans ((e_I13 o (hk_ms rfl ho) i).trans (e o ho i)))))) (by omega) rfl
            · refine qm_Ru.go 1 (c' := (148, [.ref 21, .ref 20, .int al, .int 3, .int le, .ref 25, .int w, .int v2, .int v3], [.int 1], (h.1, I18, J19, h.2.2.2))) rfl ?_
              refine qm_Ru.rt (v := (some (.int 1))) (h' := (h.1, I18, J19, h.2.2.2)) rfl ?_
              exact k 1 (I18) (J19) (by decide) hB_I18 (fun o ho i => ((e_I18 o (hk_ms rfl ho) i).trans ((hk_mod ho rfl).trans ((e_I14 o (hk_ms rfl ho) i).trans ((e_I13 o (hk_ms rfl ho) i).trans (e o ho i))))))
          · refine qm_Ru.go 2 (c' := (152, [.ref 21, .ref 20, .int al, .int 3, .int le, .ref 25, .int (w + 1), .int v2, .int v3], [], (h.1, I, J, h.2.2.2))) rfl ?_
            obtain ⟨v23, q_v23, e_v23⟩ := hk_add (x := w) (y := 1) (a := w.toInt) (b := 1) rfl rfl (by omega) (by omega)
            rw [q_v23]
            refine qm_Ru.go 1 (c' := (42, [.ref 21, .ref 20, .int al, .int 3, .int le, .ref 25, .int v23, .int v2, .int v3], [], (h.1, I, J, h.2.2.2))) rfl ?_
            exact ih _ (by omega) (I) (J) v23 (.int v2) (.int v3) hBI (fun o ho i => (e o ho i)) (by omega) rfl
theorem hs_all_3 {L : Nat} {xs : Nat → Int32} {d : Nat} {Z : Option Value → qm_H → Prop} {h : qm_H} (h6 : 6 ≤ L) (hH : hk_H h) (hB : hk_B h.2.1) {al le : Int32} (b_al : (0 : Int) ≤ al.toInt ∧ al.toInt ≤ 12) (b_le : (-3 : Int) ≤ le.toInt ∧ le.toInt ≤ 5) (ht : tw (pI h.2.1 25)) (k : ∀ (v : Int32) (I : Nat → Nat → Int32) (J : Nat → Nat → Int64), (0 : Int) ≤ v.toInt ∧ v.toInt ≤ 1 → hk_B I → (∀ o, [20, 25, 26, 27].contains o = false → ∀ i, I o i = h.2.1 o i) → Z (some (.int v)) (h.1, I, J, h.2.2.2)) : qm_Ru (some (L, xs)) (d + 120) cd_170 (qm_ent 9 [.ref 21, .ref 20, .int al, .int 3, .int le] h) Z := by
  refine qm_Ru.go 2 (c' := (2, [.ref 21, .ref 20, .int al, .int 3, .int le, .float 0, .float 0, .float 0, .float 0], [.int 3, .ref 21], h)) rfl ?_
  refine hk_aal rfl (hH.1 21 (4, 6) rfl) (by decide) (by decide) (hH.2 21 3 (some 25) rfl) ?_
  refine qm_Ru.go 3 (c' := (8, [.ref 21, .ref 20, .int al, .int 3, .int le, .ref 25, .float 0, .float 0, .float 0], [.int al, .ref 25], h)) rfl ?_
  refine qm_Ru.call (j := 171) (as := [.ref 25, .int al]) (c' := (11, [.ref 21, .ref 20, .int al, .int 3, .int le, .ref 25, .float 0, .float 0, .float 0], [], h)) rfl rfl rfl (hs_srv_25 (h := h) h6 hH hB (al := al) (by omega) ht (fun I1 J2 hB_I1 e_I1 tw_I1 => ?_))
  refine qm_Ru.go 2 (c' := (15, [.ref 21, .ref 20, .int al, .int 3, .int le, .ref 25, .float 0, .float 0, .float 0], [.int 20, .ref 25], (h.1, I1, J2, h.2.2.2))) rfl ?_
  obtain ⟨v3, q_v3⟩ : ∃ v, I1 25 20 = v := ⟨_, rfl⟩
  have b_v3 : (0 : Int) ≤ v3.toInt ∧ v3.toInt ≤ 12 := by rw [← q_v3]; exact hB_I1 25 20
  refine hk_ial (v := v3) rfl (hH.1 25 (0, 21) rfl) (by decide) (by decide) q_v3 ?_
  refine qm_Ru.go 1 (c' := (17, [.ref 21, .ref 20, .int al, .int 3, .int le, .ref 25, .float 0, .float 0, .float 0], [.int al, .int v3], (h.1, I1, J2, h.2.2.2))) rfl ?_
  refine hk_clt (ix := v3.toInt) (iy := al.toInt) rfl rfl rfl (fun z4 => ?_) (fun z4 => ?_)
  · refine qm_Ru.go 4 (c' := (29, [.ref 21, .ref 20, .int al, .int 3, .int le, .ref 25, .float 0, .float 0, .float 0], [.ref 25], (h.1, I1, J2, h.2.2.2))) rfl ?_
    refine qm_Ru.call (j := 172) (as := [.ref 25]) (c' := (32, [.ref 21, .ref 20, .int al, .int 3, .int le, .ref 25, .float 0, .float 0, .float 0], [], (h.1, I1, J2, h.2.2.2))) rfl rfl rfl (hs_blk_25 (h := (h.1, I1, J2, h.2.2.2)) h6 hH hB_I1 tw_I1 (fun v7 I5 J6 b_v7 _ e_I5 => ?_))
    have e_I5 : I1 = I5 := funext fun o => funext fun i => (e_I5 o rfl i).symm
    subst e_I5
    refine qm_Ru.go 1 (c' := (34, [.ref 21, .ref 20, .int al, .int 3, .int le, .ref 25, .float 0, .float 0, .float 0], [.int le, .int v7], (h.1, I1, J6, h.2.2.2))) rfl ?_
    refine hk_cle (ix := v7.toInt) (iy := le.toInt) rfl rfl rfl (fun z8 => ?_) (fun z8 => ?_)
    · refine qm_Ru.go 2 (c' := (42, [.ref 21, .ref 20, .int al, .int 3, .int le, .ref 25, .int 0, .float 0, .float 0], [], (h.1, I1, J6, h.2.2.2))) rfl ?_
      exact hl_all_3 (h := (h.1, I1, J6, h.2.2.2)) h6 hH hB_I1 b_al b_le tw_I1 (fun v I J bv hBI e => k v I J bv hBI (fun o ho i => (e o (hk_ms rfl ho) i).trans (e_I1 o (hk_ms rfl ho) i))) _ I1 (J6) 0 _ _ hB_I1 (fun _ _ _ => rfl) (by decide) rfl
    · refine qm_Ru.go 1 (c' := (38, [.ref 21, .ref 20, .int al, .int 3, .int le, .ref 25, .float 0, .float 0, .float 0], [.int 0], (h.1, I1, J6, h.2.2.2))) rfl ?_
      refine qm_Ru.rt (v := (some (.int 0))) (h' := (h.1, I1, J6, h.2.2.2)) rfl ?_
      exact k 0 (I1) (J6) (by decide) hB_I1 (fun o ho i => e_I1 o (hk_ms rfl ho) i)
  · refine qm_Ru.go 1 (c' := (21, [.ref 21, .ref 20, .int al, .int 3, .int le, .ref 25, .float 0, .float 0, .float 0], [.int 1], (h.1, I1, J2, h.2.2.2))) rfl ?_
    refine qm_Ru.rt (v := (some (.int 1))) (h' := (h.1, I1, J2, h.2.2.2)) rfl ?_
    exact k 1 (I1) (J2) (by decide) hB_I1 (fun o ho i => e_I1 o (hk_ms rfl ho) i)
theorem hl_all_2 {L : Nat} {xs : Nat → Int32} {d : Nat} {Z : Option Value → qm_H → Prop} {h : qm_H} (h6 : 6 ≤ L) (hH : hk_H h) (hB : hk_B h.2.1) {al le : Int32} (b_al : (0 : Int) ≤ al.toInt ∧ al.toInt ≤ 12) (b_le : (-2 : Int) ≤ le.toInt ∧ le.toInt ≤ 5) (ht : tw (pI h.2.1 24)) (k : ∀ (v : Int32) (I : Nat → Nat → Int32) (J : Nat → Nat → Int64), (0 : Int) ≤ v.toInt ∧ v.toInt ≤ 1 → hk_B I → (∀ o, [20, 25, 26, 27].contains o = false → ∀ i, I o i = h.2.1 o i) → Z (some (.int v)) (h.1, I, J, h.2.2.2)) : ∀ (m : Nat) (I : Nat → Nat → Int32) (J : Nat → Nat → Int64) (w : Int32) (l7 l8 : Value), hk_B I → (∀ o, [20, 25, 26, 27].contains o = false → ∀ i, I o i = h.2.1 o i) → ((0 : Int) ≤ w.toInt ∧ w.toInt ≤ 16) → (16 - w.toInt).toNat = m → qm_Ru (some (L, xs)) (d + 140) cd_170 (42, [.ref 21, .ref 20, .int al, .int 2, .int le, .ref 24, .int w, l7, l8], [], (h.1, I, J, h.2.2.2)) Z := by
  intro m
  induction m using Nat.strongRecOn with
  | ind m ih =>
    intro I J w l7 l8 hBI e h_w hm
    refine qm_Ru.go 2 (c' := (46, [.ref 21, .ref 20, .int al, .int 2, .int le, .ref 24, .int w, l7, l8], [.int 16, .int w], (h.1, I, J, h.2.2.2))) rfl ?_
    refine hk_cge (ix := w.toInt) (iy := 16) rfl rfl rfl (fun z1 => ?_) (fun z1 => ?_)
    · refine qm_Ru.go 1 (c' := (156, [.ref 21, .ref 20, .int al, .int 2, .int le, .ref 24, .int w, l7, l8], [.int 0], (h.1, I, J, h.2.2.2))) rfl ?_
      refine qm_Ru.rt (v := (some (.int 0))) (h' := (h.1, I, J, h.2.2.2)) rfl ?_
      exact k 0 (I) (J) (by decide) hBI (fun o ho i => (e o ho i))
    · refine qm_Ru.go 3 (c' := (53, [.ref 21, .ref 20, .int al, .int 2, .int le, .ref 24, .int w, l7, l8], [.int (w / 4)], (h.1, I, J, h.2.2.2))) rfl ?_
      obtain ⟨v2, q_v2, e_v2⟩ := hk_div (x := w) (y := 4) (a := w.toInt) (b := 4) rfl rfl (by omega) (by omega)
      rw [q_v2]
      refine qm_Ru.go 4 (c' := (59, [.ref 21, .ref 20, .int al, .int 2, .int le, .ref 24, .int w, .int v2, l8], [.int (w - w / 4 * 4)], (h.1, I, J, h.2.2.2))) rfl ?_
      obtain ⟨v3, q_v3, e_v3⟩ := hk_rem (x := w) (y := 4) (a := w.toInt) (b := 4) rfl rfl (by omega) (by omega)
      rw [q_v3]
      refine qm_Ru.go 3 (c' := (65, [.ref 21, .ref 20, .int al, .int 2, .int le, .ref 24, .int w, .int v2, .int v3], [.int v3, .int v2], (h.1, I, J, h.2.2.2))) rfl ?_
      refine hk_ceq (ix := v2.toInt) (iy := v3.toInt) rfl rfl rfl (fun z4 => ?_) (fun z4 => ?_)
      · refine qm_Ru.go 1 (c' := (152, [.ref 21, .ref 20, .int al, .int 2, .int le, .ref 24, .int (w + 1), .int v2, .int v3], [], (h.1, I, J, h.2.2.2))) rfl ?_
        obtain ⟨v5, q_v5, e_v5⟩ := hk_add (x := w) (y := 1) (a := w.toInt) (b := 1) rfl rfl (by omega) (by omega)
        rw [q_v5]
        refine qm_Ru.go 1 (c' := (42, [.ref 21, .ref 20, .int al, .int 2, .int le, .ref 24, .int v5, .int v2, .int v3], [], (h.1, I, J, h.2.2.2))) rfl ?_
        exact ih _ (by omega) (I) (J) v5 (.int v2) (.int v3) hBI (fun o ho i => (e o ho i)) (by omega) rfl
      · refine qm_Ru.go 4 (c' := (75, [.ref 21, .ref 20, .int al, .int 2, .int le, .ref 24, .int w, .int v2, .int v3], [.int (16 + v2), .ref 24], (h.1, I, J, h.2.2.2))) rfl ?_
        obtain ⟨v6, q_v6, e_v6⟩ := hk_add (x := 16) (y := v2) (a := 16) (b := v2.toInt) rfl rfl (by omega) (by omega)
        rw [q_v6]
        obtain ⟨v7, q_v7⟩ : ∃ v, h.2.1 24 (v6.toInt.toNat) = v := ⟨_, rfl⟩
        have b_v7 : (0 : Int) ≤ v7.toInt ∧ v7.toInt ≤ 12 := by rw [← q_v7]; exact hB 24 (v6.toInt.toNat)
        refine hk_ial (v := v7) rfl (hH.1 24 (0, 21) rfl) (by omega) (by omega) (show (I) 24 (v6.toInt.toNat) = _ from ((e 24 rfl (v6.toInt.toNat)).trans q_v7)) ?_
        refine qm_Ru.go 0 (c' := (76, [.ref 21, .ref 20, .int al, .int 2, .int le, .ref 24, .int w, .int v2, .int v3], [.int v7], (h.1, I, J, h.2.2.2))) rfl ?_
        have r_v7 : (0 : Int) ≤ v7.toInt ∧ v7.toInt ≤ 4 := by rw [← q_v7, show v6.toInt.toNat = 16 + v2.toInt.toNat from by omega]; exact ht _ (by omega)
        have l_v7 : (pI h.2.1 24) (16 + v2.toInt.toNat) = v7.toInt := (congrArg (pI h.2.1 24) (show 16 + v2.toInt.toNat = v6.toInt.toNat from by omega)).trans (congrArg Int32.toInt q_v7)
        refine hk_zeq (ix := v7.toInt) rfl rfl (fun z8 => ?_) (fun z8 => ?_)
        · refine qm_Ru.go 1 (c' := (152, [.ref 21, .ref 20, .int al, .int 2, .int le, .ref 24, .int (w + 1), .int v2, .int v3], [], (h.1, I, J, h.2.2.2))) rfl ?_
          obtain ⟨v9, q_v9, e_v9⟩ := hk_add (x := w) (y := 1) (a := w.toInt) (b := 1) rfl rfl (by omega) (by omega)
          rw [q_v9]
          refine qm_Ru.go 1 (c' := (42, [.ref 21, .ref 20, .int al, .int 2, .int le, .ref 24, .int v9, .int v2, .int v3], [], (h.1, I, J, h.2.2.2))) rfl ?_
          exact ih _ (by omega) (I) (J) v9 (.int v2) (.int v3) hBI (fun o ho i => (e o ho i)) (by omega) rfl
        · refine qm_Ru.go 4 (c' := (86, [.ref 21, .ref 20, .int al, .int 2, .int le, .ref 24, .int w, .int v2, .int v3], [.int (16 + v3), .ref 24], (h.1, I, J, h.2.2.2))) rfl ?_
          obtain ⟨v10, q_v10, e_v10⟩ := hk_add (x := 16) (y := v3) (a := 16) (b := v3.toInt) rfl rfl (by omega) (by omega)
          rw [q_v10]
          obtain ⟨v11, q_v11⟩ : ∃ v, h.2.1 24 (v10.toInt.toNat) = v := ⟨_, rfl⟩
          have b_v11 : (0 : Int) ≤ v11.toInt ∧ v11.toInt ≤ 12 := by rw [← q_v11]; exact hB 24 (v10.toInt.toNat)
          refine hk_ial (v := v11) rfl (hH.1 24 (0, 21) rfl) (by omega) (by omega) (show (I) 24 (v10.toInt.toNat) = _ from ((e 24 rfl (v10.toInt.toNat)).trans q_v11)) ?_
          refine qm_Ru.go 0 (c' := (87, [.ref 21, .ref 20, .int al, .int 2, .int le, .ref 24, .int w, .int v2, .int v3], [.int v11], (h.1, I, J, h.2.2.2))) rfl ?_
          have r_v11 : (0 : Int) ≤ v11.toInt ∧ v11.toInt ≤ 4 := by rw [← q_v11, show v10.toInt.toNat = 16 + v3.toInt.toNat from by omega]; exact ht _ (by omega)
          have l_v11 : (pI h.2.1 24) (16 + v3.toInt.toNat) = v11.toInt := (congrArg (pI h.2.1 24) (show 16 + v3.toInt.toNat = v10.toInt.toNat from by omega)).trans (congrArg Int32.toInt q_v11)
          refine qm_Ru.go 1 (c' := (88, [.ref 21, .ref 20, .int al, .int 2, .int le, .ref 24, .int w, .int v2, .int v3], [.int 4, .int v11], (h.1, I, J, h.2.2.2))) rfl ?_
          refine hk_cne (ix := v11.toInt) (iy := 4) rfl rfl rfl (fun z12 => ?_) (fun z12 => ?_)
          · refine qm_Ru.go 6 (c' := (101, [.ref 21, .ref 20, .int al, .int 2, .int le, .ref 24, .int w, .int v2, .int v3], [.int 3, .ref 21, .int 0, .ref 24], (h.1, I, J, h.2.2.2))) rfl ?_
            refine hk_aal rfl (hH.1 21 (4, 6) rfl) (by decide) (by decide) (hH.2 21 3 (some 25) rfl) ?_
            refine qm_Ru.go 2 (c' := (105, [.ref 21, .ref 20, .int al, .int 2, .int le, .ref 24, .int w, .int v2, .int v3], [.int 21, .int 0, .ref 25, .int 0, .ref 24], (h.1, I, J, h.2.2.2))) rfl ?_
            refine hk_acp rfl (hH.1 24 (0, 21) rfl) (hH.1 25 (0, 21) rfl) rfl ?_
            refine qm_Ru.go 0 (c' := (108, [.ref 21, .ref 20, .int al, .int 2, .int le, .ref 24, .int w, .int v2, .int v3], [], (h.1, qm_cp (I) 24 0 25 0 21, J, h.2.2.2))) rfl ?_
            obtain ⟨I13, d_I13⟩ : ∃ J, qm_cp (I) 24 0 25 0 21 = J := ⟨_, rfl⟩
            rw [d_I13]
            have hB_I13 : hk_B I13 := by rw [← d_I13]; exact cp_B hBI (fun i hi => ⟨(hBI 24 _).1, Int.le_trans (hBI 24 _).2 (show (12 : Int) ≤ 12 from by decide)⟩)
            have e_I13 : ∀ o, [25].contains o = false → ∀ i, I13 o i = (I) o i := fun o ho i => by rw [← d_I13]; exact cp_ot (fun c => by subst c; cases ho)
            have ci_I13 : ∀ i : Nat, i < 21 → I13 25 (0 + i) = (I) 24 (0 + i) := fun i hi => by rw [← d_I13]; exact cp_in hi
            refine qm_Ru.go 4 (c' := (112, [.ref 21, .ref 20, .int al, .int 2, .int le, .ref 24, .int w, .int v2, .int v3], [.int 3, .ref 21], (h.1, I13, J, h.2.2.2))) rfl ?_
            refine hk_aal rfl (hH.1 21 (4, 6) rfl) (by decide) (by decide) (hH.2 21 3 (some 25) rfl) ?_
            refine qm_Ru.go 2 (c' := (117, [.ref 21, .ref 20, .int al, .int 2, .int le, .ref 24, .int w, .int v2, .int v3], [.int v3, .int v2, .ref 25], (h.1, I13, J, h.2.2.2))) rfl ?_
            have cj_I14 : ∀ i : Nat, i < 21 → pI (I13) 25 i = pI h.2.1 24 i := fun i hi => by have g := ci_I13 i hi; rw [Nat.zero_add] at g; exact (congrArg Int32.toInt g).trans (congrArg Int32.toInt (e 24 rfl i))
            have tj_I14 : tw (pI (I13) 25) := fun s hs => by rw [cj_I14 (16 + s) (by omega)]; exact ht s hs
            have ea_I14 := (cj_I14 (16 + v2.toInt.toNat) (by omega)).trans l_v7
            have eb_I14 := (cj_I14 (16 + v3.toInt.toNat) (by omega)).trans l_v11
            refine qm_Ru.call (j := 166) (as := [.ref 25, .int v2, .int v3]) (c' := (120, [.ref 21, .ref 20, .int al, .int 2, .int le, .ref 24, .int w, .int v2, .int v3], [], (h.1, I13, J, h.2.2.2))) rfl rfl rfl (hs_mv_25 (h := (h.1, I13, J, h.2.2.2)) hH hB_I13 (a := v2) (t := v3) (by omega) (by omega) (by omega) ea_I14 eb_I14 (by omega) (by omega) (by omega) (by omega) (fun I14 hB_I14 e_I14 d_I14 => ?_))
            have tw_I14 : tw (pI I14 25) := by rw [d_I14]; exact (lev_dig (qd := fun _ => 0) (sv := 0) (qn := 0) ⟨tj_I14, fun q h1 h2 => absurd h2 (by omega)⟩ (by omega) (by omega) (by omega) ea_I14 eb_I14 (by omega) (by omega) rfl).1
            refine qm_Ru.go 5 (c' := (127, [.ref 21, .ref 20, .int al, .int 2, .int le, .ref 24, .int w, .int v2, .int v3], [.int (10 * v2), .int 2, .ref 20], (h.1, I14, J, h.2.2.2))) rfl ?_
            obtain ⟨v15, q_v15, e_v15⟩ := hk_mul (x := 10) (y := v2) (a := 10) (b := v2.toInt) rfl rfl (by omega) (by omega)
            rw [q_v15]
            refine qm_Ru.go 2 (c' := (130, [.ref 21, .ref 20, .int al, .int 2, .int le, .ref 24, .int w, .int v2, .int v3], [.int (v15 + v3), .int 2, .ref 20], (h.1, I14, J, h.2.2.2))) rfl ?_
            obtain ⟨v16, q_v16, e_v16⟩ := hk_add (x := v15) (y := v3) (a := v15.toInt) (b := v3.toInt) rfl rfl (by omega) (by omega)
            rw [q_v16]
            refine hk_ias rfl (hH.1 20 (0, 5) rfl) (by decide) (by decide) ?_
            refine qm_Ru.go 9 (c' := (141, [.ref 21, .ref 20, .int al, .int 2, .int le, .ref 24, .int w, .int v2, .int v3], [.int (le - 1), .int 3, .int al, .ref 20, .ref 21], (h.1, qm_up I14 20 2 v16, J, h.2.2.2))) rfl ?_
            obtain ⟨v17, q_v17, e_v17⟩ := hk_sub (x := le) (y := 1) (a := le.toInt) (b := 1) rfl rfl (by omega) (by omega)
            rw [q_v17]
            refine qm_Ru.call (j := 170) (as := [.ref 21, .ref 20, .int al, .int 3, .int v17]) (c' := (144, [.ref 21, .ref 20, .int al, .int 2, .int le, .ref 24, .int w, .int v2, .int v3], [], (h.1, qm_up I14 20 2 v16, J, h.2.2.2))) rfl rfl rfl (hs_all_3 (h := (h.1, qm_up I14 20 2 v16, J, h.2.2.2)) h6 hH (hb_up (o := 20) (k := 2) (x := v16) hB_I14 (qa_in_full _)) (al := al) (le := v17) (by omega) (by omega) (by show tw (pI (qm_up I14 20 2 v16) 25); rw [pI_sk rfl]; exact tw_I14) (fun v20 I18 J19 b_v20 hB_I18 e_I18 => ?_))
            have e_I18 : ∀ o, [20, 25, 26, 27].contains o = false → ∀ i, I18 o i = (qm_up I14 20 2 v16) o i := e_I18
            refine qm_Ru.go 0 (c' := (144, [.ref 21, .ref 20, .int al, .int 2, .int le, .ref 24, .int w, .int v2, .int v3], [.int v20], (h.1, I18, J19, h.2.2.2))) rfl ?_
            refine hk_zeq (ix := v20.toInt) rfl rfl (fun z21 => ?_) (fun z21 => ?_)
            · refine qm_Ru.go 1 (c' := (152, [.ref 21, .ref 20, .int al, .int 2, .int le, .ref 24, .int (w + 1), .int v2, .int v3], [], (h.1, I18, J19, h.2.2.2))) rfl ?_
              obtain ⟨v22, q_v22, e_v22⟩ := hk_add (x := w) (y := 1) (a := w.toInt) (b := 1) rfl rfl (by omega) (by omega)
              rw [q_v22]
              refine qm_Ru.go 1 (c' := (42, [.ref 21, .ref 20, .int al, .int 2, .int le, .ref 24, .int v22, .int v2, .int v3], [], (h.1, I18, J19, h.2.2.2))) rfl ?_
              exact ih _ (by omega) (I18) (J19) v22 (.int v2) (.int v3) hB_I18 (fun o ho i => ((e_I18 o (hk_ms rfl ho) i).trans ((hk_mod ho rfl).trans ((e_I14 o (hk_ms rfl ho) i).trans ((e_I13 o (hk_ms rfl ho) i).trans (e o ho i)))))) (by omega) rfl
            · refine qm_Ru.go 1 (c' := (148, [.ref 21, .ref 20, .int al, .int 2, .int le, .ref 24, .int w, .int v2, .int v3], [.int 1], (h.1, I18, J19, h.2.2.2))) rfl ?_
              refine qm_Ru.rt (v := (some (.int 1))) (h' := (h.1, I18, J19, h.2.2.2)) rfl ?_
              exact k 1 (I18) (J19) (by decide) hB_I18 (fun o ho i => ((e_I18 o (hk_ms rfl ho) i).trans ((hk_mod ho rfl).trans ((e_I14 o (hk_ms rfl ho) i).trans ((e_I13 o (hk_ms rfl ho) i).trans (e o ho i))))))
          · refine qm_Ru.go 2 (c' := (152, [.ref 21, .ref 20, .int al, .int 2, .int le, .ref 24, .int (w + 1), .int v2, .int v3], [], (h.1, I, J, h.2.2.2))) rfl ?_
            obtain ⟨v23, q_v23, e_v23⟩ := hk_add (x := w) (y := 1) (a := w.toInt) (b := 1) rfl rfl (by omega) (by omega)
            rw [q_v23]
            refine qm_Ru.go 1 (c' := (42, [.ref 21, .ref 20, .int al, .int 2, .int le, .ref 24, .int v23, .int v2, .int v3], [], (h.1, I, J, h.2.2.2))) rfl ?_
            exact ih _ (by omega) (I) (J) v23 (.int v2) (.int v3) hBI (fun o ho i => (e o ho i)) (by omega) rfl
theorem hs_all_2 {L : Nat} {xs : Nat → Int32} {d : Nat} {Z : Option Value → qm_H → Prop} {h : qm_H} (h6 : 6 ≤ L) (hH : hk_H h) (hB : hk_B h.2.1) {al le : Int32} (b_al : (0 : Int) ≤ al.toInt ∧ al.toInt ≤ 12) (b_le : (-2 : Int) ≤ le.toInt ∧ le.toInt ≤ 5) (ht : tw (pI h.2.1 24)) (k : ∀ (v : Int32) (I : Nat → Nat → Int32) (J : Nat → Nat → Int64), (0 : Int) ≤ v.toInt ∧ v.toInt ≤ 1 → hk_B I → (∀ o, [20, 24, 25, 26, 27].contains o = false → ∀ i, I o i = h.2.1 o i) → Z (some (.int v)) (h.1, I, J, h.2.2.2)) : qm_Ru (some (L, xs)) (d + 140) cd_170 (qm_ent 9 [.ref 21, .ref 20, .int al, .int 2, .int le] h) Z := by
  refine qm_Ru.go 2 (c' := (2, [.ref 21, .ref 20, .int al, .int 2, .int le, .float 0, .float 0, .float 0, .float 0], [.int 2, .ref 21], h)) rfl ?_
  refine hk_aal rfl (hH.1 21 (4, 6) rfl) (by decide) (by decide) (hH.2 21 2 (some 24) rfl) ?_
  refine qm_Ru.go 3 (c' := (8, [.ref 21, .ref 20, .int al, .int 2, .int le, .ref 24, .float 0, .float 0, .float 0], [.int al, .ref 24], h)) rfl ?_
  refine qm_Ru.call (j := 171) (as := [.ref 24, .int al]) (c' := (11, [.ref 21, .ref 20, .int al, .int 2, .int le, .ref 24, .float 0, .float 0, .float 0], [], h)) rfl rfl rfl (hs_srv_24 (h := h) h6 hH hB (al := al) (by omega) ht (fun I1 J2 hB_I1 e_I1 tw_I1 => ?_))
  refine qm_Ru.go 2 (c' := (15, [.ref 21, .ref 20, .int al, .int 2, .int le, .ref 24, .float 0, .float 0, .float 0], [.int 20, .ref 24], (h.1, I1, J2, h.2.2.2))) rfl ?_
  obtain ⟨v3, q_v3⟩ : ∃ v, I1 24 20 = v := ⟨_, rfl⟩
  have b_v3 : (0 : Int) ≤ v3.toInt ∧ v3.toInt ≤ 12 := by rw [← q_v3]; exact hB_I1 24 20
  refine hk_ial (v := v3) rfl (hH.1 24 (0, 21) rfl) (by decide) (by decide) q_v3 ?_
  refine qm_Ru.go 1 (c' := (17, [.ref 21, .ref 20, .int al, .int 2, .int le, .ref 24, .float 0, .float 0, .float 0], [.int al, .int v3], (h.1, I1, J2, h.2.2.2))) rfl ?_
  refine hk_clt (ix := v3.toInt) (iy := al.toInt) rfl rfl rfl (fun z4 => ?_) (fun z4 => ?_)
  · refine qm_Ru.go 4 (c' := (29, [.ref 21, .ref 20, .int al, .int 2, .int le, .ref 24, .float 0, .float 0, .float 0], [.ref 24], (h.1, I1, J2, h.2.2.2))) rfl ?_
    refine qm_Ru.call (j := 172) (as := [.ref 24]) (c' := (32, [.ref 21, .ref 20, .int al, .int 2, .int le, .ref 24, .float 0, .float 0, .float 0], [], (h.1, I1, J2, h.2.2.2))) rfl rfl rfl (hs_blk_24 (h := (h.1, I1, J2, h.2.2.2)) h6 hH hB_I1 tw_I1 (fun v7 I5 J6 b_v7 _ e_I5 => ?_))
    have e_I5 : I1 = I5 := funext fun o => funext fun i => (e_I5 o rfl i).symm
    subst e_I5
    refine qm_Ru.go 1 (c' := (34, [.ref 21, .ref 20, .int al, .int 2, .int le, .ref 24, .float 0, .float 0, .float 0], [.int le, .int v7], (h.1, I1, J6, h.2.2.2))) rfl ?_
    refine hk_cle (ix := v7.toInt) (iy := le.toInt) rfl rfl rfl (fun z8 => ?_) (fun z8 => ?_)
    · refine qm_Ru.go 2 (c' := (42, [.ref 21, .ref 20, .int al, .int 2, .int le, .ref 24, .int 0, .float 0, .float 0], [], (h.1, I1, J6, h.2.2.2))) rfl ?_
      exact hl_all_2 (h := (h.1, I1, J6, h.2.2.2)) h6 hH hB_I1 b_al b_le tw_I1 (fun v I J bv hBI e => k v I J bv hBI (fun o ho i => (e o (hk_ms rfl ho) i).trans (e_I1 o (hk_ms rfl ho) i))) _ I1 (J6) 0 _ _ hB_I1 (fun _ _ _ => rfl) (by decide) rfl
    · refine qm_Ru.go 1 (c' := (38, [.ref 21, .ref 20, .int al, .int 2, .int le, .ref 24, .float 0, .float 0, .float 0], [.int 0], (h.1, I1, J6, h.2.2.2))) rfl ?_
      refine qm_Ru.rt (v := (some (.int 0))) (h' := (h.1, I1, J6, h.2.2.2)) rfl ?_
      exact k 0 (I1) (J6) (by decide) hB_I1 (fun o ho i => e_I1 o (hk_ms rfl ho) i)
  · refine qm_Ru.go 1 (c' := (21, [.ref 21, .ref 20, .int al, .int 2, .int le, .ref 24, .float 0, .float 0, .float 0], [.int 1], (h.1, I1, J2, h.2.2.2))) rfl ?_
    refine qm_Ru.rt (v := (some (.int 1))) (h' := (h.1, I1, J2, h.2.2.2)) rfl ?_
    exact k 1 (I1) (J2) (by decide) hB_I1 (fun o ho i => e_I1 o (hk_ms rfl ho) i)
theorem hl_all_1 {L : Nat} {xs : Nat → Int32} {d : Nat} {Z : Option Value → qm_H → Prop} {h : qm_H} (h6 : 6 ≤ L) (hH : hk_H h) (hB : hk_B h.2.1) {al le : Int32} (b_al : (0 : Int) ≤ al.toInt ∧ al.toInt ≤ 12) (b_le : (-1 : Int) ≤ le.toInt ∧ le.toInt ≤ 5) (ht : tw (pI h.2.1 23)) (k : ∀ (v : Int32) (I : Nat → Nat → Int32) (J : Nat → Nat → Int64), (0 : Int) ≤ v.toInt ∧ v.toInt ≤ 1 → hk_B I → (∀ o, [20, 24, 25, 26, 27].contains o = false → ∀ i, I o i = h.2.1 o i) → Z (some (.int v)) (h.1, I, J, h.2.2.2)) : ∀ (m : Nat) (I : Nat → Nat → Int32) (J : Nat → Nat → Int64) (w : Int32) (l7 l8 : Value), hk_B I → (∀ o, [20, 24, 25, 26, 27].contains o = false → ∀ i, I o i = h.2.1 o i) → ((0 : Int) ≤ w.toInt ∧ w.toInt ≤ 16) → (16 - w.toInt).toNat = m → qm_Ru (some (L, xs)) (d + 160) cd_170 (42, [.ref 21, .ref 20, .int al, .int 1, .int le, .ref 23, .int w, l7, l8], [], (h.1, I, J, h.2.2.2)) Z := by
  intro m
  induction m using Nat.strongRecOn with
  | ind m ih =>
    intro I J w l7 l8 hBI e h_w hm
    refine qm_Ru.go 2 (c' := (46, [.ref 21, .ref 20, .int al, .int 1, .int le, .ref 23, .int w, l7, l8], [.int 16, .int w], (h.1, I, J, h.2.2.2))) rfl ?_
    refine hk_cge (ix := w.toInt) (iy := 16) rfl rfl rfl (fun z1 => ?_) (fun z1 => ?_)
    · refine qm_Ru.go 1 (c' := (156, [.ref 21, .ref 20, .int al, .int 1, .int le, .ref 23, .int w, l7, l8], [.int 0], (h.1, I, J, h.2.2.2))) rfl ?_
      refine qm_Ru.rt (v := (some (.int 0))) (h' := (h.1, I, J, h.2.2.2)) rfl ?_
      exact k 0 (I) (J) (by decide) hBI (fun o ho i => (e o ho i))
    · refine qm_Ru.go 3 (c' := (53, [.ref 21, .ref 20, .int al, .int 1, .int le, .ref 23, .int w, l7, l8], [.int (w / 4)], (h.1, I, J, h.2.2.2))) rfl ?_
      obtain ⟨v2, q_v2, e_v2⟩ := hk_div (x := w) (y := 4) (a := w.toInt) (b := 4) rfl rfl (by omega) (by omega)
      rw [q_v2]
      refine qm_Ru.go 4 (c' := (59, [.ref 21, .ref 20, .int al, .int 1, .int le, .ref 23, .int w, .int v2, l8], [.int (w - w / 4 * 4)], (h.1, I, J, h.2.2.2))) rfl ?_
      obtain ⟨v3, q_v3, e_v3⟩ := hk_rem (x := w) (y := 4) (a := w.toInt) (b := 4) rfl rfl (by omega) (by omega)
      rw [q_v3]
      refine qm_Ru.go 3 (c' := (65, [.ref 21, .ref 20, .int al, .int 1, .int le, .ref 23, .int w, .int v2, .int v3], [.int v3, .int v2], (h.1, I, J, h.2.2.2))) rfl ?_
      refine hk_ceq (ix := v2.toInt) (iy := v3.toInt) rfl rfl rfl (fun z4 => ?_) (fun z4 => ?_)
      · refine qm_Ru.go 1 (c' := (152, [.ref 21, .ref 20, .int al, .int 1, .int le, .ref 23, .int (w + 1), .int v2, .int v3], [], (h.1, I, J, h.2.2.2))) rfl ?_
        obtain ⟨v5, q_v5, e_v5⟩ := hk_add (x := w) (y := 1) (a := w.toInt) (b := 1) rfl rfl (by omega) (by omega)
        rw [q_v5]
        refine qm_Ru.go 1 (c' := (42, [.ref 21, .ref 20, .int al, .int 1, .int le, .ref 23, .int v5, .int v2, .int v3], [], (h.1, I, J, h.2.2.2))) rfl ?_
        exact ih _ (by omega) (I) (J) v5 (.int v2) (.int v3) hBI (fun o ho i => (e o ho i)) (by omega) rfl
      · refine qm_Ru.go 4 (c' := (75, [.ref 21, .ref 20, .int al, .int 1, .int le, .ref 23, .int w, .int v2, .int v3], [.int (16 + v2), .ref 23], (h.1, I, J, h.2.2.2))) rfl ?_
        obtain ⟨v6, q_v6, e_v6⟩ := hk_add (x := 16) (y := v2) (a := 16) (b := v2.toInt) rfl rfl (by omega) (by omega)
        rw [q_v6]
        obtain ⟨v7, q_v7⟩ : ∃ v, h.2.1 23 (v6.toInt.toNat) = v := ⟨_, rfl⟩
        have b_v7 : (0 : Int) ≤ v7.toInt ∧ v7.toInt ≤ 12 := by rw [← q_v7]; exact hB 23 (v6.toInt.toNat)
        refine hk_ial (v := v7) rfl (hH.1 23 (0, 21) rfl) (by omega) (by omega) (show (I) 23 (v6.toInt.toNat) = _ from ((e 23 rfl (v6.toInt.toNat)).trans q_v7)) ?_
        refine qm_Ru.go 0 (c' := (76, [.ref 21, .ref 20, .int al, .int 1, .int le, .ref 23, .int w, .int v2, .int v3], [.int v7], (h.1, I, J, h.2.2.2))) rfl ?_
        have r_v7 : (0 : Int) ≤ v7.toInt ∧ v7.toInt ≤ 4 := by rw [← q_v7, show v6.toInt.toNat = 16 + v2.toInt.toNat from by omega]; exact ht _ (by omega)
        have l_v7 : (pI h.2.1 23) (16 + v2.toInt.toNat) = v7.toInt := (congrArg (pI h.2.1 23) (show 16 + v2.toInt.toNat = v6.toInt.toNat from by omega)).trans (congrArg Int32.toInt q_v7)
        refine hk_zeq (ix := v7.toInt) rfl rfl (fun z8 => ?_) (fun z8 => ?_)
        · refine qm_Ru.go 1 (c' := (152, [.ref 21, .ref 20, .int al, .int 1, .int le, .ref 23, .int (w + 1), .int v2, .int v3], [], (h.1, I, J, h.2.2.2))) rfl ?_
          obtain ⟨v9, q_v9, e_v9⟩ := hk_add (x := w) (y := 1) (a := w.toInt) (b := 1) rfl rfl (by omega) (by omega)
          rw [q_v9]
          refine qm_Ru.go 1 (c' := (42, [.ref 21, .ref 20, .int al, .int 1, .int le, .ref 23, .int v9, .int v2, .int v3], [], (h.1, I, J, h.2.2.2))) rfl ?_
          exact ih _ (by omega) (I) (J) v9 (.int v2) (.int v3) hBI (fun o ho i => (e o ho i)) (by omega) rfl
        · refine qm_Ru.go 4 (c' := (86, [.ref 21, .ref 20, .int al, .int 1, .int le, .ref 23, .int w, .int v2, .int v3], [.int (16 + v3), .ref 23], (h.1, I, J, h.2.2.2))) rfl ?_
          obtain ⟨v10, q_v10, e_v10⟩ := hk_add (x := 16) (y := v3) (a := 16) (b := v3.toInt) rfl rfl (by omega) (by omega)
          rw [q_v10]
          obtain ⟨v11, q_v11⟩ : ∃ v, h.2.1 23 (v10.toInt.toNat) = v := ⟨_, rfl⟩
          have b_v11 : (0 : Int) ≤ v11.toInt ∧ v11.toInt ≤ 12 := by rw [← q_v11]; exact hB 23 (v10.toInt.toNat)
          refine hk_ial (v := v11) rfl (hH.1 23 (0, 21) rfl) (by omega) (by omega) (show (I) 23 (v10.toInt.toNat) = _ from ((e 23 rfl (v10.toInt.toNat)).trans q_v11)) ?_
          refine qm_Ru.go 0 (c' := (87, [.ref 21, .ref 20, .int al, .int 1, .int le, .ref 23, .int w, .int v2, .int v3], [.int v11], (h.1, I, J, h.2.2.2))) rfl ?_
          have r_v11 : (0 : Int) ≤ v11.toInt ∧ v11.toInt ≤ 4 := by rw [← q_v11, show v10.toInt.toNat = 16 + v3.toInt.toNat from by omega]; exact ht _ (by omega)
          have l_v11 : (pI h.2.1 23) (16 + v3.toInt.toNat) = v11.toInt := (congrArg (pI h.2.1 23) (show 16 + v3.toInt.toNat = v10.toInt.toNat from by omega)).trans (congrArg Int32.toInt q_v11)
          refine qm_Ru.go 1 (c' := (88, [.ref 21, .ref 20, .int al, .int 1, .int le, .ref 23, .int w, .int v2, .int v3], [.int 4, .int v11], (h.1, I, J, h.2.2.2))) rfl ?_
          refine hk_cne (ix := v11.toInt) (iy := 4) rfl rfl rfl (fun z12 => ?_) (fun z12 => ?_)
          · refine qm_Ru.go 6 (c' := (101, [.ref 21, .ref 20, .int al, .int 1, .int le, .ref 23, .int w, .int v2, .int v3], [.int 2, .ref 21, .int 0, .ref 23], (h.1, I, J, h.2.2.2))) rfl ?_
            refine hk_aal rfl (hH.1 21 (4, 6) rfl) (by decide) (by decide) (hH.2 21 2 (some 24) rfl) ?_
            refine qm_Ru.go 2 (c' := (105, [.ref 21, .ref 20, .int al, .int 1, .int le, .ref 23, .int w, .int v2, .int v3], [.int 21, .int 0, .ref 24, .int 0, .ref 23], (h.1, I, J, h.2.2.2))) rfl ?_
            refine hk_acp rfl (hH.1 23 (0, 21) rfl) (hH.1 24 (0, 21) rfl) rfl ?_
            refine qm_Ru.go 0 (c' := (108, [.ref 21, .ref 20, .int al, .int 1, .int le, .ref 23, .int w, .int v2, .int v3], [], (h.1, qm_cp (I) 23 0 24 0 21, J, h.2.2.2))) rfl ?_
            obtain ⟨I13, d_I13⟩ : ∃ J, qm_cp (I) 23 0 24 0 21 = J := ⟨_, rfl⟩
            rw [d_I13]
            have hB_I13 : hk_B I13 := by rw [← d_I13]; exact cp_B hBI (fun i hi => ⟨(hBI 23 _).1, Int.le_trans (hBI 23 _).2 (show (12 : Int) ≤ 12 from by decide)⟩)
            have e_I13 : ∀ o, [24].contains o = false → ∀ i, I13 o i = (I) o i := fun o ho i => by rw [← d_I13]; exact cp_ot (fun c => by subst c; cases ho)
            have ci_I13 : ∀ i : Nat, i < 21 → I13 24 (0 + i) = (I) 23 (0 + i) := fun i hi => by rw [← d_I13]; exact cp_in hi
            refine qm_Ru.go 4 (c' := (112, [.ref 21, .ref 20, .int al, .int 1, .int le, .ref 23, .int w, .int v2, .int v3], [.int 2, .ref 21], (h.1, I13, J, h.2.2.2))) rfl ?_
            refine hk_aal rfl (hH.1 21 (4, 6) rfl) (by decide) (by decide) (hH.2 21 2 (some 24) rfl) ?_
            refine qm_Ru.go 2 (c' := (117, [.ref 21, .ref 20, .int al, .int 1, .int le, .ref 23, .int w, .int v2, .int v3], [.int v3, .int v2, .ref 24], (h.1, I13, J, h.2.2.2))) rfl ?_
            have cj_I14 : ∀ i : Nat, i < 21 → pI (I13) 24 i = pI h.2.1 23 i := fun i hi => by have g := ci_I13 i hi; rw [Nat.zero_add] at g; exact (congrArg Int32.toInt g).trans (congrArg Int32.toInt (e 23 rfl i))
            have tj_I14 : tw (pI (I13) 24) := fun s hs => by rw [cj_I14 (16 + s) (by omega)]; exact ht s hs
            have ea_I14 := (cj_I14 (16 + v2.toInt.toNat) (by omega)).trans l_v7
            have eb_I14 := (cj_I14 (16 + v3.toInt.toNat) (by omega)).trans l_v11
            refine qm_Ru.call (j := 166) (as := [.ref 24, .int v2, .int v3]) (c' := (120, [.ref 21, .ref 20, .int al, .int 1, .int le, .ref 23, .int w, .int v2, .int v3], [], (h.1, I13, J, h.2.2.2))) rfl rfl rfl (hs_mv_24 (h := (h.1, I13, J, h.2.2.2)) hH hB_I13 (a := v2) (t := v3) (by omega) (by omega) (by omega) ea_I14 eb_I14 (by omega) (by omega) (by omega) (by omega) (fun I14 hB_I14 e_I14 d_I14 => ?_))
            have tw_I14 : tw (pI I14 24) := by rw [d_I14]; exact (lev_dig (qd := fun _ => 0) (sv := 0) (qn := 0) ⟨tj_I14, fun q h1 h2 => absurd h2 (by omega)⟩ (by omega) (by omega) (by omega) ea_I14 eb_I14 (by omega) (by omega) rfl).1
            refine qm_Ru.go 5 (c' := (127, [.ref 21, .ref 20, .int al, .int 1, .int le, .ref 23, .int w, .int v2, .int v3], [.int (10 * v2), .int 1, .ref 20], (h.1, I14, J, h.2.2.2))) rfl ?_
            obtain ⟨v15, q_v15, e_v15⟩ := hk_mul (x := 10) (y := v2) (a := 10) (b := v2.toInt) rfl rfl (by omega) (by omega)
            rw [q_v15]
            refine qm_Ru.go 2 (c' := (130, [.ref 21, .ref 20, .int al, .int 1, .int le, .ref 23, .int w, .int v2, .int v3], [.int (v15 + v3), .int 1, .ref 20], (h.1, I14, J, h.2.2.2))) rfl ?_
            obtain ⟨v16, q_v16, e_v16⟩ := hk_add (x := v15) (y := v3) (a := v15.toInt) (b := v3.toInt) rfl rfl (by omega) (by omega)
            rw [q_v16]
            refine hk_ias rfl (hH.1 20 (0, 5) rfl) (by decide) (by decide) ?_
            refine qm_Ru.go 9 (c' := (141, [.ref 21, .ref 20, .int al, .int 1, .int le, .ref 23, .int w, .int v2, .int v3], [.int (le - 1), .int 2, .int al, .ref 20, .ref 21], (h.1, qm_up I14 20 1 v16, J, h.2.2.2))) rfl ?_
            obtain ⟨v17, q_v17, e_v17⟩ := hk_sub (x := le) (y := 1) (a := le.toInt) (b := 1) rfl rfl (by omega) (by omega)
            rw [q_v17]
            refine qm_Ru.call (j := 170) (as := [.ref 21, .ref 20, .int al, .int 2, .int v17]) (c' := (144, [.ref 21, .ref 20, .int al, .int 1, .int le, .ref 23, .int w, .int v2, .int v3], [], (h.1, qm_up I14 20 1 v16, J, h.2.2.2))) rfl rfl rfl (hs_all_2 (h := (h.1, qm_up I14 20 1 v16, J, h.2.2.2)) h6 hH (hb_up (o := 20) (k := 1) (x := v16) hB_I14 (qa_in_full _)) (al := al) (le := v17) (by omega) (by omega) (by show tw (pI (qm_up I14 20 1 v16) 24); rw [pI_sk rfl]; exact tw_I14) (fun v20 I18 J19 b_v20 hB_I18 e_I18 => ?_))
            have e_I18 : ∀ o, [20, 24, 25, 26, 27].contains o = false → ∀ i, I18 o i = (qm_up I14 20 1 v16) o i := e_I18
            refine qm_Ru.go 0 (c' := (144, [.ref 21, .ref 20, .int al, .int 1, .int le, .ref 23, .int w, .int v2, .int v3], [.int v20], (h.1, I18, J19, h.2.2.2))) rfl ?_
            refine hk_zeq (ix := v20.toInt) rfl rfl (fun z21 => ?_) (fun z21 => ?_)
            · refine qm_Ru.go 1 (c' := (152, [.ref 21, .ref 20, .int al, .int 1, .int le, .ref 23, .int (w + 1), .int v2, .int v3], [], (h.1, I18, J19, h.2.2.2))) rfl ?_
              obtain ⟨v22, q_v22, e_v22⟩ := hk_add (x := w) (y := 1) (a := w.toInt) (b := 1) rfl rfl (by omega) (by omega)
              rw [q_v22]
              refine qm_Ru.go 1 (c' := (42, [.ref 21, .ref 20, .int al, .int 1, .int le, .ref 23, .int v22, .int v2, .int v3], [], (h.1, I18, J19, h.2.2.2))) rfl ?_
              exact ih _ (by omega) (I18) (J19) v22 (.int v2) (.int v3) hB_I18 (fun o ho i => ((e_I18 o (hk_ms rfl ho) i).trans ((hk_mod ho rfl).trans ((e_I14 o (hk_ms rfl ho) i).trans ((e_I13 o (hk_ms rfl ho) i).trans (e o ho i)))))) (by omega) rfl
            · refine qm_Ru.go 1 (c' := (148, [.ref 21, .ref 20, .int al, .int 1, .int le, .ref 23, .int w, .int v2, .int v3], [.int 1], (h.1, I18, J19, h.2.2.2))) rfl ?_
              refine qm_Ru.rt (v := (some (.int 1))) (h' := (h.1, I18, J19, h.2.2.2)) rfl ?_
              exact k 1 (I18) (J19) (by decide) hB_I18 (fun o ho i => ((e_I18 o (hk_ms rfl ho) i).trans ((hk_mod ho rfl).trans ((e_I14 o (hk_ms rfl ho) i).trans ((e_I13 o (hk_ms rfl ho) i).trans (e o ho i))))))
          · refine qm_Ru.go 2 (c' := (152, [.ref 21, .ref 20, .int al, .int 1, .int le, .ref 23, .int (w + 1), .int v2, .int v3], [], (h.1, I, J, h.2.2.2))) rfl ?_
            obtain ⟨v23, q_v23, e_v23⟩ := hk_add (x := w) (y := 1) (a := w.toInt) (b := 1) rfl rfl (by omega) (by omega)
            rw [q_v23]
            refine qm_Ru.go 1 (c' := (42, [.ref 21, .ref 20, .int al, .int 1, .int le, .ref 23, .int v23, .int v2, .int v3], [], (h.1, I, J, h.2.2.2))) rfl ?_
            exact ih _ (by omega) (I) (J) v23 (.int v2) (.int v3) hBI (fun o ho i => (e o ho i)) (by omega) rfl
theorem hs_all_1 {L : Nat} {xs : Nat → Int32} {d : Nat} {Z : Option Value → qm_H → Prop} {h : qm_H} (h6 : 6 ≤ L) (hH : hk_H h) (hB : hk_B h.2.1) {al le : Int32} (b_al : (0 : Int) ≤ al.toInt ∧ al.toInt ≤ 12) (b_le : (-1 : Int) ≤ le.toInt ∧ le.toInt ≤ 5) (ht : tw (pI h.2.1 23)) (k : ∀ (v : Int32) (I : Nat → Nat → Int32) (J : Nat → Nat → Int64), (0 : Int) ≤ v.toInt ∧ v.toInt ≤ 1 → hk_B I → (∀ o, [20, 23, 24, 25, 26, 27].contains o = false → ∀ i, I o i = h.2.1 o i) → Z (some (.int v)) (h.1, I, J, h.2.2.2)) : qm_Ru (some (L, xs)) (d + 160) cd_170 (qm_ent 9 [.ref 21, .ref 20, .int al, .int 1, .int le] h) Z := by
  refine qm_Ru.go 2 (c' := (2, [.ref 21, .ref 20, .int al, .int 1, .int le, .float 0, .float 0, .float 0, .float 0], [.int 1, .ref 21], h)) rfl ?_
  refine hk_aal rfl (hH.1 21 (4, 6) rfl) (by decide) (by decide) (hH.2 21 1 (some 23) rfl) ?_
  refine qm_Ru.go 3 (c' := (8, [.ref 21, .ref 20, .int al, .int 1, .int le, .ref 23, .float 0, .float 0, .float 0], [.int al, .ref 23], h)) rfl ?_
  refine qm_Ru.call (j := 171) (as := [.ref 23, .int al]) (c' := (11, [.ref 21, .ref 20, .int al, .int 1, .int le, .ref 23, .float 0, .float 0, .float 0], [], h)) rfl rfl rfl (hs_srv_23 (h := h) h6 hH hB (al := al) (by omega) ht (fun I1 J2 hB_I1 e_I1 tw_I1 => ?_))
  refine qm_Ru.go 2 (c' := (15, [.ref 21, .ref 20, .int al, .int 1, .int le, .ref 23, .float 0, .float 0, .float 0], [.int 20, .ref 23], (h.1, I1, J2, h.2.2.2))) rfl ?_
  obtain ⟨v3, q_v3⟩ : ∃ v, I1 23 20 = v := ⟨_, rfl⟩
  have b_v3 : (0 : Int) ≤ v3.toInt ∧ v3.toInt ≤ 12 := by rw [← q_v3]; exact hB_I1 23 20
  refine hk_ial (v := v3) rfl (hH.1 23 (0, 21) rfl) (by decide) (by decide) q_v3 ?_
  refine qm_Ru.go 1 (c' := (17, [.ref 21, .ref 20, .int al, .int 1, .int le, .ref 23, .float 0, .float 0, .float 0], [.int al, .int v3], (h.1, I1, J2, h.2.2.2))) rfl ?_
  refine hk_clt (ix := v3.toInt) (iy := al.toInt) rfl rfl rfl (fun z4 => ?_) (fun z4 => ?_)
  · refine qm_Ru.go 4 (c' := (29, [.ref 21, .ref 20, .int al, .int 1, .int le, .ref 23, .float 0, .float 0, .float 0], [.ref 23], (h.1, I1, J2, h.2.2.2))) rfl ?_
    refine qm_Ru.call (j := 172) (as := [.ref 23]) (c' := (32, [.ref 21, .ref 20, .int al, .int 1, .int le, .ref 23, .float 0, .float 0, .float 0], [], (h.1, I1, J2, h.2.2.2))) rfl rfl rfl (hs_blk_23 (h := (h.1, I1, J2, h.2.2.2)) h6 hH hB_I1 tw_I1 (fun v7 I5 J6 b_v7 _ e_I5 => ?_))
    have e_I5 : I1 = I5 := funext fun o => funext fun i => (e_I5 o rfl i).symm
    subst e_I5
    refine qm_Ru.go 1 (c' := (34, [.ref 21, .ref 20, .int al, .int 1, .int le, .ref 23, .float 0, .float 0, .float 0], [.int le, .int v7], (h.1, I1, J6, h.2.2.2))) rfl ?_
    refine hk_cle (ix := v7.toInt) (iy := le.toInt) rfl rfl rfl (fun z8 => ?_) (fun z8 => ?_)
    · refine qm_Ru.go 2 (c' := (42, [.ref 21, .ref 20, .int al, .int 1, .int le, .ref 23, .int 0, .float 0, .float 0], [], (h.1, I1, J6, h.2.2.2))) rfl ?_
      exact hl_all_1 (h := (h.1, I1, J6, h.2.2.2)) h6 hH hB_I1 b_al b_le tw_I1 (fun v I J bv hBI e => k v I J bv hBI (fun o ho i => (e o (hk_ms rfl ho) i).trans (e_I1 o (hk_ms rfl ho) i))) _ I1 (J6) 0 _ _ hB_I1 (fun _ _ _ => rfl) (by decide) rfl
    · refine qm_Ru.go 1 (c' := (38, [.ref 21, .ref 20, .int al, .int 1, .int le, .ref 23, .float 0, .float 0, .float 0], [.int 0], (h.1, I1, J6, h.2.2.2))) rfl ?_
      refine qm_Ru.rt (v := (some (.int 0))) (h' := (h.1, I1, J6, h.2.2.2)) rfl ?_
      exact k 0 (I1) (J6) (by decide) hB_I1 (fun o ho i => e_I1 o (hk_ms rfl ho) i)
  · refine qm_Ru.go 1 (c' := (21, [.ref 21, .ref 20, .int al, .int 1, .int le, .ref 23, .float 0, .float 0, .float 0], [.int 1], (h.1, I1, J2, h.2.2.2))) rfl ?_
    refine qm_Ru.rt (v := (some (.int 1))) (h' := (h.1, I1, J2, h.2.2.2)) rfl ?_
    exact k 1 (I1) (J2) (by decide) hB_I1 (fun o ho i => e_I1 o (hk_ms rfl ho) i)
theorem hl_all_0 {L : Nat} {xs : Nat → Int32} {d : Nat} {Z : Option Value → qm_H → Prop} {h : qm_H} (h6 : 6 ≤ L) (hH : hk_H h) (hB : hk_B h.2.1) {al le : Int32} (b_al : (0 : Int) ≤ al.toInt ∧ al.toInt ≤ 12) (b_le : (-0 : Int) ≤ le.toInt ∧ le.toInt ≤ 5) (ht : tw (pI h.2.1 22)) (k : ∀ (v : Int32) (I : Nat → Nat → Int32) (J : Nat → Nat → Int64), (0 : Int) ≤ v.toInt ∧ v.toInt ≤ 1 → hk_B I → (∀ o, [20, 23, 24, 25, 26, 27].contains o = false → ∀ i, I o i = h.2.1 o i) → Z (some (.int v)) (h.1, I, J, h.2.2.2)) : ∀ (m : Nat) (I : Nat → Nat → Int32) (J : Nat → Nat → Int64) (w : Int32) (l7 l8 : Value), hk_B I → (∀ o, [20, 23, 24, 25, 26, 27].contains o = false → ∀ i, I o i = h.2.1 o i) → ((0 : Int) ≤ w.toInt ∧ w.toInt ≤ 16) → (16 - w.toInt).toNat = m → qm_Ru (some (L, xs)) (d + 180) cd_170 (42, [.ref 21, .ref 20, .int al, .int 0, .int le, .ref 22, .int w, l7, l8], [], (h.1, I, J, h.2.2.2)) Z := by
  intro m
  induction m using Nat.strongRecOn with
  | ind m ih =>
    intro I J w l7 l8 hBI e h_w hm
    refine qm_Ru.go 2 (c' := (46, [.ref 21, .ref 20, .int al, .int 0, .int le, .ref 22, .int w, l7, l8], [.int 16, .int w], (h.1, I, J, h.2.2.2))) rfl ?_
    refine hk_cge (ix := w.toInt) (iy := 16) rfl rfl rfl (fun z1 => ?_) (fun z1 => ?_)
    · refine qm_Ru.go 1 (c' := (156, [.ref 21, .ref 20, .int al, .int 0, .int le, .ref 22, .int w, l7, l8], [.int 0], (h.1, I, J, h.2.2.2))) rfl ?_
      refine qm_Ru.rt (v := (some (.int 0))) (h' := (h.1, I, J, h.2.2.2)) rfl ?_
      exact k 0 (I) (J) (by decide) hBI (fun o ho i => (e o ho i))
    · refine qm_Ru.go 3 (c' := (53, [.ref 21, .ref 20, .int al, .int 0, .int le, .ref 22, .int w, l7, l8], [.int (w / 4)], (h.1, I, J, h.2.2.2))) rfl ?_
      obtain ⟨v2, q_v2, e_v2⟩ := hk_div (x := w) (y := 4) (a := w.toInt) (b := 4) rfl rfl (by omega) (by omega)
      rw [q_v2]
      refine qm_Ru.go 4 (c' := (59, [.ref 21, .ref 20, .int al, .int 0, .int le, .ref 22, .int w, .int v2, l8], [.int (w - w / 4 * 4)], (h.1, I, J, h.2.2.2))) rfl ?_
      obtain ⟨v3, q_v3, e_v3⟩ := hk_rem (x := w) (y := 4) (a := w.toInt) (b := 4) rfl rfl (by omega) (by omega)
      rw [q_v3]
      refine qm_Ru.go 3 (c' := (65, [.ref 21, .ref 20, .int al, .int 0, .int le, .ref 22, .int w, .int v2, .int v3], [.int v3, .int v2], (h.1, I, J, h.2.2.2))) rfl ?_
      refine hk_ceq (ix := v2.toInt) (iy := v3.toInt) rfl rfl rfl (fun z4 => ?_) (fun z4 => ?_)
      · refine qm_Ru.go 1 (c' := (152, [.ref 21, .ref 20, .int al, .int 0, .int le, .ref 22, .int (w + 1), .int v2, .int v3], [], (h.1, I, J, h.2.2.2))) rfl ?_
        obtain ⟨v5, q_v5, e_v5⟩ := hk_add (x := w) (y := 1) (a := w.toInt) (b := 1) rfl rfl (by omega) (by omega)
        rw [q_v5]
        refine qm_Ru.go 1 (c' := (42, [.ref 21, .ref 20, .int al, .int 0, .int le, .ref 22, .int v5, .int v2, .int v3], [], (h.1, I, J, h.2.2.2))) rfl ?_
        exact ih _ (by omega) (I) (J) v5 (.int v2) (.int v3) hBI (fun o ho i => (e o ho i)) (by omega) rfl
      · refine qm_Ru.go 4 (c' := (75, [.ref 21, .ref 20, .int al, .int 0, .int le, .ref 22, .int w, .int v2, .int v3], [.int (16 + v2), .ref 22], (h.1, I, J, h.2.2.2))) rfl ?_
        obtain ⟨v6, q_v6, e_v6⟩ := hk_add (x := 16) (y := v2) (a := 16) (b := v2.toInt) rfl rfl (by omega) (by omega)
        rw [q_v6]
        obtain ⟨v7, q_v7⟩ : ∃ v, h.2.1 22 (v6.toInt.toNat) = v := ⟨_, rfl⟩
        have b_v7 : (0 : Int) ≤ v7.toInt ∧ v7.toInt ≤ 12 := by rw [← q_v7]; exact hB 22 (v6.toInt.toNat)
        refine hk_ial (v := v7) rfl (hH.1 22 (0, 21) rfl) (by omega) (by omega) (show (I) 22 (v6.toInt.toNat) = _ from ((e 22 rfl (v6.toInt.toNat)).trans q_v7)) ?_
        refine qm_Ru.go 0 (c' := (76, [.ref 21, .ref 20, .int al, .int 0, .int le, .ref 22, .int w, .int v2, .int v3], [.int v7], (h.1, I, J, h.2.2.2))) rfl ?_
        have r_v7 : (0 : Int) ≤ v7.toInt ∧ v7.toInt ≤ 4 := by rw [← q_v7, show v6.toInt.toNat = 16 + v2.toInt.toNat from by omega]; exact ht _ (by omega)
        have l_v7 : (pI h.2.1 22) (16 + v2.toInt.toNat) = v7.toInt := (congrArg (pI h.2.1 22) (show 16 + v2.toInt.toNat = v6.toInt.toNat from by omega)).trans (congrArg Int32.toInt q_v7)
        refine hk_zeq (ix := v7.toInt) rfl rfl (fun z8 => ?_) (fun z8 => ?_)
        · refine qm_Ru.go 1 (c' := (152, [.ref 21, .ref 20, .int al, .int 0, .int le, .ref 22, .int (w + 1), .int v2, .int v3], [], (h.1, I, J, h.2.2.2))) rfl ?_
          obtain ⟨v9, q_v9, e_v9⟩ := hk_add (x := w) (y := 1) (a := w.toInt) (b := 1) rfl rfl (by omega) (by omega)
          rw [q_v9]
          refine qm_Ru.go 1 (c' := (42, [.ref 21, .ref 20, .int al, .int 0, .int le, .ref 22, .int v9, .int v2, .int v3], [], (h.1, I, J, h.2.2.2))) rfl ?_
          exact ih _ (by omega) (I) (J) v9 (.int v2) (.int v3) hBI (fun o ho i => (e o ho i)) (by omega) rfl
        · refine qm_Ru.go 4 (c' := (86, [.ref 21, .ref 20, .int al, .int 0, .int le, .ref 22, .int w, .int v2, .int v3], [.int (16 + v3), .ref 22], (h.1, I, J, h.2.2.2))) rfl ?_
          obtain ⟨v10, q_v10, e_v10⟩ := hk_add (x := 16) (y := v3) (a := 16) (b := v3.toInt) rfl rfl (by omega) (by omega)
          rw [q_v10]
          obtain ⟨v11, q_v11⟩ : ∃ v, h.2.1 22 (v10.toInt.toNat) = v := ⟨_, rfl⟩
          have b_v11 : (0 : Int) ≤ v11.toInt ∧ v11.toInt ≤ 12 := by rw [← q_v11]; exact hB 22 (v10.toInt.toNat)
          refine hk_ial (v := v11) rfl (hH.1 22 (0, 21) rfl) (by omega) (by omega) (show (I) 22 (v10.toInt.toNat) = _ from ((e 22 rfl (v10.toInt.toNat)).trans q_v11)) ?_
          refine qm_Ru.go 0 (c' := (87, [.ref 21, .ref 20, .int al, .int 0, .int le, .ref 22, .int w, .int v2, .int v3], [.int v11], (h.1, I, J, h.2.2.2))) rfl ?_
          have r_v11 : (0 : Int) ≤ v11.toInt ∧ v11.toInt ≤ 4 := by rw [← q_v11, show v10.toInt.toNat = 16 + v3.toInt.toNat from by omega]; exact ht _ (by omega)
          have l_v11 : (pI h.2.1 22) (16 + v3.toInt.toNat) = v11.toInt := (congrArg (pI h.2.1 22) (show 16 + v3.toInt.toNat = v10.toInt.toNat from by omega)).trans (congrArg Int32.toInt q_v11)
          refine qm_Ru.go 1 (c' := (88, [.ref 21, .ref 20, .int al, .int 0, .int le, .ref 22, .int w, .int v2, .int v3], [.int 4, .int v11], (h.1, I, J, h.2.2.2))) rfl ?_
          refine hk_cne (ix := v11.toInt) (iy := 4) rfl rfl rfl (fun z12 => ?_) (fun z12 => ?_)
          · refine qm_Ru.go 6 (c' := (101, [.ref 21, .ref 20, .int al, .int 0, .int le, .ref 22, .int w, .int v2, .int v3], [.int 1, .ref 21, .int 0, .ref 22], (h.1, I, J, h.2.2.2))) rfl ?_
            refine hk_aal rfl (hH.1 21 (4, 6) rfl) (by decide) (by decide) (hH.2 21 1 (some 23) rfl) ?_
            refine qm_Ru.go 2 (c' := (105, [.ref 21, .ref 20, .int al, .int 0, .int le, .ref 22, .int w, .int v2, .int v3], [.int 21, .int 0, .ref 23, .int 0, .ref 22], (h.1, I, J, h.2.2.2))) rfl ?_
            refine hk_acp rfl (hH.1 22 (0, 21) rfl) (hH.1 23 (0, 21) rfl) rfl ?_
            refine qm_Ru.go 0 (c' := (108, [.ref 21, .ref 20, .int al, .int 0, .int le, .ref 22, .int w, .int v2, .int v3], [], (h.1, qm_cp (I) 22 0 23 0 21, J, h.2.2.2))) rfl ?_
            obtain ⟨I13, d_I13⟩ : ∃ J, qm_cp (I) 22 0 23 0 21 = J := ⟨_, rfl⟩
            rw [d_I13]
            have hB_I13 : hk_B I13 := by rw [← d_I13]; exact cp_B hBI (fun i hi => ⟨(hBI 22 _).1, Int.le_trans (hBI 22 _).2 (show (12 : Int) ≤ 12 from by decide)⟩)
            have e_I13 : ∀ o, [23].contains o = false → ∀ i, I13 o i = (I) o i := fun o ho i => by rw [← d_I13]; exact cp_ot (fun c => by subst c; cases ho)
            have ci_I13 : ∀ i : Nat, i < 21 → I13 23 (0 + i) = (I) 22 (0 + i) := fun i hi => by rw [← d_I13]; exact cp_in hi
            refine qm_Ru.go 4 (c' := (112, [.ref 21, .ref 20, .int al, .int 0, .int le, .ref 22, .int w, .int v2, .int v3], [.int 1, .ref 21], (h.1, I13, J, h.2.2.2))) rfl ?_
            refine hk_aal rfl (hH.1 21 (4, 6) rfl) (by decide) (by decide) (hH.2 21 1 (some 23) rfl) ?_
            refine qm_Ru.go 2 (c' := (117, [.ref 21, .ref 20, .int al, .int 0, .int le, .ref 22, .int w, .int v2, .int v3], [.int v3, .int v2, .ref 23], (h.1, I13, J, h.2.2.2))) rfl ?_
            have cj_I14 : ∀ i : Nat, i < 21 → pI (I13) 23 i = pI h.2.1 22 i := fun i hi => by have g := ci_I13 i hi; rw [Nat.zero_add] at g; exact (congrArg Int32.toInt g).trans (congrArg Int32.toInt (e 22 rfl i))
            have tj_I14 : tw (pI (I13) 23) := fun s hs => by rw [cj_I14 (16 + s) (by omega)]; exact ht s hs
            have ea_I14 := (cj_I14 (16 + v2.toInt.toNat) (by omega)).trans l_v7
            have eb_I14 := (cj_I14 (16 + v3.toInt.toNat) (by omega)).trans l_v11
            refine qm_Ru.call (j := 166) (as := [.ref 23, .int v2, .int v3]) (c' := (120, [.ref 21, .ref 20, .int al, .int 0, .int le, .ref 22, .int w, .int v2, .int v3], [], (h.1, I13, J, h.2.2.2))) rfl rfl rfl (hs_mv_23 (h := (h.1, I13, J, h.2.2.2)) hH hB_I13 (a := v2) (t := v3) (by omega) (by omega) (by omega) ea_I14 eb_I14 (by omega) (by omega) (by omega) (by omega) (fun I14 hB_I14 e_I14 d_I14 => ?_))
            have tw_I14 : tw (pI I14 23) := by rw [d_I14]; exact (lev_dig (qd := fun _ => 0) (sv := 0) (qn := 0) ⟨tj_I14, fun q h1 h2 => absurd h2 (by omega)⟩ (by omega) (by omega) (by omega) ea_I14 eb_I14 (by omega) (by omega) rfl).1
            refine qm_Ru.go 5 (c' := (127, [.ref 21, .ref 20, .int al, .int 0, .int le, .ref 22, .int w, .int v2, .int v3], [.int (10 * v2), .int 0, .ref 20], (h.1, I14, J, h.2.2.2))) rfl ?_
            obtain ⟨v15, q_v15, e_v15⟩ := hk_mul (x := 10) (y := v2) (a := 10) (b := v2.toInt) rfl rfl (by omega) (by omega)
            rw [q_v15]
            refine qm_Ru.go 2 (c' := (130, [.ref 21, .ref 20, .int al, .int 0, .int le, .ref 22, .int w, .int v2, .int v3], [.int (v15 + v3), .int 0, .ref 20], (h.1, I14, J, h.2.2.2))) rfl ?_
            obtain ⟨v16, q_v16, e_v16⟩ := hk_add (x := v15) (y := v3) (a := v15.toInt) (b := v3.toInt) rfl rfl (by omega) (by omega)
            rw [q_v16]
            refine hk_ias rfl (hH.1 20 (0, 5) rfl) (by decide) (by decide) ?_
            refine qm_Ru.go 9 (c' := (141, [.ref 21, .ref 20, .int al, .int 0, .int le, .ref 22, .int w, .int v2, .int v3], [.int (le - 1), .int 1, .int al, .ref 20, .ref 21], (h.1, qm_up I14 20 0 v16, J, h.2.2.2))) rfl ?_
            obtain ⟨v17, q_v17, e_v17⟩ := hk_sub (x := le) (y := 1) (a := le.toInt) (b := 1) rfl rfl (by omega) (by omega)
            rw [q_v17]
            refine qm_Ru.call (j := 170) (as := [.ref 21, .ref 20, .int al, .int 1, .int v17]) (c' := (144, [.ref 21, .ref 20, .int al, .int 0, .int le, .ref 22, .int w, .int v2, .int v3], [], (h.1, qm_up I14 20 0 v16, J, h.2.2.2))) rfl rfl rfl (hs_all_1 (h := (h.1, qm_up I14 20 0 v16, J, h.2.2.2)) h6 hH (hb_up (o := 20) (k := 0) (x := v16) hB_I14 (qa_in_full _)) (al := al) (le := v17) (by omega) (by omega) (by show tw (pI (qm_up I14 20 0 v16) 23); rw [pI_sk rfl]; exact tw_I14) (fun v20 I18 J19 b_v20 hB_I18 e_I18 => ?_))
            have e_I18 : ∀ o, [20, 23, 24, 25, 26, 27].contains o = false → ∀ i, I18 o i = (qm_up I14 20 0 v16) o i := e_I18
            refine qm_Ru.go 0 (c' := (144, [.ref 21, .ref 20, .int al, .int 0, .int le, .ref 22, .int w, .int v2, .int v3], [.int v20], (h.1, I18, J19, h.2.2.2))) rfl ?_
            refine hk_zeq (ix := v20.toInt) rfl rfl (fun z21 => ?_) (fun z21 => ?_)
            · refine qm_Ru.go 1 (c' := (152, [.ref 21, .ref 20, .int al, .int 0, .int le, .ref 22, .int (w + 1), .int v2, .int v3], [], (h.1, I18, J19, h.2.2.2))) rfl ?_
              obtain ⟨v22, q_v22, e_v22⟩ := hk_add (x := w) (y := 1) (a := w.toInt) (b := 1) rfl rfl (by omega) (by omega)
              rw [q_v22]
              refine qm_Ru.go 1 (c' := (42, [.ref 21, .ref 20, .int al, .int 0, .int le, .ref 22, .int v22, .int v2, .int v3], [], (h.1, I18, J19, h.2.2.2))) rfl ?_
              exact ih _ (by omega) (I18) (J19) v22 (.int v2) (.int v3) hB_I18 (fun o ho i => ((e_I18 o (hk_ms rfl ho) i).trans ((hk_mod ho rfl).trans ((e_I14 o (hk_ms rfl ho) i).trans ((e_I13 o (hk_ms rfl ho) i).trans (e o ho i)))))) (by omega) rfl
            · refine qm_Ru.go 1 (c' := (148, [.ref 21, .ref 20, .int al, .int 0, .int le, .ref 22, .int w, .int v2, .int v3], [.int 1], (h.1, I18, J19, h.2.2.2))) rfl ?_
              refine qm_Ru.rt (v := (some (.int 1))) (h' := (h.1, I18, J19, h.2.2.2)) rfl ?_
              exact k 1 (I18) (J19) (by decide) hB_I18 (fun o ho i => ((e_I18 o (hk_ms rfl ho) i).trans ((hk_mod ho rfl).trans ((e_I14 o (hk_ms rfl ho) i).trans ((e_I13 o (hk_ms rfl ho) i).trans (e o ho i))))))
          · refine qm_Ru.go 2 (c' := (152, [.ref 21, .ref 20, .int al, .int 0, .int le, .ref 22, .int (w + 1), .int v2, .int v3], [], (h.1, I, J, h.2.2.2))) rfl ?_
            obtain ⟨v23, q_v23, e_v23⟩ := hk_add (x := w) (y := 1) (a := w.toInt) (b := 1) rfl rfl (by omega) (by omega)
            rw [q_v23]
            refine qm_Ru.go 1 (c' := (42, [.ref 21, .ref 20, .int al, .int 0, .int le, .ref 22, .int v23, .int v2, .int v3], [], (h.1, I, J, h.2.2.2))) rfl ?_
            exact ih _ (by omega) (I) (J) v23 (.int v2) (.int v3) hBI (fun o ho i => (e o ho i)) (by omega) rfl
theorem hs_all_0 {L : Nat} {xs : Nat → Int32} {d : Nat} {Z : Option Value → qm_H → Prop} {h : qm_H} (h6 : 6 ≤ L) (hH : hk_H h) (hB : hk_B h.2.1) {al le : Int32} (b_al : (0 : Int) ≤ al.toInt ∧ al.toInt ≤ 12) (b_le : (-0 : Int) ≤ le.toInt ∧ le.toInt ≤ 5) (ht : tw (pI h.2.1 22)) (k : ∀ (v : Int32) (I : Nat → Nat → Int32) (J : Nat → Nat → Int64), (0 : Int) ≤ v.toInt ∧ v.toInt ≤ 1 → hk_B I → (∀ o, [20, 22, 23, 24, 25, 26, 27].contains o = false → ∀ i, I o i = h.2.1 o i) → Z (some (.int v)) (h.1, I, J, h.2.2.2)) : qm_Ru (some (L, xs)) (d + 180) cd_170 (qm_ent 9 [.ref 21, .ref 20, .int al, .int 0, .int le] h) Z := by
  refine qm_Ru.go 2 (c' := (2, [.ref 21, .ref 20, .int al, .int 0, .int le, .float 0, .float 0, .float 0, .float 0], [.int 0, .ref 21], h)) rfl ?_
  refine hk_aal rfl (hH.1 21 (4, 6) rfl) (by decide) (by decide) (hH.2 21 0 (some 22) rfl) ?_
  refine qm_Ru.go 3 (c' := (8, [.ref 21, .ref 20, .int al, .int 0, .int le, .ref 22, .float 0, .float 0, .float 0], [.int al, .ref 22], h)) rfl ?_
  refine qm_Ru.call (j := 171) (as := [.ref 22, .int al]) (c' := (11, [.ref 21, .ref 20, .int al, .int 0, .int le, .ref 22, .float 0, .float 0, .float 0], [], h)) rfl rfl rfl (hs_srv_22 (h := h) h6 hH hB (al := al) (by omega) ht (fun I1 J2 hB_I1 e_I1 tw_I1 => ?_))
  refine qm_Ru.go 2 (c' := (15, [.ref 21, .ref 20, .int al, .int 0, .int le, .ref 22, .float 0, .float 0, .float 0], [.int 20, .ref 22], (h.1, I1, J2, h.2.2.2))) rfl ?_
  obtain ⟨v3, q_v3⟩ : ∃ v, I1 22 20 = v := ⟨_, rfl⟩
  have b_v3 : (0 : Int) ≤ v3.toInt ∧ v3.toInt ≤ 12 := by rw [← q_v3]; exact hB_I1 22 20
  refine hk_ial (v := v3) rfl (hH.1 22 (0, 21) rfl) (by decide) (by decide) q_v3 ?_
  refine qm_Ru.go 1 (c' := (17, [.ref 21, .ref 20, .int al, .int 0, .int le, .ref 22, .float 0, .float 0, .float 0], [.int al, .int v3], (h.1, I1, J2, h.2.2.2))) rfl ?_
  refine hk_clt (ix := v3.toInt) (iy := al.toInt) rfl rfl rfl (fun z4 => ?_) (fun z4 => ?_)
  · refine qm_Ru.go 4 (c' := (29, [.ref 21, .ref 20, .int al, .int 0, .int le, .ref 22, .float 0, .float 0, .float 0], [.ref 22], (h.1, I1, J2, h.2.2.2))) rfl ?_
    refine qm_Ru.call (j := 172) (as := [.ref 22]) (c' := (32, [.ref 21, .ref 20, .int al, .int 0, .int le, .ref 22, .float 0, .float 0, .float 0], [], (h.1, I1, J2, h.2.2.2))) rfl rfl rfl (hs_blk_22 (h := (h.1, I1, J2, h.2.2.2)) h6 hH hB_I1 tw_I1 (fun v7 I5 J6 b_v7 _ e_I5 => ?_))
    have e_I5 : I1 = I5 := funext fun o => funext fun i => (e_I5 o rfl i).symm
    subst e_I5
    refine qm_Ru.go 1 (c' := (34, [.ref 21, .ref 20, .int al, .int 0, .int le, .ref 22, .float 0, .float 0, .float 0], [.int le, .int v7], (h.1, I1, J6, h.2.2.2))) rfl ?_
    refine hk_cle (ix := v7.toInt) (iy := le.toInt) rfl rfl rfl (fun z8 => ?_) (fun z8 => ?_)
    · refine qm_Ru.go 2 (c' := (42, [.ref 21, .ref 20, .int al, .int 0, .int le, .ref 22, .int 0, .float 0, .float 0], [], (h.1, I1, J6, h.2.2.2))) rfl ?_
      exact hl_all_0 (h := (h.1, I1, J6, h.2.2.2)) h6 hH hB_I1 b_al b_le tw_I1 (fun v I J bv hBI e => k v I J bv hBI (fun o ho i => (e o (hk_ms rfl ho) i).trans (e_I1 o (hk_ms rfl ho) i))) _ I1 (J6) 0 _ _ hB_I1 (fun _ _ _ => rfl) (by decide) rfl
    · refine qm_Ru.go 1 (c' := (38, [.ref 21, .ref 20, .int al, .int 0, .int le, .ref 22, .float 0, .float 0, .float 0], [.int 0], (h.1, I1, J6, h.2.2.2))) rfl ?_
      refine qm_Ru.rt (v := (some (.int 0))) (h' := (h.1, I1, J6, h.2.2.2)) rfl ?_
      exact k 0 (I1) (J6) (by decide) hB_I1 (fun o ho i => e_I1 o (hk_ms rfl ho) i)
  · refine qm_Ru.go 1 (c' := (21, [.ref 21, .ref 20, .int al, .int 0, .int le, .ref 22, .float 0, .float 0, .float 0], [.int 1], (h.1, I1, J2, h.2.2.2))) rfl ?_
    refine qm_Ru.rt (v := (some (.int 1))) (h' := (h.1, I1, J2, h.2.2.2)) rfl ?_
    exact k 1 (I1) (J2) (by decide) hB_I1 (fun o ho i => e_I1 o (hk_ms rfl ho) i)
