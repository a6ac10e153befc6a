/-! contracts of the reference by hand -/
theorem hl_serves {L : Nat} {xs : Nat → Int32} {d : Nat} {Z : Option Value → qm_H → Prop} {h : qm_H} (h6 : 6 ≤ L) (hH : hk_H h) (hB : hk_B h.2.1) {dd : Int32} (b_dd : (0 : Int) ≤ dd.toInt ∧ dd.toInt ≤ 5) (hd : qdis (pI h.2.1 159) (h.2.1 118 61).toInt) (k : ∀ (I : Nat → Nat → Int32) (J : Nat → Nat → Int64), hk_B I → (∀ o, [161, 162].contains o = false → ∀ i, I o i = h.2.1 o i) → (lev (lvl I dd.toInt.toNat) (pI h.2.1 159) (I 162 (dd.toInt.toNat)).toInt (h.2.1 118 61).toInt) → (∀ i, (i < 20 * dd.toInt.toNat ∨ 20 * dd.toInt.toNat + 20 ≤ i) → I 161 i = h.2.1 161 i) → (∀ i, i ≠ dd.toInt.toNat → I 162 i = h.2.1 162 i) → ((h.2.1 162 (dd.toInt.toNat)).toInt ≤ (I 162 (dd.toInt.toNat)).toInt) → ((I 162 (dd.toInt.toNat)).toInt = (h.2.1 162 (dd.toInt.toNat)).toInt → ∀ i, I 161 i = h.2.1 161 i) → ((h.2.1 118 61).toInt ≤ (I 162 (dd.toInt.toNat)).toInt ∨ nxt (lvl I dd.toInt.toNat) (pI h.2.1 159 (I 162 (dd.toInt.toNat)).toInt.toNat)) → Z none (h.1, I, J, h.2.2.2)) : ∀ (m : Nat) (I : Nat → Nat → Int32) (J : Nat → Nat → Int64) (l2 : Value), hk_B I → (∀ o, [161, 162].contains o = false → ∀ i, I o i = h.2.1 o i) → (lev (lvl I dd.toInt.toNat) (pI h.2.1 159) (I 162 (dd.toInt.toNat)).toInt (h.2.1 118 61).toInt) → (∀ i, (i < 20 * dd.toInt.toNat ∨ 20 * dd.toInt.toNat + 20 ≤ i) → I 161 i = h.2.1 161 i) → (∀ i, i ≠ dd.toInt.toNat → I 162 i = h.2.1 162 i) → ((h.2.1 162 (dd.toInt.toNat)).toInt ≤ (I 162 (dd.toInt.toNat)).toInt) → ((I 162 (dd.toInt.toNat)).toInt = (h.2.1 162 (dd.toInt.toNat)).toInt → ∀ i, I 161 i = h.2.1 161 i) → (12 - (I 162 (dd.toInt.toNat)).toInt).toNat = m → qm_Ru (some (L, xs)) (d + 40) cd_334 (0, [.ref 118, .int dd, l2], [], (h.1, I, J, h.2.2.2)) Z := by
  intro m
  induction m using Nat.strongRecOn with
  | ind m ih =>
    intro I J l2 hBI e hl ho hs hg hz hm
    refine qm_Ru.go 1 (c' := (1, [.ref 118, .int dd, l2], [.ref 118], (h.1, I, J, h.2.2.2))) rfl ?_
    refine hk_getr rfl (hH.1 118 (17, 105) rfl) rfl (hH.2 118 65 (some 162) rfl) ?_
    refine qm_Ru.go 1 (c' := (5, [.ref 118, .int dd, l2], [.int dd, .ref 162], (h.1, I, J, h.2.2.2))) rfl ?_
    obtain ⟨v1, q_v1⟩ : ∃ v, I 162 (dd.toInt.toNat) = v := ⟨_, rfl⟩
    have b_v1 : (0 : Int) ≤ v1.toInt ∧ v1.toInt ≤ 12 := by rw [← q_v1]; exact hBI 162 (dd.toInt.toNat)
    refine hk_ial (v := v1) rfl (hH.1 162 (0, 6) rfl) (by omega) (by omega) q_v1 ?_
    refine qm_Ru.go 1 (c' := (7, [.ref 118, .int dd, l2], [.ref 118, .int v1], (h.1, I, J, h.2.2.2))) rfl ?_
    obtain ⟨v2, q_v2⟩ : ∃ v, h.2.1 118 61 = v := ⟨_, rfl⟩
    have b_v2 : (0 : Int) ≤ v2.toInt ∧ v2.toInt ≤ 12 := by rw [← q_v2]; exact hB 118 61
    refine hk_geti (v := v2) rfl (hH.1 118 (17, 105) rfl) rfl (show (I) 118 61 = _ from ((e 118 rfl 61).trans q_v2)) ?_
    refine qm_Ru.go 0 (c' := (10, [.ref 118, .int dd, l2], [.int v2, .int v1], (h.1, I, J, h.2.2.2))) rfl ?_
    refine hk_cge (ix := v1.toInt) (iy := v2.toInt) rfl rfl rfl (fun z3 => ?_) (fun z3 => ?_)
    · refine qm_Ru.go 0 (c' := (82, [.ref 118, .int dd, l2], [], (h.1, I, J, h.2.2.2))) rfl ?_
      refine qm_Ru.rt (v := none) (h' := (h.1, I, J, h.2.2.2)) rfl ?_
      exact k (I) (J) hBI (fun o ho i => (e o ho i)) hl ho hs hg hz (Or.inl (by rw [q_v2, q_v1]; omega))
    · refine qm_Ru.go 3 (c' := (16, [.ref 118, .int dd, l2], [.ref 118, .int dd, .ref 118], (h.1, I, J, h.2.2.2))) rfl ?_
      refine hk_getr rfl (hH.1 118 (17, 105) rfl) rfl (hH.2 118 62 (some 159) rfl) ?_
      refine qm_Ru.go 1 (c' := (20, [.ref 118, .int dd, l2], [.ref 118, .ref 159, .int dd, .ref 118], (h.1, I, J, h.2.2.2))) rfl ?_
      refine hk_getr rfl (hH.1 118 (17, 105) rfl) rfl (hH.2 118 65 (some 162) rfl) ?_
      refine qm_Ru.go 1 (c' := (24, [.ref 118, .int dd, l2], [.int dd, .ref 162, .ref 159, .int dd, .ref 118], (h.1, I, J, h.2.2.2))) rfl ?_
      refine hk_ial (v := v1) rfl (hH.1 162 (0, 6) rfl) (by omega) (by omega) q_v1 ?_
      refine qm_Ru.go 0 (c' := (25, [.ref 118, .int dd, l2], [.int v1, .ref 159, .int dd, .ref 118], (h.1, I, J, h.2.2.2))) rfl ?_
      obtain ⟨v4, q_v4⟩ : ∃ v, h.2.1 159 (v1.toInt.toNat) = v := ⟨_, rfl⟩
      have b_v4 : (0 : Int) ≤ v4.toInt ∧ v4.toInt ≤ 29 := by rw [← q_v4]; exact hB 159 (v1.toInt.toNat)
      refine hk_ial (v := v4) rfl (hH.1 159 (0, 12) rfl) (by omega) (by omega) (show (I) 159 (v1.toInt.toNat) = _ from ((e 159 rfl (v1.toInt.toNat)).trans q_v4)) ?_
      refine qm_Ru.go 0 (c' := (26, [.ref 118, .int dd, l2], [.int v4, .int dd, .ref 118], (h.1, I, J, h.2.2.2))) rfl ?_
      refine hk_inv (o := 118) (r := []) (as := [.ref 118, .int dd, .int v4]) rfl rfl (hH.1 118 (17, 105) rfl) rfl rfl rfl rfl (hs_stackof (h := (h.1, I, J, h.2.2.2)) h6 hH hBI (dd := dd) (x := v4) (by omega) hl.1 (fun v7 I5 J6 _ e_I5 k_v7 => ?_))
      have e_I5 : I = I5 := funext fun o => funext fun i => (e_I5 o rfl i).symm
      subst e_I5
      obtain ⟨s0, s04, sc⟩ := hl.2 v1.toInt.toNat (by rw [q_v1]; omega) (by rw [q_v2]; omega)
      have sc : con (lvl I dd.toInt.toNat) s0 v4.toInt := by rw [← q_v4]; exact sc
      rcases k_v7 with ⟨_, no⟩ | ⟨v03, vc, vl⟩
      · exact absurd sc (no s0 s04)
      refine qm_Ru.go 4 (c' := (33, [.ref 118, .int dd, .int v7], [.int v7, .int dd, .ref 118], (h.1, I, J6, h.2.2.2))) rfl ?_
      refine hk_inv (o := 118) (r := []) (as := [.ref 118, .int dd, .int v7]) rfl rfl (hH.1 118 (17, 105) rfl) rfl rfl rfl rfl ?_
      refine qm_Ru.go 1 (c' := (1, [.ref 118, .int dd, .int v7, .float 0], [.ref 118], (h.1, I, J6, h.2.2.2))) rfl ?_
      refine hk_getr rfl (hH.1 118 (17, 105) rfl) rfl (hH.2 118 64 (some 161) rfl) ?_
      refine qm_Ru.go 3 (c' := (8, [.ref 118, .int dd, .int v7, .float 0], [.int (20 * dd), .ref 161], (h.1, I, J6, h.2.2.2))) rfl ?_
      obtain ⟨v8, q_v8, e_v8⟩ := hk_mul (x := 20) (y := dd) (a := 20) (b := dd.toInt) rfl rfl (by omega) (by omega)
      rw [q_v8]
      refine qm_Ru.go 2 (c' := (11, [.ref 118, .int dd, .int v7, .float 0], [.int (v8 + 16), .ref 161], (h.1, I, J6, h.2.2.2))) rfl ?_
      obtain ⟨v9, q_v9, e_v9⟩ := hk_add (x := v8) (y := 16) (a := v8.toInt) (b := 16) rfl rfl (by omega) (by omega)
      rw [q_v9]
      refine qm_Ru.go 2 (c' := (13, [.ref 118, .int dd, .int v7, .float 0], [.int (v9 + v7), .ref 161], (h.1, I, J6, h.2.2.2))) rfl ?_
      obtain ⟨v10, q_v10, e_v10⟩ := hk_add (x := v9) (y := v7) (a := v9.toInt) (b := v7.toInt) rfl rfl (by omega) (by omega)
      rw [q_v10]
      obtain ⟨v11, q_v11⟩ : ∃ v, I 161 (v10.toInt.toNat) = v := ⟨_, rfl⟩
      have b_v11 : (0 : Int) ≤ v11.toInt ∧ v11.toInt ≤ 29 := by rw [← q_v11]; exact hBI 161 (v10.toInt.toNat)
      refine hk_ial (v := v11) rfl (hH.1 161 (0, 120) rfl) (by omega) (by omega) q_v11 ?_
      refine qm_Ru.go 0 (c' := (14, [.ref 118, .int dd, .int v7, .float 0], [.int v11], (h.1, I, J6, h.2.2.2))) rfl ?_
      have l_v11 : lvl I dd.toInt.toNat (16 + v7.toInt.toNat) = v11.toInt := lv_of q_v11 (by omega)
      have g_v11 := con_h vc l_v11
      have m_v11 := hl.1 v7.toInt.toNat (by omega)
      rw [l_v11] at m_v11
      refine qm_Ru.go 2 (c' := (16, [.ref 118, .int dd, .int v7, .int v11], [.int v11], (h.1, I, J6, h.2.2.2))) rfl ?_
      refine hk_zne (ix := v11.toInt) rfl rfl (fun z12 => ?_) (fun z12 => by exfalso; omega)
      refine qm_Ru.go 1 (c' := (24, [.ref 118, .int dd, .int v7, .int v11], [.ref 118], (h.1, I, J6, h.2.2.2))) rfl ?_
      refine hk_getr rfl (hH.1 118 (17, 105) rfl) rfl (hH.2 118 64 (some 161) rfl) ?_
      refine qm_Ru.go 3 (c' := (31, [.ref 118, .int dd, .int v7, .int v11], [.int (20 * dd), .ref 161], (h.1, I, J6, h.2.2.2))) rfl ?_
      rw [q_v8]
      refine qm_Ru.go 3 (c' := (34, [.ref 118, .int dd, .int v7, .int v11], [.int (4 * v7), .int v8, .ref 161], (h.1, I, J6, h.2.2.2))) rfl ?_
      obtain ⟨v14, q_v14, e_v14⟩ := hk_mul (x := 4) (y := v7) (a := 4) (b := v7.toInt) rfl rfl (by omega) (by omega)
      rw [q_v14]
      refine qm_Ru.go 1 (c' := (35, [.ref 118, .int dd, .int v7, .int v11], [.int (v8 + v14), .ref 161], (h.1, I, J6, h.2.2.2))) rfl ?_
      obtain ⟨v15, q_v15, e_v15⟩ := hk_add (x := v8) (y := v14) (a := v8.toInt) (b := v14.toInt) rfl rfl (by omega) (by omega)
      rw [q_v15]
      refine qm_Ru.go 2 (c' := (37, [.ref 118, .int dd, .int v7, .int v11], [.int (v15 + v11), .ref 161], (h.1, I, J6, h.2.2.2))) rfl ?_
      obtain ⟨v16, q_v16, e_v16⟩ := hk_add (x := v15) (y := v11) (a := v15.toInt) (b := v11.toInt) rfl rfl (by omega) (by omega)
      rw [q_v16]
      refine qm_Ru.go 2 (c' := (39, [.ref 118, .int dd, .int v7, .int v11], [.int (v16 - 1), .ref 161], (h.1, I, J6, h.2.2.2))) rfl ?_
      obtain ⟨v17, q_v17, e_v17⟩ := hk_sub (x := v16) (y := 1) (a := v16.toInt) (b := 1) rfl rfl (by omega) (by omega)
      rw [q_v17]
      obtain ⟨v18, q_v18⟩ : ∃ v, I 161 (v17.toInt.toNat) = v := ⟨_, rfl⟩
      have b_v18 : (0 : Int) ≤ v18.toInt ∧ v18.toInt ≤ 29 := by rw [← q_v18]; exact hBI 161 (v17.toInt.toNat)
      refine hk_ial (v := v18) rfl (hH.1 161 (0, 120) rfl) (by omega) (by omega) q_v18 ?_
      refine qm_Ru.go 0 (c' := (40, [.ref 118, .int dd, .int v7, .int v11], [.int v18], (h.1, I, J6, h.2.2.2))) rfl ?_
      have l_v18 : lvl I dd.toInt.toNat (4 * v7.toInt.toNat + (v11.toInt - 1).toNat) = v18.toInt := lv_of q_v18 (by omega)
      refine qm_Ru.rt (v := (some (.int v18))) (h' := (h.1, I, J6, h.2.2.2)) rfl ?_
      refine qm_Ru.go 1 (c' := (37, [.ref 118, .int dd, .int v7], [.ref 118, .int v18], (h.1, I, J6, h.2.2.2))) rfl ?_
      refine hk_getr rfl (hH.1 118 (17, 105) rfl) rfl (hH.2 118 62 (some 159) rfl) ?_
      refine qm_Ru.go 1 (c' := (41, [.ref 118, .int dd, .int v7], [.ref 118, .ref 159, .int v18], (h.1, I, J6, h.2.2.2))) rfl ?_
      refine hk_getr rfl (hH.1 118 (17, 105) rfl) rfl (hH.2 118 65 (some 162) rfl) ?_
      refine qm_Ru.go 1 (c' := (45, [.ref 118, .int dd, .int v7], [.int dd, .ref 162, .ref 159, .int v18], (h.1, I, J6, h.2.2.2))) rfl ?_
      refine hk_ial (v := v1) rfl (hH.1 162 (0, 6) rfl) (by omega) (by omega) q_v1 ?_
      refine qm_Ru.go 0 (c' := (46, [.ref 118, .int dd, .int v7], [.int v1, .ref 159, .int v18], (h.1, I, J6, h.2.2.2))) rfl ?_
      refine hk_ial (v := v4) rfl (hH.1 159 (0, 12) rfl) (by omega) (by omega) (show (I) 159 (v1.toInt.toNat) = _ from ((e 159 rfl (v1.toInt.toNat)).trans q_v4)) ?_
      refine qm_Ru.go 0 (c' := (47, [.ref 118, .int dd, .int v7], [.int v4, .int v18], (h.1, I, J6, h.2.2.2))) rfl ?_
      refine hk_ceq (ix := v18.toInt) (iy := v4.toInt) rfl rfl rfl (fun z19 => ?_) (fun z19 => ?_)
      · refine qm_Ru.go 1 (c' := (52, [.ref 118, .int dd, .int v7], [.ref 118], (h.1, I, J6, h.2.2.2))) rfl ?_
        refine hk_getr rfl (hH.1 118 (17, 105) rfl) rfl (hH.2 118 64 (some 161) rfl) ?_
        refine qm_Ru.go 3 (c' := (59, [.ref 118, .int dd, .int v7], [.int (20 * dd), .ref 161], (h.1, I, J6, h.2.2.2))) rfl ?_
        rw [q_v8]
        refine qm_Ru.go 2 (c' := (62, [.ref 118, .int dd, .int v7], [.int (v8 + 16), .ref 161], (h.1, I, J6, h.2.2.2))) rfl ?_
        rw [q_v9]
        refine qm_Ru.go 2 (c' := (64, [.ref 118, .int dd, .int v7], [.int (v9 + v7), .ref 161], (h.1, I, J6, h.2.2.2))) rfl ?_
        rw [q_v10]
        refine qm_Ru.go 1 (c' := (65, [.ref 118, .int dd, .int v7], [.int v10, .ref 161, .int v10, .ref 161], (h.1, I, J6, h.2.2.2))) rfl ?_
        refine hk_ial (v := v11) rfl (hH.1 161 (0, 120) rfl) (by omega) (by omega) q_v11 ?_
        refine qm_Ru.go 2 (c' := (68, [.ref 118, .int dd, .int v7], [.int (v11 - 1), .int v10, .ref 161], (h.1, I, J6, h.2.2.2))) rfl ?_
        obtain ⟨v23, q_v23, e_v23⟩ := hk_sub (x := v11) (y := 1) (a := v11.toInt) (b := 1) rfl rfl (by omega) (by omega)
        rw [q_v23]
        refine hk_ias rfl (hH.1 161 (0, 120) rfl) (by omega) (by omega) ?_
        refine qm_Ru.go 1 (c' := (70, [.ref 118, .int dd, .int v7], [.ref 118], (h.1, qm_up I 161 (v10.toInt.toNat) v23, J6, h.2.2.2))) rfl ?_
        refine hk_getr rfl (hH.1 118 (17, 105) rfl) rfl (hH.2 118 65 (some 162) rfl) ?_
        refine qm_Ru.go 2 (c' := (75, [.ref 118, .int dd, .int v7], [.int dd, .ref 162, .int dd, .ref 162], (h.1, qm_up I 161 (v10.toInt.toNat) v23, J6, h.2.2.2))) rfl ?_
        refine hk_ial (v := v1) rfl (hH.1 162 (0, 6) rfl) (by omega) (by omega) (show (qm_up I 161 (v10.toInt.toNat) v23) 162 (dd.toInt.toNat) = _ from ((hk_ot rfl).trans q_v1)) ?_
        refine qm_Ru.go 2 (c' := (78, [.ref 118, .int dd, .int v7], [.int (v1 + 1), .int dd, .ref 162], (h.1, qm_up I 161 (v10.toInt.toNat) v23, J6, h.2.2.2))) rfl ?_
        obtain ⟨v24, q_v24, e_v24⟩ := hk_add (x := v1) (y := 1) (a := v1.toInt) (b := 1) rfl rfl (by omega) (by omega)
        rw [q_v24]
        refine hk_ias rfl (hH.1 162 (0, 6) rfl) (by omega) (by omega) ?_
        refine qm_Ru.go 1 (c' := (0, [.ref 118, .int dd, .int v7], [], (h.1, qm_up (qm_up I 161 (v10.toInt.toNat) v23) 162 (dd.toInt.toNat) v24, J6, h.2.2.2))) rfl ?_
        exact ih _ (by rw [(show ((qm_up (qm_up I 161 (v10.toInt.toNat) v23) 162 (dd.toInt.toNat) v24) 162 (dd.toInt.toNat)).toInt = v1.toInt + 1 from (congrArg Int32.toInt hk_same).trans (by omega))]; rw [q_v1] at hm; omega) (qm_up (qm_up I 161 (v10.toInt.toNat) v23) 162 (dd.toInt.toNat) v24) (J6) (.int v7) (hb_up (o := 162) (k := dd.toInt.toNat) (x := v24) (hb_up (o := 161) (k := v10.toInt.toNat) (x := v23) hBI ⟨by show (0 : Int) ≤ v23.toInt; omega, by show v23.toInt ≤ (29 : Int); omega⟩) ⟨by show (0 : Int) ≤ v24.toInt; omega, by show v24.toInt ≤ (12 : Int); omega⟩) (fun o ho i => ((hk_mod ho rfl).trans ((hk_mod ho rfl).trans (e o ho i)))) (by rw [show lvl (qm_up (qm_up I 161 (v10.toInt.toNat) v23) 162 (dd.toInt.toNat) v24) dd.toInt.toNat = fu_up (lvl I dd.toInt.toNat) (16 + v7.toInt.toNat) (v11.toInt - 1) from (lv_sk rfl).trans ((lv_up (n := 16 + v7.toInt.toNat) (by omega)).trans (by rw [show v23.toInt = v11.toInt - 1 from by omega])), (show ((qm_up (qm_up I 161 (v10.toInt.toNat) v23) 162 (dd.toInt.toNat) v24) 162 (dd.toInt.toNat)).toInt = v1.toInt + 1 from (congrArg Int32.toInt hk_same).trans (by omega))]; have g := lev_pop (b := v1.toInt.toNat) hl hd (by omega) l_v11 (by omega) (by omega) (by rw [q_v1]; omega) (by rw [l_v18]; show _ = (h.2.1 159 _).toInt; rw [q_v4]; omega); rw [q_v1] at g; exact g) (fun i hi => (hk_ot rfl).trans ((hk_neq (by omega)).trans (ho i hi))) (fun i hi => (hk_neq hi).trans ((hk_ot rfl).trans (hs i hi))) (by rw [(show ((qm_up (qm_up I 161 (v10.toInt.toNat) v23) 162 (dd.toInt.toNat) v24) 162 (dd.toInt.toNat)).toInt = v1.toInt + 1 from (congrArg Int32.toInt hk_same).trans (by omega))]; rw [q_v1] at hg; omega) (fun c => absurd c (by rw [(show ((qm_up (qm_up I 161 (v10.toInt.toNat) v23) 162 (dd.toInt.toNat) v24) 162 (dd.toInt.toNat)).toInt = v1.toInt + 1 from (congrArg Int32.toInt hk_same).trans (by omega))]; rw [q_v1] at hg; omega)) rfl
      · refine qm_Ru.go 0 (c' := (50, [.ref 118, .int dd, .int v7], [], (h.1, I, J6, h.2.2.2))) rfl ?_
        refine qm_Ru.rt (v := none) (h' := (h.1, I, J6, h.2.2.2)) rfl ?_
        exact k (I) (J6) hBI (fun o ho i => (e o ho i)) hl ho hs hg hz (Or.inr (by show nxt _ (h.2.1 159 _).toInt; rw [q_v1, q_v4]; exact nxt_of (by omega) vc vl (by rw [l_v11, l_v18]; omega)))
theorem hs_serves {L : Nat} {xs : Nat → Int32} {d : Nat} {Z : Option Value → qm_H → Prop} {h : qm_H} (h6 : 6 ≤ L) (hH : hk_H h) (hB : hk_B h.2.1) {dd : Int32} (b_dd : (0 : Int) ≤ dd.toInt ∧ dd.toInt ≤ 5) (hd : qdis (pI h.2.1 159) (h.2.1 118 61).toInt) (hl0 : lev (lvl h.2.1 dd.toInt.toNat) (pI h.2.1 159) (h.2.1 162 (dd.toInt.toNat)).toInt (h.2.1 118 61).toInt) (k : ∀ (I : Nat → Nat → Int32) (J : Nat → Nat → Int64), hk_B I → (∀ o, [161, 162].contains o = false → ∀ i, I o i = h.2.1 o i) → (lev (lvl I dd.toInt.toNat) (pI h.2.1 159) (I 162 (dd.toInt.toNat)).toInt (h.2.1 118 61).toInt) → (∀ i, (i < 20 * dd.toInt.toNat ∨ 20 * dd.toInt.toNat + 20 ≤ i) → I 161 i = h.2.1 161 i) → (∀ i, i ≠ dd.toInt.toNat → I 162 i = h.2.1 162 i) → ((h.2.1 162 (dd.toInt.toNat)).toInt ≤ (I 162 (dd.toInt.toNat)).toInt) → ((I 162 (dd.toInt.toNat)).toInt = (h.2.1 162 (dd.toInt.toNat)).toInt → ∀ i, I 161 i = h.2.1 161 i) → ((h.2.1 118 61).toInt ≤ (I 162 (dd.toInt.toNat)).toInt ∨ nxt (lvl I dd.toInt.toNat) (pI h.2.1 159 (I 162 (dd.toInt.toNat)).toInt.toNat)) → Z none (h.1, I, J, h.2.2.2)) : qm_Ru (some (L, xs)) (d + 40) cd_334 (qm_ent 3 [.ref 118, .int dd] h) Z := hl_serves h6 hH hB b_dd hd k _ h.2.1 h.2.2.1 (.float 0) hB (fun _ _ _ => rfl) hl0 (fun _ _ => rfl) (fun _ _ => rfl) (Int.le_refl _) (fun _ _ => rfl) rfl
