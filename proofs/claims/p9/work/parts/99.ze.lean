/-! contracts of the reference by hand -/
theorem hl_served {L : Nat} {xs : Nat → Int32} {d : Nat} {Z : Option Value → qm_H → Prop} {h : qm_H} (h6 : 6 ≤ L) (hH : hk_H h) (hB : hk_B h.2.1) {mo : Int32} (b_mo : (0 : Int) ≤ mo.toInt ∧ mo.toInt ≤ 5) (hd : qdis (pI h.2.1 159) (h.2.1 118 61).toInt) (k : ∀ (v : Int32) (I : Nat → Nat → Int32) (J : Nat → Nat → Int64), (0 : Int) ≤ v.toInt ∧ v.toInt ≤ 1 → hk_B I → (∀ o, [118, 161, 162, 163].contains o = false → ∀ i, I o i = h.2.1 o i) → (∀ i, i < 69 → I 118 i = h.2.1 118 i) → ((0 ≤ (h.2.1 118 69).toInt ∧ (h.2.1 118 69).toInt ≤ 5) → 0 ≤ (I 118 69).toInt ∧ (I 118 69).toInt ≤ 5) → Z (some (.int v)) (h.1, I, J, h.2.2.2)) : ∀ (m : Nat) (I : Nat → Nat → Int32) (J : Nat → Nat → Int64) (dd : Int32) (l3 l4 : Value), hk_B I → (∀ o, [118, 161, 162, 163].contains o = false → ∀ i, I o i = h.2.1 o i) → (∀ i, i < 69 → I 118 i = h.2.1 118 i) → ((-1 : Int) ≤ dd.toInt ∧ dd.toInt ≤ mo.toInt) → (tok (pI I 163) dd.toInt) → (dd.toInt = mo.toInt → (I 163 (dd.toInt.toNat)).toInt = -1) → (∀ e : Nat, (e : Int) ≤ dd.toInt → lev (lvl I e) (pI h.2.1 159) (I 162 e).toInt (h.2.1 118 61).toInt) → (I 118 69 = h.2.1 118 69) → msr (pI I 163) dd.toInt = m → qm_Ru (some (L, xs)) (d + 80) cd_341 (47, [.ref 118, .int mo, .int dd, l3, l4], [], (h.1, I, J, h.2.2.2)) Z := by
  intro m
  induction m using Nat.strongRecOn with
  | ind m ih =>
    intro I J dd l3 l4 hBI e e8 hdm ht hM hl h69 hm
    refine qm_Ru.go 1 (c' := (48, [.ref 118, .int mo, .int dd, l3, l4], [.int dd], (h.1, I, J, h.2.2.2))) rfl ?_
    refine hk_zlt (ix := dd.toInt) rfl rfl (fun z1 => ?_) (fun z1 => ?_)
    · refine qm_Ru.go 1 (c' := (213, [.ref 118, .int mo, .int dd, l3, l4], [.int 0], (h.1, I, J, h.2.2.2))) rfl ?_
      refine qm_Ru.rt (v := (some (.int 0))) (h' := (h.1, I, J, h.2.2.2)) rfl ?_
      exact k 0 (I) (J) (by decide) hBI (fun o ho i => (e o ho i)) (fun i hi => (e8 i hi)) (fun c => by rw [show (I) 118 69 = h.2.1 118 69 from h69]; exact c)
    · refine qm_Ru.go 2 (c' := (53, [.ref 118, .int mo, .int dd, l3, l4], [.int mo, .int dd], (h.1, I, J, h.2.2.2))) rfl ?_
      refine hk_cne (ix := dd.toInt) (iy := mo.toInt) rfl rfl rfl (fun z2 => ?_) (fun z2 => ?_)
      · refine qm_Ru.go 1 (c' := (63, [.ref 118, .int mo, .int dd, l3, l4], [.ref 118], (h.1, I, J, h.2.2.2))) rfl ?_
        refine hk_getr rfl (hH.1 118 (17, 105) rfl) rfl (hH.2 118 68 (some 163) rfl) ?_
        refine qm_Ru.go 2 (c' := (68, [.ref 118, .int mo, .int dd, l3, l4], [.int dd, .ref 163, .int dd, .ref 163], (h.1, I, J, h.2.2.2))) rfl ?_
        obtain ⟨v3, q_v3⟩ : ∃ v, I 163 (dd.toInt.toNat) = v := ⟨_, rfl⟩
        have b_v3 : (-1 : Int) ≤ v3.toInt ∧ v3.toInt ≤ 16 := by rw [← q_v3]; exact hBI 163 (dd.toInt.toNat)
        refine hk_ial (v := v3) rfl (hH.1 163 (0, 6) rfl) (by omega) (by omega) q_v3 ?_
        refine qm_Ru.go 0 (c' := (69, [.ref 118, .int mo, .int dd, l3, l4], [.int v3, .int dd, .ref 163], (h.1, I, J, h.2.2.2))) rfl ?_
        have tx : pI I 163 (dd.toInt.toNat) = v3.toInt := congrArg Int32.toInt q_v3
        have tb := ht.1 (dd.toInt.toNat) (by omega)
        rw [tx] at tb
        refine qm_Ru.go 2 (c' := (71, [.ref 118, .int mo, .int dd, l3, l4], [.int (v3 + 1), .int dd, .ref 163], (h.1, I, J, h.2.2.2))) rfl ?_
        obtain ⟨v4, q_v4, e_v4⟩ := hk_add (x := v3) (y := 1) (a := v3.toInt) (b := 1) rfl rfl (by omega) (by omega)
        rw [q_v4]
        refine hk_ias rfl (hH.1 163 (0, 6) rfl) (by omega) (by omega) ?_
        refine qm_Ru.go 1 (c' := (73, [.ref 118, .int mo, .int dd, l3, l4], [.ref 118], (h.1, qm_up I 163 (dd.toInt.toNat) v4, J, h.2.2.2))) rfl ?_
        refine hk_getr rfl (hH.1 118 (17, 105) rfl) rfl (hH.2 118 68 (some 163) rfl) ?_
        refine qm_Ru.go 1 (c' := (77, [.ref 118, .int mo, .int dd, l3, l4], [.int dd, .ref 163], (h.1, qm_up I 163 (dd.toInt.toNat) v4, J, h.2.2.2))) rfl ?_
        refine hk_ial (v := v4) rfl (hH.1 163 (0, 6) rfl) (by omega) (by omega) (show (qm_up I 163 (dd.toInt.toNat) v4) 163 (dd.toInt.toNat) = _ from (hk_same)) ?_
        refine qm_Ru.go 1 (c' := (80, [.ref 118, .int mo, .int dd, l3, l4], [.int 16, .int v4], (h.1, qm_up I 163 (dd.toInt.toNat) v4, J, h.2.2.2))) rfl ?_
        refine hk_cne (ix := v4.toInt) (iy := 16) rfl rfl rfl (fun z5 => ?_) (fun z5 => ?_)
        · refine qm_Ru.go 1 (c' := (97, [.ref 118, .int mo, .int dd, l3, l4], [.ref 118], (h.1, qm_up I 163 (dd.toInt.toNat) v4, J, h.2.2.2))) rfl ?_
          refine hk_getr rfl (hH.1 118 (17, 105) rfl) rfl (hH.2 118 68 (some 163) rfl) ?_
          refine qm_Ru.go 1 (c' := (101, [.ref 118, .int mo, .int dd, l3, l4], [.int dd, .ref 163], (h.1, qm_up I 163 (dd.toInt.toNat) v4, J, h.2.2.2))) rfl ?_
          refine hk_ial (v := v4) rfl (hH.1 163 (0, 6) rfl) (by omega) (by omega) (show (qm_up I 163 (dd.toInt.toNat) v4) 163 (dd.toInt.toNat) = _ from (hk_same)) ?_
          refine qm_Ru.go 2 (c' := (104, [.ref 118, .int mo, .int dd, l3, l4], [.int (v4 / 4)], (h.1, qm_up I 163 (dd.toInt.toNat) v4, J, h.2.2.2))) rfl ?_
          obtain ⟨v6, q_v6, e_v6⟩ := hk_div (x := v4) (y := 4) (a := v4.toInt) (b := 4) rfl rfl (by omega) (by omega)
          rw [q_v6]
          refine qm_Ru.go 2 (c' := (106, [.ref 118, .int mo, .int dd, .int v6, l4], [.ref 118], (h.1, qm_up I 163 (dd.toInt.toNat) v4, J, h.2.2.2))) rfl ?_
          refine hk_getr rfl (hH.1 118 (17, 105) rfl) rfl (hH.2 118 68 (some 163) rfl) ?_
          refine qm_Ru.go 1 (c' := (110, [.ref 118, .int mo, .int dd, .int v6, l4], [.int dd, .ref 163], (h.1, qm_up I 163 (dd.toInt.toNat) v4, J, h.2.2.2))) rfl ?_
          refine hk_ial (v := v4) rfl (hH.1 163 (0, 6) rfl) (by omega) (by omega) (show (qm_up I 163 (dd.toInt.toNat) v4) 163 (dd.toInt.toNat) = _ from (hk_same)) ?_
          refine qm_Ru.go 2 (c' := (113, [.ref 118, .int mo, .int dd, .int v6, l4], [.int (v4 - v4 / 4 * 4)], (h.1, qm_up I 163 (dd.toInt.toNat) v4, J, h.2.2.2))) rfl ?_
          obtain ⟨v7, q_v7, e_v7⟩ := hk_rem (x := v4) (y := 4) (a := v4.toInt) (b := 4) rfl rfl (by omega) (by omega)
          rw [q_v7]
          refine qm_Ru.go 3 (c' := (118, [.ref 118, .int mo, .int dd, .int v6, .int v7], [.int v7, .int v6], (h.1, qm_up I 163 (dd.toInt.toNat) v4, J, h.2.2.2))) rfl ?_
          refine hk_ceq (ix := v6.toInt) (iy := v7.toInt) rfl rfl rfl (fun z8 => ?_) (fun z8 => ?_)
          · refine qm_Ru.go 0 (c' := (47, [.ref 118, .int mo, .int dd, .int v6, .int v7], [], (h.1, qm_up I 163 (dd.toInt.toNat) v4, J, h.2.2.2))) rfl ?_
            have et : pI (qm_up I 163 (dd.toInt.toNat) v4) 163 = fu_up (pI I 163) (dd.toInt.toNat) (pI I 163 (dd.toInt.toNat) + 1) := pI_up.trans (by rw [tx, show v4.toInt = v3.toInt + 1 from by omega])
            have ms := msr_on ht (by omega) (by omega) et (by omega)
            exact ih _ (by rw [← hm]; exact ms.1) (qm_up I 163 (dd.toInt.toNat) v4) (J) dd (.int v6) (.int v7) (hb_up (o := 163) (k := dd.toInt.toNat) (x := v4) hBI ⟨by show (-1 : Int) ≤ v4.toInt; omega, by show v4.toInt ≤ (16 : Int); omega⟩) (fun o ho i => ((hk_mod ho rfl).trans (e o ho i))) (fun i hi => ((hk_ot rfl).trans (e8 i hi))) (by omega) ms.2 (fun c => absurd c (by omega)) (fun e9 he => by rw [show lvl (qm_up I 163 (dd.toInt.toNat) v4) e9 = lvl I e9 from (lv_sk rfl), show ((qm_up I 163 (dd.toInt.toNat) v4) 162 e9) = I 162 e9 from (hk_ot rfl)]; exact hl e9 (by omega)) ((hk_ot rfl).trans h69) rfl
          · refine qm_Ru.go 1 (c' := (122, [.ref 118, .int mo, .int dd, .int v6, .int v7], [.ref 118], (h.1, qm_up I 163 (dd.toInt.toNat) v4, J, h.2.2.2))) rfl ?_
            refine hk_getr rfl (hH.1 118 (17, 105) rfl) rfl (hH.2 118 64 (some 161) rfl) ?_
            refine qm_Ru.go 3 (c' := (129, [.ref 118, .int mo, .int dd, .int v6, .int v7], [.int (20 * dd), .ref 161], (h.1, qm_up I 163 (dd.toInt.toNat) v4, J, h.2.2.2))) rfl ?_
            obtain ⟨v9, q_v9, e_v9⟩ := hk_mul (x := 20) (y := dd) (a := 20) (b := dd.toInt) rfl rfl (by omega) (by omega)
            rw [q_v9]
            refine qm_Ru.go 2 (c' := (132, [.ref 118, .int mo, .int dd, .int v6, .int v7], [.int (v9 + 16), .ref 161], (h.1, qm_up I 163 (dd.toInt.toNat) v4, J, h.2.2.2))) rfl ?_
            obtain ⟨v10, q_v10, e_v10⟩ := hk_add (x := v9) (y := 16) (a := v9.toInt) (b := 16) rfl rfl (by omega) (by omega)
            rw [q_v10]
            refine qm_Ru.go 2 (c' := (134, [.ref 118, .int mo, .int dd, .int v6, .int v7], [.int (v10 + v6), .ref 161], (h.1, qm_up I 163 (dd.toInt.toNat) v4, J, h.2.2.2))) rfl ?_
            obtain ⟨v11, q_v11, e_v11⟩ := hk_add (x := v10) (y := v6) (a := v10.toInt) (b := v6.toInt) rfl rfl (by omega) (by omega)
            rw [q_v11]
            obtain ⟨v12, q_v12⟩ : ∃ v, I 161 (v11.toInt.toNat) = v := ⟨_, rfl⟩
            have b_v12 : (0 : Int) ≤ v12.toInt ∧ v12.toInt ≤ 29 := by rw [← q_v12]; exact hBI 161 (v11.toInt.toNat)
            refine hk_ial (v := v12) rfl (hH.1 161 (0, 120) rfl) (by omega) (by omega) (show (qm_up I 163 (dd.toInt.toNat) v4) 161 (v11.toInt.toNat) = _ from ((hk_ot rfl).trans q_v12)) ?_
            refine qm_Ru.go 0 (c' := (135, [.ref 118, .int mo, .int dd, .int v6, .int v7], [.int v12], (h.1, qm_up I 163 (dd.toInt.toNat) v4, J, h.2.2.2))) rfl ?_
            have la : lvl I (dd.toInt.toNat) (16 + v6.toInt.toNat) = v12.toInt := lv_of q_v12 (by omega)
            have lb := (hl (dd.toInt.toNat) (by omega)).1 (v6.toInt.toNat) (by omega)
            rw [la] at lb
            refine hk_zeq (ix := v12.toInt) rfl rfl (fun z13 => ?_) (fun z13 => ?_)
            · refine qm_Ru.go 0 (c' := (47, [.ref 118, .int mo, .int dd, .int v6, .int v7], [], (h.1, qm_up I 163 (dd.toInt.toNat) v4, J, h.2.2.2))) rfl ?_
              have et : pI (qm_up I 163 (dd.toInt.toNat) v4) 163 = fu_up (pI I 163) (dd.toInt.toNat) (pI I 163 (dd.toInt.toNat) + 1) := pI_up.trans (by rw [tx, show v4.toInt = v3.toInt + 1 from by omega])
              have ms := msr_on ht (by omega) (by omega) et (by omega)
              exact ih _ (by rw [← hm]; exact ms.1) (qm_up I 163 (dd.toInt.toNat) v4) (J) dd (.int v6) (.int v7) (hb_up (o := 163) (k := dd.toInt.toNat) (x := v4) hBI ⟨by show (-1 : Int) ≤ v4.toInt; omega, by show v4.toInt ≤ (16 : Int); omega⟩) (fun o ho i => ((hk_mod ho rfl).trans (e o ho i))) (fun i hi => ((hk_ot rfl).trans (e8 i hi))) (by omega) ms.2 (fun c => absurd c (by omega)) (fun e9 he => by rw [show lvl (qm_up I 163 (dd.toInt.toNat) v4) e9 = lvl I e9 from (lv_sk rfl), show ((qm_up I 163 (dd.toInt.toNat) v4) 162 e9) = I 162 e9 from (hk_ot rfl)]; exact hl e9 (by omega)) ((hk_ot rfl).trans h69) rfl
            · refine qm_Ru.go 1 (c' := (139, [.ref 118, .int mo, .int dd, .int v6, .int v7], [.ref 118], (h.1, qm_up I 163 (dd.toInt.toNat) v4, J, h.2.2.2))) rfl ?_
              refine hk_getr rfl (hH.1 118 (17, 105) rfl) rfl (hH.2 118 64 (some 161) rfl) ?_
              refine qm_Ru.go 3 (c' := (146, [.ref 118, .int mo, .int dd, .int v6, .int v7], [.int (20 * dd), .ref 161], (h.1, qm_up I 163 (dd.toInt.toNat) v4, J, h.2.2.2))) rfl ?_
              rw [q_v9]
              refine qm_Ru.go 2 (c' := (149, [.ref 118, .int mo, .int dd, .int v6, .int v7], [.int (v9 + 16), .ref 161], (h.1, qm_up I 163 (dd.toInt.toNat) v4, J, h.2.2.2))) rfl ?_
              rw [q_v10]
              refine qm_Ru.go 2 (c' := (152, [.ref 118, .int mo, .int dd, .int v6, .int v7], [.int (v10 + v7), .ref 161], (h.1, qm_up I 163 (dd.toInt.toNat) v4, J, h.2.2.2))) rfl ?_
              obtain ⟨v16, q_v16, e_v16⟩ := hk_add (x := v10) (y := v7) (a := v10.toInt) (b := v7.toInt) rfl rfl (by omega) (by omega)
              rw [q_v16]
              obtain ⟨v17, q_v17⟩ : ∃ v, I 161 (v16.toInt.toNat) = v := ⟨_, rfl⟩
              have b_v17 : (0 : Int) ≤ v17.toInt ∧ v17.toInt ≤ 29 := by rw [← q_v17]; exact hBI 161 (v16.toInt.toNat)
              refine hk_ial (v := v17) rfl (hH.1 161 (0, 120) rfl) (by omega) (by omega) (show (qm_up I 163 (dd.toInt.toNat) v4) 161 (v16.toInt.toNat) = _ from ((hk_ot rfl).trans q_v17)) ?_
              refine qm_Ru.go 0 (c' := (153, [.ref 118, .int mo, .int dd, .int v6, .int v7], [.int v17], (h.1, qm_up I 163 (dd.toInt.toNat) v4, J, h.2.2.2))) rfl ?_
              have lc : lvl I (dd.toInt.toNat) (16 + v7.toInt.toNat) = v17.toInt := lv_of q_v17 (by omega)
              have le := (hl (dd.toInt.toNat) (by omega)).1 (v7.toInt.toNat) (by omega)
              rw [lc] at le
              refine qm_Ru.go 1 (c' := (154, [.ref 118, .int mo, .int dd, .int v6, .int v7], [.int 4, .int v17], (h.1, qm_up I 163 (dd.toInt.toNat) v4, J, h.2.2.2))) rfl ?_
              refine hk_cne (ix := v17.toInt) (iy := 4) rfl rfl rfl (fun z18 => ?_) (fun z18 => ?_)
              · refine qm_Ru.go 2 (c' := (162, [.ref 118, .int mo, .int dd, .int v6, .int v7], [.int dd, .ref 118], (h.1, qm_up I 163 (dd.toInt.toNat) v4, J, h.2.2.2))) rfl ?_
                refine hk_inv (o := 118) (r := []) (as := [.ref 118, .int dd]) rfl rfl (hH.1 118 (17, 105) rfl) rfl rfl rfl rfl (hs_copies (h := (h.1, qm_up I 163 (dd.toInt.toNat) v4, J, h.2.2.2)) h6 hH (hb_up (o := 163) (k := dd.toInt.toNat) (x := v4) hBI ⟨by show (-1 : Int) ≤ v4.toInt; omega, by show v4.toInt ≤ (16 : Int); omega⟩) (dd := dd) (by omega) (fun I19 J20 hB_I19 e_I19 c1_I19 co_I19 c2_I19 c3_I19 => ?_))
                have e_I19 : ∀ o, [161, 162].contains o = false → ∀ i, I19 o i = (qm_up I 163 (dd.toInt.toNat) v4) o i := e_I19
                have c1_I19 : ∀ i : Nat, i < 20 → I19 161 (20 * dd.toInt.toNat + 20 + i) = I 161 (20 * dd.toInt.toNat + i) := fun i hi => (c1_I19 i hi).trans (show (qm_up I 163 (dd.toInt.toNat) v4) 161 (20 * dd.toInt.toNat + i) = I 161 (20 * dd.toInt.toNat + i) from hk_ot rfl)
                have co_I19 : ∀ i, (i < 20 * dd.toInt.toNat + 20 ∨ 20 * dd.toInt.toNat + 40 ≤ i) → I19 161 i = I 161 i := fun i hi => (co_I19 i hi).trans (show (qm_up I 163 (dd.toInt.toNat) v4) 161 i = I 161 i from hk_ot rfl)
                have c2_I19 : I19 162 (dd.toInt.toNat + 1) = I 162 (dd.toInt.toNat) := c2_I19.trans (show (qm_up I 163 (dd.toInt.toNat) v4) 162 (dd.toInt.toNat) = I 162 (dd.toInt.toNat) from hk_ot rfl)
                have c3_I19 : ∀ i, i ≠ dd.toInt.toNat + 1 → I19 162 i = I 162 i := fun i hi => (c3_I19 i hi).trans (show (qm_up I 163 (dd.toInt.toNat) v4) 162 i = I 162 i from hk_ot rfl)
                refine qm_Ru.go 4 (c' := (169, [.ref 118, .int mo, .int dd, .int v6, .int v7], [.int (dd + 1), .ref 118], (h.1, I19, J20, h.2.2.2))) rfl ?_
                obtain ⟨v21, q_v21, e_v21⟩ := hk_add (x := dd) (y := 1) (a := dd.toInt) (b := 1) rfl rfl (by omega) (by omega)
                rw [q_v21]
                refine qm_Ru.go 2 (c' := (172, [.ref 118, .int mo, .int dd, .int v6, .int v7], [.int v7, .int v6, .int v21, .ref 118], (h.1, I19, J20, h.2.2.2))) rfl ?_
                refine hk_inv (o := 118) (r := []) (as := [.ref 118, .int v21, .int v6, .int v7]) rfl rfl (hH.1 118 (17, 105) rfl) rfl rfl rfl rfl (hs_digsone (h := (h.1, I19, J20, h.2.2.2)) hH hB_I19 (dd := v21) (a := v6) (t := v7) (by omega) (by omega) (by omega) (by omega) (ha := v12.toInt) (hb := v17.toInt) (show lvl I19 (v21.toInt.toNat) (16 + v6.toInt.toNat) = v12.toInt from by show (I19 161 _).toInt = _; rw [show 20 * v21.toInt.toNat + (16 + v6.toInt.toNat) = 20 * dd.toInt.toNat + 20 + (16 + v6.toInt.toNat) from by omega, c1_I19 _ (by omega)]; exact la) (show lvl I19 (v21.toInt.toNat) (16 + v7.toInt.toNat) = v17.toInt from by show (I19 161 _).toInt = _; rw [show 20 * v21.toInt.toNat + (16 + v7.toInt.toNat) = 20 * dd.toInt.toNat + 20 + (16 + v7.toInt.toNat) from by omega, c1_I19 _ (by omega)]; exact lc) (by omega) (by omega) (by omega) (by omega) (fun I22 hB_I22 e_I22 lv_I22 o_I22 => ?_))
                have e_I22 : ∀ o, [161].contains o = false → ∀ i, I22 o i = I19 o i := e_I22
                have lg : lev (lvl I22 (v21.toInt.toNat)) (pI h.2.1 159) (I22 162 (v21.toInt.toNat)).toInt (h.2.1 118 61).toInt := by rw [lv_I22, show I22 162 (v21.toInt.toNat) = I 162 (dd.toInt.toNat) from (e_I22 162 rfl _).trans (by rw [show v21.toInt.toNat = dd.toInt.toNat + 1 from by omega]; exact c2_I19)]; exact lev_dig (lev_cg (hl (dd.toInt.toNat) (by omega)) (fun i hi => by show (I19 161 _).toInt = (I 161 _).toInt; rw [show 20 * v21.toInt.toNat + i = 20 * dd.toInt.toNat + 20 + i from by omega, c1_I19 i hi])) (by omega) (by omega) (by omega) (show lvl I19 (v21.toInt.toNat) (16 + v6.toInt.toNat) = v12.toInt from by show (I19 161 _).toInt = _; rw [show 20 * v21.toInt.toNat + (16 + v6.toInt.toNat) = 20 * dd.toInt.toNat + 20 + (16 + v6.toInt.toNat) from by omega, c1_I19 _ (by omega)]; exact la) (show lvl I19 (v21.toInt.toNat) (16 + v7.toInt.toNat) = v17.toInt from by show (I19 161 _).toInt = _; rw [show 20 * v21.toInt.toNat + (16 + v7.toInt.toNat) = 20 * dd.toInt.toNat + 20 + (16 + v7.toInt.toNat) from by omega, c1_I19 _ (by omega)]; exact lc) (by omega) (by omega) rfl
                refine qm_Ru.go 4 (c' := (179, [.ref 118, .int mo, .int dd, .int v6, .int v7], [.int (dd + 1), .ref 118], (h.1, I22, J20, h.2.2.2))) rfl ?_
                rw [q_v21]
                obtain ⟨v26, q_v26⟩ : ∃ v, h.2.1 118 61 = v := ⟨_, rfl⟩
                have b_v26 : (0 : Int) ≤ v26.toInt ∧ v26.toInt ≤ 12 := by rw [← q_v26]; exact hB 118 61
                refine hk_inv (o := 118) (r := []) (as := [.ref 118, .int v21]) rfl rfl (hH.1 118 (17, 105) rfl) rfl rfl rfl rfl (hs_serves (h := (h.1, I22, J20, h.2.2.2)) h6 hH hB_I22 (dd := v21) (by omega) (by show qdis (pI I22 159) (I22 118 61).toInt; rw [show pI I22 159 = pI h.2.1 159 from ((funext fun i => congrArg Int32.toInt (e_I22 159 rfl i)).trans ((funext fun i => congrArg Int32.toInt (e_I19 159 rfl i)).trans ((pI_sk rfl).trans ((funext fun i => congrArg Int32.toInt (e 159 rfl i)).trans rfl)))), show I22 118 61 = h.2.1 118 61 from ((show (I22) 118 61 = _ from ((e_I22 118 rfl 61).trans ((e_I19 118 rfl 61).trans ((hk_ot rfl).trans ((e8 61 (by decide)).trans q_v26)))))).trans q_v26.symm]; exact hd) (by show lev (lvl I22 (v21.toInt.toNat)) (pI I22 159) (I22 162 (v21.toInt.toNat)).toInt (I22 118 61).toInt; rw [show pI I22 159 = pI h.2.1 159 from ((funext fun i => congrArg Int32.toInt (e_I22 159 rfl i)).trans ((funext fun i => congrArg Int32.toInt (e_I19 159 rfl i)).trans ((pI_sk rfl).trans ((funext fun i => congrArg Int32.toInt (e 159 rfl i)).trans rfl)))), show I22 118 61 = h.2.1 118 61 from ((show (I22) 118 61 = _ from ((e_I22 118 rfl 61).trans ((e_I19 118 rfl 61).trans ((hk_ot rfl).trans ((e8 61 (by decide)).trans q_v26)))))).trans q_v26.symm]; exact lg) (fun I24 J25 hB_I24 e_I24 hl_I24 o_I24 hs_I24 _ _ _ => ?_))
                have e_I24 : ∀ o, [161, 162].contains o = false → ∀ i, I24 o i = I22 o i := e_I24
                have hl_I24 : lev (lvl I24 (v21.toInt.toNat)) (pI I22 159) (I24 162 (v21.toInt.toNat)).toInt (I22 118 61).toInt := hl_I24
                rw [show pI I22 159 = pI h.2.1 159 from ((funext fun i => congrArg Int32.toInt (e_I22 159 rfl i)).trans ((funext fun i => congrArg Int32.toInt (e_I19 159 rfl i)).trans ((pI_sk rfl).trans ((funext fun i => congrArg Int32.toInt (e 159 rfl i)).trans rfl)))), show I22 118 61 = h.2.1 118 61 from ((show (I22) 118 61 = _ from ((e_I22 118 rfl 61).trans ((e_I19 118 rfl 61).trans ((hk_ot rfl).trans ((e8 61 (by decide)).trans q_v26)))))).trans q_v26.symm] at hl_I24
                have lo9 : ∀ e9 : Nat, (e9 : Int) ≤ dd.toInt → lev (lvl I24 e9) (pI h.2.1 159) (I24 162 e9).toInt (h.2.1 118 61).toInt := fun e9 he => by rw [show I24 162 e9 = I 162 e9 from (hs_I24 e9 (by omega)).trans ((e_I22 162 rfl e9).trans (c3_I19 e9 (by omega)))]; exact lev_cg (hl e9 he) (fun i hi => congrArg Int32.toInt ((o_I24 _ (by omega)).trans ((o_I22 _ (by omega)).trans (co_I19 _ (by omega)))))
                refine qm_Ru.go 1 (c' := (183, [.ref 118, .int mo, .int dd, .int v6, .int v7], [.ref 118], (h.1, I24, J25, h.2.2.2))) rfl ?_
                refine hk_getr rfl (hH.1 118 (17, 105) rfl) rfl (hH.2 118 65 (some 162) rfl) ?_
                refine qm_Ru.go 3 (c' := (189, [.ref 118, .int mo, .int dd, .int v6, .int v7], [.int (dd + 1), .ref 162], (h.1, I24, J25, h.2.2.2))) rfl ?_
                rw [q_v21]
                obtain ⟨v28, q_v28⟩ : ∃ v, I24 162 (v21.toInt.toNat) = v := ⟨_, rfl⟩
                have b_v28 : (0 : Int) ≤ v28.toInt ∧ v28.toInt ≤ 12 := by rw [← q_v28]; exact hB_I24 162 (v21.toInt.toNat)
                refine hk_ial (v := v28) rfl (hH.1 162 (0, 6) rfl) (by omega) (by omega) q_v28 ?_
                refine qm_Ru.go 1 (c' := (191, [.ref 118, .int mo, .int dd, .int v6, .int v7], [.ref 118, .int v28], (h.1, I24, J25, h.2.2.2))) rfl ?_
                refine hk_geti (v := v26) rfl (hH.1 118 (17, 105) rfl) rfl (show (I24) 118 61 = _ from ((e_I24 118 rfl 61).trans ((e_I22 118 rfl 61).trans ((e_I19 118 rfl 61).trans ((hk_ot rfl).trans ((e8 61 (by decide)).trans q_v26)))))) ?_
                refine qm_Ru.go 0 (c' := (194, [.ref 118, .int mo, .int dd, .int v6, .int v7], [.int v26, .int v28], (h.1, I24, J25, h.2.2.2))) rfl ?_
                refine hk_cne (ix := v28.toInt) (iy := v26.toInt) rfl rfl rfl (fun z29 => ?_) (fun z29 => ?_)
                · refine qm_Ru.go 1 (c' := (209, [.ref 118, .int mo, .int (dd + 1), .int v6, .int v7], [], (h.1, I24, J25, h.2.2.2))) rfl ?_
                  rw [q_v21]
                  refine qm_Ru.go 1 (c' := (47, [.ref 118, .int mo, .int v21, .int v6, .int v7], [], (h.1, I24, J25, h.2.2.2))) rfl ?_
                  have ed : v21.toInt = dd.toInt + 1 := by omega
                  have et : pI I24 163 = fu_up (pI I 163) (dd.toInt.toNat) (pI I 163 (dd.toInt.toNat) + 1) := (funext fun i => congrArg Int32.toInt ((e_I24 163 rfl i).trans ((e_I22 163 rfl i).trans (e_I19 163 rfl i)))).trans (pI_up.trans (by rw [tx, show v4.toInt = v3.toInt + 1 from by omega]))
                  have ms := msr_in ht (by omega) (by omega) et (by omega)
                  exact ih _ (by rw [ed, ← hm]; exact ms.1) (I24) (J25) v21 (.int v6) (.int v7) hB_I24 (fun o ho i => ((e_I24 o (hk_ms rfl ho) i).trans ((e_I22 o (hk_ms rfl ho) i).trans ((e_I19 o (hk_ms rfl ho) i).trans ((hk_mod ho rfl).trans (e o ho i)))))) (fun i hi => ((e_I24 118 rfl i).trans ((e_I22 118 rfl i).trans ((e_I19 118 rfl i).trans ((hk_ot rfl).trans (e8 i hi)))))) (by omega) (by rw [ed]; exact ms.2) (fun _ => by show pI I24 163 _ = -1; rw [et, fu_ne (by omega)]; exact ht.2 _ (by omega) (by omega)) (fun e9 he => if c : e9 = v21.toInt.toNat then (by subst c; exact hl_I24) else lo9 e9 (by omega)) ((e_I24 118 rfl 69).trans ((e_I22 118 rfl 69).trans ((e_I19 118 rfl 69).trans ((hk_ot rfl).trans h69)))) rfl
                · refine qm_Ru.go 4 (c' := (201, [.ref 118, .int mo, .int dd, .int v6, .int v7], [.int (dd + 1), .ref 118], (h.1, I24, J25, h.2.2.2))) rfl ?_
                  rw [q_v21]
                  refine hk_puti rfl (hH.1 118 (17, 105) rfl) rfl ?_
                  refine qm_Ru.go 1 (c' := (205, [.ref 118, .int mo, .int dd, .int v6, .int v7], [.int 1], (h.1, qm_up I24 118 69 v21, J25, h.2.2.2))) rfl ?_
                  refine qm_Ru.rt (v := (some (.int 1))) (h' := (h.1, qm_up I24 118 69 v21, J25, h.2.2.2)) rfl ?_
                  exact k 1 (qm_up I24 118 69 v21) (J25) (by decide) (hb_up (o := 118) (k := 69) (x := v21) hB_I24 (qa_in_full _)) (fun o ho i => ((hk_mod ho rfl).trans ((e_I24 o (hk_ms rfl ho) i).trans ((e_I22 o (hk_ms rfl ho) i).trans ((e_I19 o (hk_ms rfl ho) i).trans ((hk_mod ho rfl).trans (e o ho i))))))) (fun i hi => ((hk_neq (by omega)).trans ((e_I24 118 rfl i).trans ((e_I22 118 rfl i).trans ((e_I19 118 rfl i).trans ((hk_ot rfl).trans (e8 i hi))))))) (fun _ => by rw [hk_same]; omega)
              · refine qm_Ru.go 1 (c' := (47, [.ref 118, .int mo, .int dd, .int v6, .int v7], [], (h.1, qm_up I 163 (dd.toInt.toNat) v4, J, h.2.2.2))) rfl ?_
                have et : pI (qm_up I 163 (dd.toInt.toNat) v4) 163 = fu_up (pI I 163) (dd.toInt.toNat) (pI I 163 (dd.toInt.toNat) + 1) := pI_up.trans (by rw [tx, show v4.toInt = v3.toInt + 1 from by omega])
                have ms := msr_on ht (by omega) (by omega) et (by omega)
                exact ih _ (by rw [← hm]; exact ms.1) (qm_up I 163 (dd.toInt.toNat) v4) (J) dd (.int v6) (.int v7) (hb_up (o := 163) (k := dd.toInt.toNat) (x := v4) hBI ⟨by show (-1 : Int) ≤ v4.toInt; omega, by show v4.toInt ≤ (16 : Int); omega⟩) (fun o ho i => ((hk_mod ho rfl).trans (e o ho i))) (fun i hi => ((hk_ot rfl).trans (e8 i hi))) (by omega) ms.2 (fun c => absurd c (by omega)) (fun e9 he => by rw [show lvl (qm_up I 163 (dd.toInt.toNat) v4) e9 = lvl I e9 from (lv_sk rfl), show ((qm_up I 163 (dd.toInt.toNat) v4) 162 e9) = I 162 e9 from (hk_ot rfl)]; exact hl e9 (by omega)) ((hk_ot rfl).trans h69) rfl
        · refine qm_Ru.go 1 (c' := (84, [.ref 118, .int mo, .int dd, l3, l4], [.ref 118], (h.1, qm_up I 163 (dd.toInt.toNat) v4, J, h.2.2.2))) rfl ?_
          refine hk_getr rfl (hH.1 118 (17, 105) rfl) rfl (hH.2 118 68 (some 163) rfl) ?_
          refine qm_Ru.go 2 (c' := (89, [.ref 118, .int mo, .int dd, l3, l4], [.int (-1), .int dd, .ref 163], (h.1, qm_up I 163 (dd.toInt.toNat) v4, J, h.2.2.2))) rfl ?_
          refine hk_ias rfl (hH.1 163 (0, 6) rfl) (by omega) (by omega) ?_
          refine qm_Ru.go 1 (c' := (93, [.ref 118, .int mo, .int (dd + (-1)), l3, l4], [], (h.1, qm_up (qm_up I 163 (dd.toInt.toNat) v4) 163 (dd.toInt.toNat) (-1), J, h.2.2.2))) rfl ?_
          obtain ⟨v32, q_v32, e_v32⟩ := hk_add (x := dd) (y := (-1)) (a := dd.toInt) (b := (-1)) rfl rfl (by omega) (by omega)
          rw [q_v32]
          refine qm_Ru.go 1 (c' := (47, [.ref 118, .int mo, .int v32, l3, l4], [], (h.1, qm_up (qm_up I 163 (dd.toInt.toNat) v4) 163 (dd.toInt.toNat) (-1), J, h.2.2.2))) rfl ?_
          have et : pI (qm_up (qm_up I 163 (dd.toInt.toNat) v4) 163 (dd.toInt.toNat) (-1)) 163 = fu_up (pI I 163) (dd.toInt.toNat) (-1) := pI_up.trans (by rw [pI_up, fu_fu]; rfl)
          have ms := msr_off ht (by omega) (by omega) et
          have ed : v32.toInt = dd.toInt - 1 := by omega
          exact ih _ (by rw [ed, ← hm]; exact ms.1) (qm_up (qm_up I 163 (dd.toInt.toNat) v4) 163 (dd.toInt.toNat) (-1)) (J) v32 l3 l4 (hb_up (o := 163) (k := dd.toInt.toNat) (x := (-1)) (hb_up (o := 163) (k := dd.toInt.toNat) (x := v4) hBI ⟨by show (-1 : Int) ≤ v4.toInt; omega, by show v4.toInt ≤ (16 : Int); omega⟩) ⟨(show (-1 : Int) ≤ -1 from by decide), (show (-1 : Int) ≤ 16 from by decide)⟩) (fun o ho i => ((hk_mod ho rfl).trans ((hk_mod ho rfl).trans (e o ho i)))) (fun i hi => ((hk_ot rfl).trans ((hk_ot rfl).trans (e8 i hi)))) (by omega) (by rw [ed]; exact ms.2) (fun c => absurd c (by omega)) (fun e9 he => by rw [show lvl (qm_up (qm_up I 163 (dd.toInt.toNat) v4) 163 (dd.toInt.toNat) (-1)) e9 = lvl I e9 from ((lv_sk rfl).trans (lv_sk rfl)), show ((qm_up (qm_up I 163 (dd.toInt.toNat) v4) 163 (dd.toInt.toNat) (-1)) 162 e9) = I 162 e9 from ((hk_ot rfl).trans (hk_ot rfl))]; exact hl e9 (by omega)) ((hk_ot rfl).trans ((hk_ot rfl).trans h69)) rfl
      · refine qm_Ru.go 1 (c' := (59, [.ref 118, .int mo, .int (dd + (-1)), l3, l4], [], (h.1, I, J, h.2.2.2))) rfl ?_
        obtain ⟨v33, q_v33, e_v33⟩ := hk_add (x := dd) (y := (-1)) (a := dd.toInt) (b := (-1)) rfl rfl (by omega) (by omega)
        rw [q_v33]
        refine qm_Ru.go 1 (c' := (47, [.ref 118, .int mo, .int v33, l3, l4], [], (h.1, I, J, h.2.2.2))) rfl ?_
        have t1 : (I 163 (dd.toInt.toNat)).toInt = -1 := hM (by omega)
        have ms := msr_up ht (by omega) (by omega)
        have ed : v33.toInt = dd.toInt - 1 := by omega
        exact ih _ (by rw [ed, ← hm]; exact ms) (I) (J) v33 l3 l4 hBI (fun o ho i => (e o ho i)) (fun i hi => (e8 i hi)) (by omega) ⟨ht.1, fun k hk hd9 => if c : k = dd.toInt.toNat then (by subst c; exact t1) else ht.2 k hk (by omega)⟩ (fun c => absurd c (by omega)) (fun e9 he => hl e9 (by omega)) h69 rfl
theorem hs_isserved {L : Nat} {xs : Nat → Int32} {d : Nat} {Z : Option Value → qm_H → Prop} {h : qm_H} (h6 : 6 ≤ L) (hH : hk_H h) (hB : hk_B h.2.1) {mo : Int32} (b_mo : (0 : Int) ≤ mo.toInt ∧ mo.toInt ≤ 5) (hd : qdis (pI h.2.1 159) (h.2.1 118 61).toInt) (hV : s_R h.2.1) (hq : ∀ q : Nat, (q : Int) < (h.2.1 118 61).toInt → pI h.2.1 150 (pI h.2.1 159 q).toNat = 2) (k : ∀ (v : Int32) (I : Nat → Nat → Int32) (J : Nat → Nat → Int64), (0 : Int) ≤ v.toInt ∧ v.toInt ≤ 1 → hk_B I → (∀ o, [118, 161, 162, 163].contains o = false → ∀ i, I o i = h.2.1 o i) → (∀ i, i < 69 → I 118 i = h.2.1 118 i) → ((0 ≤ (h.2.1 118 69).toInt ∧ (h.2.1 118 69).toInt ≤ 5) → 0 ≤ (I 118 69).toInt ∧ (I 118 69).toInt ≤ 5) → Z (some (.int v)) (h.1, I, J, h.2.2.2)) : qm_Ru (some (L, xs)) (d + 80) cd_341 (qm_ent 5 [.ref 118, .int mo] h) Z := by
  refine qm_Ru.go 1 (c' := (1, [.ref 118, .int mo, .float 0, .float 0, .float 0], [.ref 118], h)) rfl ?_
  refine hk_inv (o := 118) (r := []) (as := [.ref 118]) rfl rfl (hH.1 118 (17, 105) rfl) rfl rfl rfl rfl (hs_copies0 (h := h) h6 hH hB (fun I1 J2 hB_I1 e_I1 c1_I1 c2_I1 c3_I1 => ?_))
  have ly : lev (lvl I1 0) (pI h.2.1 159) 0 (h.2.1 118 61).toInt := lev_yard (I := h.2.1) hV hB hq (fun q => (hB 159 q).1) c1_I1 c2_I1
  refine qm_Ru.go 2 (c' := (6, [.ref 118, .int mo, .float 0, .float 0, .float 0], [.int 0, .ref 118], (h.1, I1, J2, h.2.2.2))) rfl ?_
  refine hk_inv (o := 118) (r := []) (as := [.ref 118, .int 0]) rfl rfl (hH.1 118 (17, 105) rfl) rfl rfl rfl rfl (hs_serves (h := (h.1, I1, J2, h.2.2.2)) h6 hH hB_I1 (dd := 0) ⟨by decide, by decide⟩ (by show qdis (pI I1 159) (I1 118 61).toInt; rw [show pI I1 159 = pI h.2.1 159 from funext fun i => congrArg Int32.toInt (e_I1 159 rfl i), show I1 118 61 = h.2.1 118 61 from e_I1 118 rfl 61]; exact hd) (by show lev (lvl I1 0) (pI I1 159) (I1 162 0).toInt (I1 118 61).toInt; rw [show pI I1 159 = pI h.2.1 159 from funext fun i => congrArg Int32.toInt (e_I1 159 rfl i), show I1 118 61 = h.2.1 118 61 from e_I1 118 rfl 61, c3_I1]; exact ly) (fun I3 J4 hB_I3 e_I3 hl_I3 _ _ _ _ _ => ?_))
  have hl_I3 : lev (lvl I3 0) (pI I1 159) (I3 162 0).toInt (I1 118 61).toInt := hl_I3
  rw [show pI I1 159 = pI h.2.1 159 from funext fun i => congrArg Int32.toInt (e_I1 159 rfl i), show I1 118 61 = h.2.1 118 61 from e_I1 118 rfl 61] at hl_I3
  refine qm_Ru.go 1 (c' := (10, [.ref 118, .int mo, .float 0, .float 0, .float 0], [.ref 118], (h.1, I3, J4, h.2.2.2))) rfl ?_
  refine hk_getr rfl (hH.1 118 (17, 105) rfl) rfl (hH.2 118 65 (some 162) rfl) ?_
  refine qm_Ru.go 1 (c' := (14, [.ref 118, .int mo, .float 0, .float 0, .float 0], [.int 0, .ref 162], (h.1, I3, J4, h.2.2.2))) rfl ?_
  obtain ⟨v5, q_v5⟩ : ∃ v, I3 162 0 = v := ⟨_, rfl⟩
  have b_v5 : (0 : Int) ≤ v5.toInt ∧ v5.toInt ≤ 12 := by rw [← q_v5]; exact hB_I3 162 0
  refine hk_ial (v := v5) rfl (hH.1 162 (0, 6) rfl) (by decide) (by decide) q_v5 ?_
  refine qm_Ru.go 1 (c' := (16, [.ref 118, .int mo, .float 0, .float 0, .float 0], [.ref 118, .int v5], (h.1, I3, J4, h.2.2.2))) rfl ?_
  obtain ⟨v6, q_v6⟩ : ∃ v, h.2.1 118 61 = v := ⟨_, rfl⟩
  have b_v6 : (0 : Int) ≤ v6.toInt ∧ v6.toInt ≤ 12 := by rw [← q_v6]; exact hB 118 61
  refine hk_geti (v := v6) rfl (hH.1 118 (17, 105) rfl) rfl (show (I3) 118 61 = _ from ((e_I3 118 rfl 61).trans ((e_I1 118 rfl 61).trans q_v6))) ?_
  refine qm_Ru.go 0 (c' := (19, [.ref 118, .int mo, .float 0, .float 0, .float 0], [.int v6, .int v5], (h.1, I3, J4, h.2.2.2))) rfl ?_
  refine hk_cne (ix := v5.toInt) (iy := v6.toInt) rfl rfl rfl (fun z7 => ?_) (fun z7 => ?_)
  · refine qm_Ru.go 8 (c' := (35, [.ref 118, .int mo, .int 0, .int 0, .float 0], [.ref 118], (h.1, I3, J4, h.2.2.2))) rfl ?_
    refine hk_getr rfl (hH.1 118 (17, 105) rfl) rfl (hH.2 118 68 (some 163) rfl) ?_
    refine qm_Ru.go 2 (c' := (40, [.ref 118, .int mo, .int 0, .int 0, .float 0], [.int (-1), .int 0, .ref 163], (h.1, I3, J4, h.2.2.2))) rfl ?_
    refine hk_ias rfl (hH.1 163 (0, 6) rfl) (by decide) (by decide) ?_
    refine qm_Ru.go 6 (c' := (35, [.ref 118, .int mo, .int 0, .int 1, .float 0], [.ref 118], (h.1, qm_up I3 163 0 (-1), J4, h.2.2.2))) rfl ?_
    refine hk_getr rfl (hH.1 118 (17, 105) rfl) rfl (hH.2 118 68 (some 163) rfl) ?_
    refine qm_Ru.go 2 (c' := (40, [.ref 118, .int mo, .int 0, .int 1, .float 0], [.int (-1), .int 1, .ref 163], (h.1, qm_up I3 163 0 (-1), J4, h.2.2.2))) rfl ?_
    refine hk_ias rfl (hH.1 163 (0, 6) rfl) (by decide) (by decide) ?_
    refine qm_Ru.go 6 (c' := (35, [.ref 118, .int mo, .int 0, .int 2, .float 0], [.ref 118], (h.1, qm_up (qm_up I3 163 0 (-1)) 163 1 (-1), J4, h.2.2.2))) rfl ?_
    refine hk_getr rfl (hH.1 118 (17, 105) rfl) rfl (hH.2 118 68 (some 163) rfl) ?_
    refine qm_Ru.go 2 (c' := (40, [.ref 118, .int mo, .int 0, .int 2, .float 0], [.int (-1), .int 2, .ref 163], (h.1, qm_up (qm_up I3 163 0 (-1)) 163 1 (-1), J4, h.2.2.2))) rfl ?_
    refine hk_ias rfl (hH.1 163 (0, 6) rfl) (by decide) (by decide) ?_
    refine qm_Ru.go 6 (c' := (35, [.ref 118, .int mo, .int 0, .int 3, .float 0], [.ref 118], (h.1, qm_up (qm_up (qm_up I3 163 0 (-1)) 163 1 (-1)) 163 2 (-1), J4, h.2.2.2))) rfl ?_
    refine hk_getr rfl (hH.1 118 (17, 105) rfl) rfl (hH.2 118 68 (some 163) rfl) ?_
    refine qm_Ru.go 2 (c' := (40, [.ref 118, .int mo, .int 0, .int 3, .float 0], [.int (-1), .int 3, .ref 163], (h.1, qm_up (qm_up (qm_up I3 163 0 (-1)) 163 1 (-1)) 163 2 (-1), J4, h.2.2.2))) rfl ?_
    refine hk_ias rfl (hH.1 163 (0, 6) rfl) (by decide) (by decide) ?_
    refine qm_Ru.go 6 (c' := (35, [.ref 118, .int mo, .int 0, .int 4, .float 0], [.ref 118], (h.1, qm_up (qm_up (qm_up (qm_up I3 163 0 (-1)) 163 1 (-1)) 163 2 (-1)) 163 3 (-1), J4, h.2.2.2))) rfl ?_
    refine hk_getr rfl (hH.1 118 (17, 105) rfl) rfl (hH.2 118 68 (some 163) rfl) ?_
    refine qm_Ru.go 2 (c' := (40, [.ref 118, .int mo, .int 0, .int 4, .float 0], [.int (-1), .int 4, .ref 163], (h.1, qm_up (qm_up (qm_up (qm_up I3 163 0 (-1)) 163 1 (-1)) 163 2 (-1)) 163 3 (-1), J4, h.2.2.2))) rfl ?_
    refine hk_ias rfl (hH.1 163 (0, 6) rfl) (by decide) (by decide) ?_
    refine qm_Ru.go 6 (c' := (35, [.ref 118, .int mo, .int 0, .int 5, .float 0], [.ref 118], (h.1, qm_up (qm_up (qm_up (qm_up (qm_up I3 163 0 (-1)) 163 1 (-1)) 163 2 (-1)) 163 3 (-1)) 163 4 (-1), J4, h.2.2.2))) rfl ?_
    refine hk_getr rfl (hH.1 118 (17, 105) rfl) rfl (hH.2 118 68 (some 163) rfl) ?_
    refine qm_Ru.go 2 (c' := (40, [.ref 118, .int mo, .int 0, .int 5, .float 0], [.int (-1), .int 5, .ref 163], (h.1, qm_up (qm_up (qm_up (qm_up (qm_up I3 163 0 (-1)) 163 1 (-1)) 163 2 (-1)) 163 3 (-1)) 163 4 (-1), J4, h.2.2.2))) rfl ?_
    refine hk_ias rfl (hH.1 163 (0, 6) rfl) (by decide) (by decide) ?_
    refine qm_Ru.go 5 (c' := (47, [.ref 118, .int mo, .int 0, .int 6, .float 0], [], (h.1, qm_up (qm_up (qm_up (qm_up (qm_up (qm_up I3 163 0 (-1)) 163 1 (-1)) 163 2 (-1)) 163 3 (-1)) 163 4 (-1)) 163 5 (-1), J4, h.2.2.2))) rfl ?_
    have ee : ∀ o, [118, 161, 162, 163].contains o = false → ∀ i, (qm_up (qm_up (qm_up (qm_up (qm_up (qm_up I3 163 0 (-1)) 163 1 (-1)) 163 2 (-1)) 163 3 (-1)) 163 4 (-1)) 163 5 (-1)) o i = h.2.1 o i := (fun o ho i => ((hk_mod ho rfl).trans ((hk_mod ho rfl).trans ((hk_mod ho rfl).trans ((hk_mod ho rfl).trans ((hk_mod ho rfl).trans ((hk_mod ho rfl).trans ((e_I3 o (hk_ms rfl ho) i).trans ((e_I1 o (hk_ms rfl ho) i).trans rfl)))))))))
    have ee8 : ∀ i, (qm_up (qm_up (qm_up (qm_up (qm_up (qm_up I3 163 0 (-1)) 163 1 (-1)) 163 2 (-1)) 163 3 (-1)) 163 4 (-1)) 163 5 (-1)) 118 i = h.2.1 118 i := fun i => ((hk_ot rfl).trans ((hk_ot rfl).trans ((hk_ot rfl).trans ((hk_ot rfl).trans ((hk_ot rfl).trans ((hk_ot rfl).trans ((e_I3 118 rfl i).trans (e_I1 118 rfl i))))))))
    have tt : ∀ k : Nat, k < 6 → pI (qm_up (qm_up (qm_up (qm_up (qm_up (qm_up I3 163 0 (-1)) 163 1 (-1)) 163 2 (-1)) 163 3 (-1)) 163 4 (-1)) 163 5 (-1)) 163 k = -1 := fun k hk => match k, hk with
        | 0, _ => (congrArg Int32.toInt ((hk_neq (by decide)).trans ((hk_neq (by decide)).trans ((hk_neq (by decide)).trans ((hk_neq (by decide)).trans ((hk_neq (by decide)).trans (hk_same)))))))
        | 1, _ => (congrArg Int32.toInt ((hk_neq (by decide)).trans ((hk_neq (by decide)).trans ((hk_neq (by decide)).trans ((hk_neq (by decide)).trans (hk_same))))))
        | 2, _ => (congrArg Int32.toInt ((hk_neq (by decide)).trans ((hk_neq (by decide)).trans ((hk_neq (by decide)).trans (hk_same)))))
        | 3, _ => (congrArg Int32.toInt ((hk_neq (by decide)).trans ((hk_neq (by decide)).trans (hk_same))))
        | 4, _ => (congrArg Int32.toInt ((hk_neq (by decide)).trans (hk_same)))
        | 5, _ => (congrArg Int32.toInt (hk_same))
        | n + 6, hk => absurd hk (by omega)
    refine hl_served (h := (h.1, qm_up (qm_up (qm_up (qm_up (qm_up (qm_up I3 163 0 (-1)) 163 1 (-1)) 163 2 (-1)) 163 3 (-1)) 163 4 (-1)) 163 5 (-1), J4, h.2.2.2)) h6 hH (hb_up (o := 163) (k := 5) (x := (-1)) (hb_up (o := 163) (k := 4) (x := (-1)) (hb_up (o := 163) (k := 3) (x := (-1)) (hb_up (o := 163) (k := 2) (x := (-1)) (hb_up (o := 163) (k := 1) (x := (-1)) (hb_up (o := 163) (k := 0) (x := (-1)) hB_I3 ⟨(show (-1 : Int) ≤ -1 from by decide), (show (-1 : Int) ≤ 16 from by decide)⟩) ⟨(show (-1 : Int) ≤ -1 from by decide), (show (-1 : Int) ≤ 16 from by decide)⟩) ⟨(show (-1 : Int) ≤ -1 from by decide), (show (-1 : Int) ≤ 16 from by decide)⟩) ⟨(show (-1 : Int) ≤ -1 from by decide), (show (-1 : Int) ≤ 16 from by decide)⟩) ⟨(show (-1 : Int) ≤ -1 from by decide), (show (-1 : Int) ≤ 16 from by decide)⟩) ⟨(show (-1 : Int) ≤ -1 from by decide), (show (-1 : Int) ≤ 16 from by decide)⟩) (mo := mo) b_mo (by show qdis (pI (qm_up (qm_up (qm_up (qm_up (qm_up (qm_up I3 163 0 (-1)) 163 1 (-1)) 163 2 (-1)) 163 3 (-1)) 163 4 (-1)) 163 5 (-1)) 159) ((qm_up (qm_up (qm_up (qm_up (qm_up (qm_up I3 163 0 (-1)) 163 1 (-1)) 163 2 (-1)) 163 3 (-1)) 163 4 (-1)) 163 5 (-1)) 118 61).toInt; rw [ee8 61, show pI (qm_up (qm_up (qm_up (qm_up (qm_up (qm_up I3 163 0 (-1)) 163 1 (-1)) 163 2 (-1)) 163 3 (-1)) 163 4 (-1)) 163 5 (-1)) 159 = pI h.2.1 159 from funext fun i => congrArg Int32.toInt (ee 159 rfl i)]; exact hd) (fun v I J bv hBI e e8 p69 => k v I J bv hBI (fun o ho i => (e o ho i).trans (ee o ho i)) (fun i hi => (e8 i hi).trans (ee8 i)) (by have g : (0 ≤ ((qm_up (qm_up (qm_up (qm_up (qm_up (qm_up I3 163 0 (-1)) 163 1 (-1)) 163 2 (-1)) 163 3 (-1)) 163 4 (-1)) 163 5 (-1)) 118 69).toInt ∧ ((qm_up (qm_up (qm_up (qm_up (qm_up (qm_up I3 163 0 (-1)) 163 1 (-1)) 163 2 (-1)) 163 3 (-1)) 163 4 (-1)) 163 5 (-1)) 118 69).toInt ≤ 5) → _ := p69; rw [ee8 69] at g; exact g)) _ (qm_up (qm_up (qm_up (qm_up (qm_up (qm_up I3 163 0 (-1)) 163 1 (-1)) 163 2 (-1)) 163 3 (-1)) 163 4 (-1)) 163 5 (-1)) (J4) 0 (.int 6) (.float 0) (hb_up (o := 163) (k := 5) (x := (-1)) (hb_up (o := 163) (k := 4) (x := (-1)) (hb_up (o := 163) (k := 3) (x := (-1)) (hb_up (o := 163) (k := 2) (x := (-1)) (hb_up (o := 163) (k := 1) (x := (-1)) (hb_up (o := 163) (k := 0) (x := (-1)) hB_I3 ⟨(show (-1 : Int) ≤ -1 from by decide), (show (-1 : Int) ≤ 16 from by decide)⟩) ⟨(show (-1 : Int) ≤ -1 from by decide), (show (-1 : Int) ≤ 16 from by decide)⟩) ⟨(show (-1 : Int) ≤ -1 from by decide), (show (-1 : Int) ≤ 16 from by decide)⟩) ⟨(show (-1 : Int) ≤ -1 from by decide), (show (-1 : Int) ≤ 16 from by decide)⟩) ⟨(show (-1 : Int) ≤ -1 from by decide), (show (-1 : Int) ≤ 16 from by decide)⟩) ⟨(show (-1 : Int) ≤ -1 from by decide), (show (-1 : Int) ≤ 16 from by decide)⟩) (fun _ _ _ => rfl) (fun _ _ => rfl) ⟨by decide, show (0 : Int) ≤ mo.toInt from b_mo.1⟩ ⟨fun k hk => by rw [tt k hk]; decide, fun k hk _ => tt k hk⟩ (fun _ => tt 0 (by decide)) (fun e9 he => ?_) rfl rfl
    have e90 : e9 = 0 := by have he : (e9 : Int) ≤ 0 := he; omega
    subst e90
    show lev (lvl (qm_up (qm_up (qm_up (qm_up (qm_up (qm_up I3 163 0 (-1)) 163 1 (-1)) 163 2 (-1)) 163 3 (-1)) 163 4 (-1)) 163 5 (-1)) 0) (pI (qm_up (qm_up (qm_up (qm_up (qm_up (qm_up I3 163 0 (-1)) 163 1 (-1)) 163 2 (-1)) 163 3 (-1)) 163 4 (-1)) 163 5 (-1)) 159) ((qm_up (qm_up (qm_up (qm_up (qm_up (qm_up I3 163 0 (-1)) 163 1 (-1)) 163 2 (-1)) 163 3 (-1)) 163 4 (-1)) 163 5 (-1)) 162 0).toInt ((qm_up (qm_up (qm_up (qm_up (qm_up (qm_up I3 163 0 (-1)) 163 1 (-1)) 163 2 (-1)) 163 3 (-1)) 163 4 (-1)) 163 5 (-1)) 118 61).toInt
    rw [ee8 61, show pI (qm_up (qm_up (qm_up (qm_up (qm_up (qm_up I3 163 0 (-1)) 163 1 (-1)) 163 2 (-1)) 163 3 (-1)) 163 4 (-1)) 163 5 (-1)) 159 = pI h.2.1 159 from funext fun i => congrArg Int32.toInt (ee 159 rfl i), show lvl (qm_up (qm_up (qm_up (qm_up (qm_up (qm_up I3 163 0 (-1)) 163 1 (-1)) 163 2 (-1)) 163 3 (-1)) 163 4 (-1)) 163 5 (-1)) 0 = lvl I3 0 from ((lv_sk rfl).trans ((lv_sk rfl).trans ((lv_sk rfl).trans ((lv_sk rfl).trans ((lv_sk rfl).trans (lv_sk rfl)))))), show (qm_up (qm_up (qm_up (qm_up (qm_up (qm_up I3 163 0 (-1)) 163 1 (-1)) 163 2 (-1)) 163 3 (-1)) 163 4 (-1)) 163 5 (-1)) 162 0 = I3 162 0 from ((hk_ot rfl).trans ((hk_ot rfl).trans ((hk_ot rfl).trans ((hk_ot rfl).trans ((hk_ot rfl).trans (hk_ot rfl))))))]
    exact hl_I3
  · refine qm_Ru.go 1 (c' := (23, [.ref 118, .int mo, .float 0, .float 0, .float 0], [.int 1], (h.1, I3, J4, h.2.2.2))) rfl ?_
    refine qm_Ru.rt (v := (some (.int 1))) (h' := (h.1, I3, J4, h.2.2.2)) rfl ?_
    exact k 1 (I3) (J4) (by decide) hB_I3 (fun o ho i => ((e_I3 o (hk_ms rfl ho) i).trans ((e_I1 o (hk_ms rfl ho) i).trans rfl))) (fun i hi => ((e_I3 118 rfl i).trans ((e_I1 118 rfl i).trans rfl))) (fun c => by rw [show I3 118 69 = h.2.1 118 69 from ((e_I3 118 rfl 69).trans (e_I1 118 rfl 69))]; exact c)
