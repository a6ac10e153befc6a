/-! contracts of the reference by hand -/
theorem hl_term {L : Nat} {xs : Nat → Int32} {d : Nat} {Z : Option Value → qm_H → Prop} {h : qm_H} (h6 : 6 ≤ L) (hH : hk_H h) (hB : hk_B h.2.1) {x1 x2 : Int32} (hx : 0 ≤ x1.toInt ∧ x1.toInt ≤ x2.toInt ∧ x2.toInt ≤ 840) (hS : pf_seg (pI h.2.1 141) (pI h.2.1 142) x1.toInt.toNat x2.toInt.toNat) (k : ∀ (v : Int32) (I : Nat → Nat → Int32) (J : Nat → Nat → Int64), hk_B I → (∀ o, [145].contains o = false → ∀ i, I o i = h.2.1 o i) → Z (some (.int v)) (h.1, I, J, h.2.2.2)) : ∀ (m : Nat) (I : Nat → Nat → Int32) (J : Nat → Nat → Int64) (c : Int32) (tp : Int32) (l5 l6 l7 : Value), hk_B I → (∀ o, [145].contains o = false → ∀ i, I o i = h.2.1 o i) → (x1.toInt ≤ c.toInt ∧ c.toInt ≤ x2.toInt) → (tp.toInt = ht (pI h.2.1 141) x1.toInt.toNat (c.toInt.toNat - x1.toInt.toNat)) → (x2.toInt - c.toInt).toNat = m → qm_Ru (some (L, xs)) (d + 20) cd_310 (5, [.ref 118, .int x1, .int x2, .int tp, .int c, l5, l6, l7], [], (h.1, I, J, h.2.2.2)) Z := by
  intro m
  induction m using Nat.strongRecOn with
  | ind m ih =>
    intro I J c tp l5 l6 l7 hBI e hc ht0 hm
    refine qm_Ru.go 2 (c' := (8, [.ref 118, .int x1, .int x2, .int tp, .int c, l5, l6, l7], [.int x2, .int c], (h.1, I, J, h.2.2.2))) rfl ?_
    refine hk_cge (ix := c.toInt) (iy := x2.toInt) rfl rfl rfl (fun z1 => ?_) (fun z1 => ?_)
    · refine qm_Ru.go 1 (c' := (134, [.ref 118, .int x1, .int x2, .int tp, .int c, l5, l6, l7], [.ref 118], (h.1, I, J, h.2.2.2))) rfl ?_
      refine hk_getr rfl (hH.1 118 (17, 105) rfl) rfl (hH.2 118 43 (some 145) rfl) ?_
      refine qm_Ru.go 1 (c' := (138, [.ref 118, .int x1, .int x2, .int tp, .int c, l5, l6, l7], [.int 0, .ref 145], (h.1, I, J, h.2.2.2))) rfl ?_
      obtain ⟨v2, q_v2⟩ : ∃ v, I 145 0 = v := ⟨_, rfl⟩
      refine hk_ial (v := v2) rfl (hH.1 145 (0, 400) rfl) (by decide) (by decide) q_v2 ?_
      refine qm_Ru.go 0 (c' := (139, [.ref 118, .int x1, .int x2, .int tp, .int c, l5, l6, l7], [.int v2], (h.1, I, J, h.2.2.2))) rfl ?_
      refine qm_Ru.rt (v := (some (.int v2))) (h' := (h.1, I, J, h.2.2.2)) rfl ?_
      exact k v2 I (J) hBI (fun o ho i => (e o ho i))
    · refine qm_Ru.go 1 (c' := (12, [.ref 118, .int x1, .int x2, .int tp, .int c, l5, l6, l7], [.ref 118], (h.1, I, J, h.2.2.2))) rfl ?_
      refine hk_getr rfl (hH.1 118 (17, 105) rfl) rfl (hH.2 118 38 (some 141) rfl) ?_
      refine qm_Ru.go 1 (c' := (17, [.ref 118, .int x1, .int x2, .int tp, .int c, l5, l6, l7], [.int c, .ref 141], (h.1, I, J, h.2.2.2))) rfl ?_
      obtain ⟨v3, q_v3⟩ : ∃ v, h.2.1 141 (c.toInt.toNat) = v := ⟨_, rfl⟩
      have b_v3 : (0 : Int) ≤ v3.toInt ∧ v3.toInt ≤ 4 := by rw [← q_v3]; exact hB 141 (c.toInt.toNat)
      refine hk_ial (v := v3) rfl (hH.1 141 (0, 840) rfl) (by omega) (by omega) (show (I) 141 (c.toInt.toNat) = _ from ((e 141 rfl (c.toInt.toNat)).trans q_v3)) ?_
      refine qm_Ru.go 0 (c' := (18, [.ref 118, .int x1, .int x2, .int tp, .int c, l5, l6, l7], [.int v3], (h.1, I, J, h.2.2.2))) rfl ?_
      obtain ⟨g1, g2, g3, g4, g5⟩ := pf_at hS (c := c.toInt.toNat) (by omega) (by omega) q_v3
      have h400 := hS.2.1
      refine qm_Ru.go 3 (c' := (23, [.ref 118, .int x1, .int x2, .int tp, .int c, .int v3, l6, l7], [.int 2, .int v3], (h.1, I, J, h.2.2.2))) rfl ?_
      refine hk_cge (ix := v3.toInt) (iy := 2) rfl rfl rfl (fun z4 => ?_) (fun z4 => ?_)
      · refine qm_Ru.go 0 (c' := (65, [.ref 118, .int x1, .int x2, .int tp, .int c, .int v3, l6, l7], [], (h.1, I, J, h.2.2.2))) rfl ?_
        have g2 := g2 (by omega)
        refine qm_Ru.go 1 (c' := (68, [.ref 118, .int x1, .int x2, .int (tp + (-1)), .int c, .int v3, l6, l7], [], (h.1, I, J, h.2.2.2))) rfl ?_
        obtain ⟨v5, q_v5, e_v5⟩ := hk_add (x := tp) (y := (-1)) (a := tp.toInt) (b := (-1)) rfl rfl (by omega) (by omega)
        rw [q_v5]
        refine qm_Ru.go 1 (c' := (69, [.ref 118, .int x1, .int x2, .int v5, .int c, .int v3, l6, l7], [.ref 118], (h.1, I, J, h.2.2.2))) rfl ?_
        refine hk_getr rfl (hH.1 118 (17, 105) rfl) rfl (hH.2 118 43 (some 145) rfl) ?_
        refine qm_Ru.go 3 (c' := (75, [.ref 118, .int x1, .int x2, .int v5, .int c, .int v3, l6, l7], [.int (v5 - 1), .ref 145], (h.1, I, J, h.2.2.2))) rfl ?_
        obtain ⟨v6, q_v6, e_v6⟩ := hk_sub (x := v5) (y := 1) (a := v5.toInt) (b := 1) rfl rfl (by omega) (by omega)
        rw [q_v6]
        obtain ⟨v7, q_v7⟩ : ∃ v, I 145 (v6.toInt.toNat) = v := ⟨_, rfl⟩
        refine hk_ial (v := v7) rfl (hH.1 145 (0, 400) rfl) (by omega) (by omega) q_v7 ?_
        refine qm_Ru.go 2 (c' := (79, [.ref 118, .int x1, .int x2, .int v5, .int c, .int v3, .int v7, l7], [.ref 118], (h.1, I, J, h.2.2.2))) rfl ?_
        refine hk_getr rfl (hH.1 118 (17, 105) rfl) rfl (hH.2 118 43 (some 145) rfl) ?_
        refine qm_Ru.go 1 (c' := (83, [.ref 118, .int x1, .int x2, .int v5, .int c, .int v3, .int v7, l7], [.int v5, .ref 145], (h.1, I, J, h.2.2.2))) rfl ?_
        obtain ⟨v8, q_v8⟩ : ∃ v, I 145 (v5.toInt.toNat) = v := ⟨_, rfl⟩
        refine hk_ial (v := v8) rfl (hH.1 145 (0, 400) rfl) (by omega) (by omega) q_v8 ?_
        refine qm_Ru.go 2 (c' := (87, [.ref 118, .int x1, .int x2, .int v5, .int c, .int v3, .int v7, .int v8], [.ref 118], (h.1, I, J, h.2.2.2))) rfl ?_
        refine hk_getr rfl (hH.1 118 (17, 105) rfl) rfl (hH.2 118 43 (some 145) rfl) ?_
        refine qm_Ru.go 3 (c' := (93, [.ref 118, .int x1, .int x2, .int v5, .int c, .int v3, .int v7, .int v8], [.int (v5 - 1), .ref 145], (h.1, I, J, h.2.2.2))) rfl ?_
        rw [q_v6]
        refine qm_Ru.go 2 (c' := (96, [.ref 118, .int x1, .int x2, .int v5, .int c, .int v3, .int v7, .int v8], [.int 2, .int v3, .int v6, .ref 145], (h.1, I, J, h.2.2.2))) rfl ?_
        refine hk_cne (ix := v3.toInt) (iy := 2) rfl rfl rfl (fun z10 => ?_) (fun z10 => ?_)
        · refine qm_Ru.go 2 (c' := (110, [.ref 118, .int x1, .int x2, .int v5, .int c, .int v3, .int v7, .int v8], [.int 3, .int v3, .int v6, .ref 145], (h.1, I, J, h.2.2.2))) rfl ?_
          refine hk_cne (ix := v3.toInt) (iy := 3) rfl rfl rfl (fun z11 => ?_) (fun z11 => ?_)
          · refine qm_Ru.go 3 (c' := (126, [.ref 118, .int x1, .int x2, .int v5, .int c, .int v3, .int v7, .int v8], [.int (v7 * v8), .int v6, .ref 145], (h.1, I, J, h.2.2.2))) rfl ?_
            obtain ⟨v12, q_v12⟩ : ∃ v, (v7 * v8) = v := ⟨_, rfl⟩
            rw [q_v12]
            refine hk_ias rfl (hH.1 145 (0, 400) rfl) (by omega) (by omega) ?_
            refine qm_Ru.go 1 (c' := (130, [.ref 118, .int x1, .int x2, .int v5, .int (c + 1), .int v3, .int v7, .int v8], [], (h.1, qm_up I 145 (v6.toInt.toNat) v12, J, h.2.2.2))) rfl ?_
            obtain ⟨v13, q_v13, e_v13⟩ := hk_add (x := c) (y := 1) (a := c.toInt) (b := 1) rfl rfl (by omega) (by omega)
            rw [q_v13]
            refine qm_Ru.go 1 (c' := (5, [.ref 118, .int x1, .int x2, .int v5, .int v13, .int v3, .int v7, .int v8], [], (h.1, qm_up I 145 (v6.toInt.toNat) v12, J, h.2.2.2))) rfl ?_
            exact ih _ (by omega) (qm_up I 145 (v6.toInt.toNat) v12) (J) v13 v5 (.int v3) (.int v7) (.int v8) (hb_up (o := 145) (k := v6.toInt.toNat) (x := v12) hBI (qa_in_full _)) (fun o ho i => ((hk_mod ho rfl).trans (e o ho i))) (by omega) (by rw [show v13.toInt.toNat - x1.toInt.toNat = c.toInt.toNat + 1 - x1.toInt.toNat from by omega, g5, if_neg (by omega)]; omega) rfl
          · refine qm_Ru.go 3 (c' := (118, [.ref 118, .int x1, .int x2, .int v5, .int c, .int v3, .int v7, .int v8], [.int (v7 - v8), .int v6, .ref 145], (h.1, I, J, h.2.2.2))) rfl ?_
            obtain ⟨v14, q_v14⟩ : ∃ v, (v7 - v8) = v := ⟨_, rfl⟩
            rw [q_v14]
            refine qm_Ru.go 1 (c' := (126, [.ref 118, .int x1, .int x2, .int v5, .int c, .int v3, .int v7, .int v8], [.int v14, .int v6, .ref 145], (h.1, I, J, h.2.2.2))) rfl ?_
            refine hk_ias rfl (hH.1 145 (0, 400) rfl) (by omega) (by omega) ?_
            refine qm_Ru.go 1 (c' := (130, [.ref 118, .int x1, .int x2, .int v5, .int (c + 1), .int v3, .int v7, .int v8], [], (h.1, qm_up I 145 (v6.toInt.toNat) v14, J, h.2.2.2))) rfl ?_
            obtain ⟨v15, q_v15, e_v15⟩ := hk_add (x := c) (y := 1) (a := c.toInt) (b := 1) rfl rfl (by omega) (by omega)
            rw [q_v15]
            refine qm_Ru.go 1 (c' := (5, [.ref 118, .int x1, .int x2, .int v5, .int v15, .int v3, .int v7, .int v8], [], (h.1, qm_up I 145 (v6.toInt.toNat) v14, J, h.2.2.2))) rfl ?_
            exact ih _ (by omega) (qm_up I 145 (v6.toInt.toNat) v14) (J) v15 v5 (.int v3) (.int v7) (.int v8) (hb_up (o := 145) (k := v6.toInt.toNat) (x := v14) hBI (qa_in_full _)) (fun o ho i => ((hk_mod ho rfl).trans (e o ho i))) (by omega) (by rw [show v15.toInt.toNat - x1.toInt.toNat = c.toInt.toNat + 1 - x1.toInt.toNat from by omega, g5, if_neg (by omega)]; omega) rfl
        · refine qm_Ru.go 3 (c' := (104, [.ref 118, .int x1, .int x2, .int v5, .int c, .int v3, .int v7, .int v8], [.int (v7 + v8), .int v6, .ref 145], (h.1, I, J, h.2.2.2))) rfl ?_
          obtain ⟨v16, q_v16⟩ : ∃ v, (v7 + v8) = v := ⟨_, rfl⟩
          rw [q_v16]
          refine qm_Ru.go 1 (c' := (126, [.ref 118, .int x1, .int x2, .int v5, .int c, .int v3, .int v7, .int v8], [.int v16, .int v6, .ref 145], (h.1, I, J, h.2.2.2))) rfl ?_
          refine hk_ias rfl (hH.1 145 (0, 400) rfl) (by omega) (by omega) ?_
          refine qm_Ru.go 1 (c' := (130, [.ref 118, .int x1, .int x2, .int v5, .int (c + 1), .int v3, .int v7, .int v8], [], (h.1, qm_up I 145 (v6.toInt.toNat) v16, J, h.2.2.2))) rfl ?_
          obtain ⟨v17, q_v17, e_v17⟩ := hk_add (x := c) (y := 1) (a := c.toInt) (b := 1) rfl rfl (by omega) (by omega)
          rw [q_v17]
          refine qm_Ru.go 1 (c' := (5, [.ref 118, .int x1, .int x2, .int v5, .int v17, .int v3, .int v7, .int v8], [], (h.1, qm_up I 145 (v6.toInt.toNat) v16, J, h.2.2.2))) rfl ?_
          exact ih _ (by omega) (qm_up I 145 (v6.toInt.toNat) v16) (J) v17 v5 (.int v3) (.int v7) (.int v8) (hb_up (o := 145) (k := v6.toInt.toNat) (x := v16) hBI (qa_in_full _)) (fun o ho i => ((hk_mod ho rfl).trans (e o ho i))) (by omega) (by rw [show v17.toInt.toNat - x1.toInt.toNat = c.toInt.toNat + 1 - x1.toInt.toNat from by omega, g5, if_neg (by omega)]; omega) rfl
      · refine qm_Ru.go 1 (c' := (27, [.ref 118, .int x1, .int x2, .int tp, .int c, .int v3, l6, l7], [.ref 118], (h.1, I, J, h.2.2.2))) rfl ?_
        refine hk_getr rfl (hH.1 118 (17, 105) rfl) rfl (hH.2 118 43 (some 145) rfl) ?_
        refine qm_Ru.go 2 (c' := (33, [.ref 118, .int x1, .int x2, .int tp, .int c, .int v3, l6, l7], [.int v3, .int tp, .ref 145], (h.1, I, J, h.2.2.2))) rfl ?_
        refine hk_zne (ix := v3.toInt) rfl rfl (fun z18 => ?_) (fun z18 => ?_)
        · refine qm_Ru.go 1 (c' := (47, [.ref 118, .int x1, .int x2, .int tp, .int c, .int v3, l6, l7], [.ref 118, .int tp, .ref 145], (h.1, I, J, h.2.2.2))) rfl ?_
          refine hk_getr rfl (hH.1 118 (17, 105) rfl) rfl (hH.2 118 42 (some 144) rfl) ?_
          refine qm_Ru.go 1 (c' := (51, [.ref 118, .int x1, .int x2, .int tp, .int c, .int v3, l6, l7], [.ref 118, .ref 144, .int tp, .ref 145], (h.1, I, J, h.2.2.2))) rfl ?_
          refine hk_getr rfl (hH.1 118 (17, 105) rfl) rfl (hH.2 118 39 (some 142) rfl) ?_
          refine qm_Ru.go 1 (c' := (56, [.ref 118, .int x1, .int x2, .int tp, .int c, .int v3, l6, l7], [.int c, .ref 142, .ref 144, .int tp, .ref 145], (h.1, I, J, h.2.2.2))) rfl ?_
          obtain ⟨v19, q_v19⟩ : ∃ v, h.2.1 142 (c.toInt.toNat) = v := ⟨_, rfl⟩
          refine hk_ial (v := v19) rfl (hH.1 142 (0, 840) rfl) (by omega) (by omega) (show (I) 142 (c.toInt.toNat) = _ from ((e 142 rfl (c.toInt.toNat)).trans q_v19)) ?_
          refine qm_Ru.go 0 (c' := (57, [.ref 118, .int x1, .int x2, .int tp, .int c, .int v3, l6, l7], [.int v19, .ref 144, .int tp, .ref 145], (h.1, I, J, h.2.2.2))) rfl ?_
          have g1 : 0 ≤ v19.toInt ∧ v19.toInt ≤ 12 := by rw [← q_v19]; exact g1 (by omega)
          obtain ⟨v20, q_v20⟩ : ∃ v, h.2.1 144 (v19.toInt.toNat) = v := ⟨_, rfl⟩
          refine hk_ial (v := v20) rfl (hH.1 144 (0, 13) rfl) (by omega) (by omega) (show (I) 144 (v19.toInt.toNat) = _ from ((e 144 rfl (v19.toInt.toNat)).trans q_v20)) ?_
          refine qm_Ru.go 0 (c' := (58, [.ref 118, .int x1, .int x2, .int tp, .int c, .int v3, l6, l7], [.int v20, .int tp, .ref 145], (h.1, I, J, h.2.2.2))) rfl ?_
          refine hk_ias rfl (hH.1 145 (0, 400) rfl) (by omega) (by omega) ?_
          refine qm_Ru.go 1 (c' := (62, [.ref 118, .int x1, .int x2, .int (tp + 1), .int c, .int v3, l6, l7], [], (h.1, qm_up I 145 (tp.toInt.toNat) v20, J, h.2.2.2))) rfl ?_
          obtain ⟨v21, q_v21, e_v21⟩ := hk_add (x := tp) (y := 1) (a := tp.toInt) (b := 1) rfl rfl (by omega) (by omega)
          rw [q_v21]
          refine qm_Ru.go 2 (c' := (130, [.ref 118, .int x1, .int x2, .int v21, .int (c + 1), .int v3, l6, l7], [], (h.1, qm_up I 145 (tp.toInt.toNat) v20, J, h.2.2.2))) rfl ?_
          obtain ⟨v22, q_v22, e_v22⟩ := hk_add (x := c) (y := 1) (a := c.toInt) (b := 1) rfl rfl (by omega) (by omega)
          rw [q_v22]
          refine qm_Ru.go 1 (c' := (5, [.ref 118, .int x1, .int x2, .int v21, .int v22, .int v3, l6, l7], [], (h.1, qm_up I 145 (tp.toInt.toNat) v20, J, h.2.2.2))) rfl ?_
          exact ih _ (by omega) (qm_up I 145 (tp.toInt.toNat) v20) (J) v22 v21 (.int v3) l6 l7 (hb_up (o := 145) (k := tp.toInt.toNat) (x := v20) hBI (qa_in_full _)) (fun o ho i => ((hk_mod ho rfl).trans (e o ho i))) (by omega) (by rw [show v22.toInt.toNat - x1.toInt.toNat = c.toInt.toNat + 1 - x1.toInt.toNat from by omega, g5, if_pos (by omega)]; omega) rfl
        · refine qm_Ru.go 1 (c' := (37, [.ref 118, .int x1, .int x2, .int tp, .int c, .int v3, l6, l7], [.ref 118, .int tp, .ref 145], (h.1, I, J, h.2.2.2))) rfl ?_
          refine hk_getr rfl (hH.1 118 (17, 105) rfl) rfl (hH.2 118 39 (some 142) rfl) ?_
          refine qm_Ru.go 1 (c' := (42, [.ref 118, .int x1, .int x2, .int tp, .int c, .int v3, l6, l7], [.int c, .ref 142, .int tp, .ref 145], (h.1, I, J, h.2.2.2))) rfl ?_
          obtain ⟨v23, q_v23⟩ : ∃ v, h.2.1 142 (c.toInt.toNat) = v := ⟨_, rfl⟩
          refine hk_ial (v := v23) rfl (hH.1 142 (0, 840) rfl) (by omega) (by omega) (show (I) 142 (c.toInt.toNat) = _ from ((e 142 rfl (c.toInt.toNat)).trans q_v23)) ?_
          refine qm_Ru.go 1 (c' := (58, [.ref 118, .int x1, .int x2, .int tp, .int c, .int v3, l6, l7], [.int v23, .int tp, .ref 145], (h.1, I, J, h.2.2.2))) rfl ?_
          refine hk_ias rfl (hH.1 145 (0, 400) rfl) (by omega) (by omega) ?_
          refine qm_Ru.go 1 (c' := (62, [.ref 118, .int x1, .int x2, .int (tp + 1), .int c, .int v3, l6, l7], [], (h.1, qm_up I 145 (tp.toInt.toNat) v23, J, h.2.2.2))) rfl ?_
          obtain ⟨v24, q_v24, e_v24⟩ := hk_add (x := tp) (y := 1) (a := tp.toInt) (b := 1) rfl rfl (by omega) (by omega)
          rw [q_v24]
          refine qm_Ru.go 2 (c' := (130, [.ref 118, .int x1, .int x2, .int v24, .int (c + 1), .int v3, l6, l7], [], (h.1, qm_up I 145 (tp.toInt.toNat) v23, J, h.2.2.2))) rfl ?_
          obtain ⟨v25, q_v25, e_v25⟩ := hk_add (x := c) (y := 1) (a := c.toInt) (b := 1) rfl rfl (by omega) (by omega)
          rw [q_v25]
          refine qm_Ru.go 1 (c' := (5, [.ref 118, .int x1, .int x2, .int v24, .int v25, .int v3, l6, l7], [], (h.1, qm_up I 145 (tp.toInt.toNat) v23, J, h.2.2.2))) rfl ?_
          exact ih _ (by omega) (qm_up I 145 (tp.toInt.toNat) v23) (J) v25 v24 (.int v3) l6 l7 (hb_up (o := 145) (k := tp.toInt.toNat) (x := v23) hBI (qa_in_full _)) (fun o ho i => ((hk_mod ho rfl).trans (e o ho i))) (by omega) (by rw [show v25.toInt.toNat - x1.toInt.toNat = c.toInt.toNat + 1 - x1.toInt.toNat from by omega, g5, if_pos (by omega)]; omega) rfl
theorem hs_term {L : Nat} {xs : Nat → Int32} {d : Nat} {Z : Option Value → qm_H → Prop} {h : qm_H} (h6 : 6 ≤ L) (hH : hk_H h) (hB : hk_B h.2.1) {x1 x2 : Int32} (hx : 0 ≤ x1.toInt ∧ x1.toInt ≤ x2.toInt ∧ x2.toInt ≤ 840) (hS : pf_seg (pI h.2.1 141) (pI h.2.1 142) x1.toInt.toNat x2.toInt.toNat) (k : ∀ (v : Int32) (I : Nat → Nat → Int32) (J : Nat → Nat → Int64), hk_B I → (∀ o, [145].contains o = false → ∀ i, I o i = h.2.1 o i) → Z (some (.int v)) (h.1, I, J, h.2.2.2)) : qm_Ru (some (L, xs)) (d + 20) cd_310 (qm_ent 8 [.ref 118, .int x1, .int x2] h) Z := by
  refine qm_Ru.go 4 (c' := (5, [.ref 118, .int x1, .int x2, .int 0, .int x1, .float 0, .float 0, .float 0], [], h)) rfl ?_
  exact hl_term h6 hH hB hx hS k _ h.2.1 h.2.2.1 x1 0 _ _ _ hB (fun _ _ _ => rfl) (by omega) (by rw [Nat.sub_self]; rfl) rfl
