/-! contracts of the reference by hand -/
theorem hc_rbox : hk_ct v_Q (fun _ => True) (fun as I => ∃ w p s : Int32, as = [.ref 118, .int w, .int p, .int s] ∧ qa_in (-2147483648, 2147483647) w ∧ qa_in (-2147483648, 2147483647) p ∧ qa_in (-2147483648, 2147483647) s) 269 (some (-1, 29)) [118, 146, 147, 148, 149, 150, 151, 152, 153, 154, 155, 156] 20 := by
  intro L xs d Z h as h6 hH hT hB hV hp hd k
  obtain ⟨w, p, s, rfl, c_w, c_p, c_s⟩ := hp
  obtain ⟨d, rfl⟩ : ∃ e, d = e + 20 := ⟨d - 20, by omega⟩
  have b_w : (-2147483648 : Int) ≤ w.toInt ∧ w.toInt ≤ 2147483647 := c_w
  have b_p : (-2147483648 : Int) ≤ p.toInt ∧ p.toInt ≤ 2147483647 := c_p
  have b_s : (-2147483648 : Int) ≤ s.toInt ∧ s.toInt ≤ 2147483647 := c_s
  show qm_Ru (some (L, xs)) (d + 20) cd_269 (qm_ent 4 [.ref 118, .int w, .int p, .int s] h) Z
  refine qm_Ru.go 1 (c' := (1, [.ref 118, .int w, .int p, .int s], [.ref 118], h)) rfl ?_
  obtain ⟨v1, q_v1⟩ : ∃ v, h.2.1 118 44 = v := ⟨_, rfl⟩
  have b_v1 : (0 : Int) ≤ v1.toInt ∧ v1.toInt ≤ 30 := by rw [← q_v1]; exact hB 118 44
  refine hk_geti (v := v1) rfl (hH.1 118 (17, 105) rfl) rfl q_v1 ?_
  refine qm_Ru.go 1 (c' := (6, [.ref 118, .int w, .int p, .int s], [.int 30, .int v1], h)) rfl ?_
  refine hk_ceq (ix := v1.toInt) (iy := 30) rfl rfl rfl (fun z2 => ?_) (fun z2 => ?_)
  · refine qm_Ru.go 1 (c' := (38, [.ref 118, .int w, .int p, .int s], [.int (-1)], h)) rfl ?_
    refine qm_Ru.rt (v := (some (.int (-1)))) (h' := h) rfl ?_
    exact k (some (.int (-1))) (h.2.1) (h.2.2.1) ⟨_, rfl, ⟨by decide, by decide⟩⟩ hB hV (fun _ _ _ => rfl)
  · refine qm_Ru.go 3 (c' := (13, [.ref 118, .int w, .int p, .int s], [.int 40, .int 1, .int w], h)) rfl ?_
    refine qm_Ru.call (j := 270) (as := [.int w, .int 1, .int 40]) (c' := (16, [.ref 118, .int w, .int p, .int s], [], h)) rfl rfl rfl ?_
    refine qm_Ru.go 2 (c' := (2, [.int w, .int 1, .int 40], [.int 1, .int w], h)) rfl ?_
    refine hk_clt (ix := w.toInt) (iy := 1) rfl rfl rfl (fun z3 => ?_) (fun z3 => ?_)
    · refine qm_Ru.go 1 (c' := (15, [.int w, .int 1, .int 40], [.int 0], h)) rfl ?_
      refine qm_Ru.rt (v := (some (.int 0))) (h' := h) rfl ?_
      refine qm_Ru.go 2 (c' := (38, [.ref 118, .int w, .int p, .int s], [.int (-1)], h)) rfl ?_
      refine qm_Ru.rt (v := (some (.int (-1)))) (h' := h) rfl ?_
      exact k (some (.int (-1))) (h.2.1) (h.2.2.1) ⟨_, rfl, ⟨by decide, by decide⟩⟩ hB hV (fun _ _ _ => rfl)
    · refine qm_Ru.go 2 (c' := (7, [.int w, .int 1, .int 40], [.int 40, .int w], h)) rfl ?_
      refine hk_cgt (ix := w.toInt) (iy := 40) rfl rfl rfl (fun z4 => ?_) (fun z4 => ?_)
      · refine qm_Ru.go 1 (c' := (15, [.int w, .int 1, .int 40], [.int 0], h)) rfl ?_
        refine qm_Ru.rt (v := (some (.int 0))) (h' := h) rfl ?_
        refine qm_Ru.go 2 (c' := (38, [.ref 118, .int w, .int p, .int s], [.int (-1)], h)) rfl ?_
        refine qm_Ru.rt (v := (some (.int (-1)))) (h' := h) rfl ?_
        exact k (some (.int (-1))) (h.2.1) (h.2.2.1) ⟨_, rfl, ⟨by decide, by decide⟩⟩ hB hV (fun _ _ _ => rfl)
      · refine qm_Ru.go 2 (c' := (15, [.int w, .int 1, .int 40], [.int 1], h)) rfl ?_
        refine qm_Ru.rt (v := (some (.int 1))) (h' := h) rfl ?_
        refine qm_Ru.go 4 (c' := (22, [.ref 118, .int w, .int p, .int s], [.int 4, .int 0, .int p], h)) rfl ?_
        refine qm_Ru.call (j := 270) (as := [.int p, .int 0, .int 4]) (c' := (25, [.ref 118, .int w, .int p, .int s], [], h)) rfl rfl rfl ?_
        refine qm_Ru.go 2 (c' := (2, [.int p, .int 0, .int 4], [.int 0, .int p], h)) rfl ?_
        refine hk_clt (ix := p.toInt) (iy := 0) rfl rfl rfl (fun z5 => ?_) (fun z5 => ?_)
        · refine qm_Ru.go 1 (c' := (15, [.int p, .int 0, .int 4], [.int 0], h)) rfl ?_
          refine qm_Ru.rt (v := (some (.int 0))) (h' := h) rfl ?_
          refine qm_Ru.go 2 (c' := (38, [.ref 118, .int w, .int p, .int s], [.int (-1)], h)) rfl ?_
          refine qm_Ru.rt (v := (some (.int (-1)))) (h' := h) rfl ?_
          exact k (some (.int (-1))) (h.2.1) (h.2.2.1) ⟨_, rfl, ⟨by decide, by decide⟩⟩ hB hV (fun _ _ _ => rfl)
        · refine qm_Ru.go 2 (c' := (7, [.int p, .int 0, .int 4], [.int 4, .int p], h)) rfl ?_
          refine hk_cgt (ix := p.toInt) (iy := 4) rfl rfl rfl (fun z6 => ?_) (fun z6 => ?_)
          · refine qm_Ru.go 1 (c' := (15, [.int p, .int 0, .int 4], [.int 0], h)) rfl ?_
            refine qm_Ru.rt (v := (some (.int 0))) (h' := h) rfl ?_
            refine qm_Ru.go 2 (c' := (38, [.ref 118, .int w, .int p, .int s], [.int (-1)], h)) rfl ?_
            refine qm_Ru.rt (v := (some (.int (-1)))) (h' := h) rfl ?_
            exact k (some (.int (-1))) (h.2.1) (h.2.2.1) ⟨_, rfl, ⟨by decide, by decide⟩⟩ hB hV (fun _ _ _ => rfl)
          · refine qm_Ru.go 2 (c' := (15, [.int p, .int 0, .int 4], [.int 1], h)) rfl ?_
            refine qm_Ru.rt (v := (some (.int 1))) (h' := h) rfl ?_
            refine qm_Ru.go 4 (c' := (31, [.ref 118, .int w, .int p, .int s], [.int 5, .int 0, .int s], h)) rfl ?_
            refine qm_Ru.call (j := 270) (as := [.int s, .int 0, .int 5]) (c' := (34, [.ref 118, .int w, .int p, .int s], [], h)) rfl rfl rfl ?_
            refine qm_Ru.go 2 (c' := (2, [.int s, .int 0, .int 5], [.int 0, .int s], h)) rfl ?_
            refine hk_clt (ix := s.toInt) (iy := 0) rfl rfl rfl (fun z7 => ?_) (fun z7 => ?_)
            · refine qm_Ru.go 1 (c' := (15, [.int s, .int 0, .int 5], [.int 0], h)) rfl ?_
              refine qm_Ru.rt (v := (some (.int 0))) (h' := h) rfl ?_
              refine qm_Ru.go 2 (c' := (38, [.ref 118, .int w, .int p, .int s], [.int (-1)], h)) rfl ?_
              refine qm_Ru.rt (v := (some (.int (-1)))) (h' := h) rfl ?_
              exact k (some (.int (-1))) (h.2.1) (h.2.2.1) ⟨_, rfl, ⟨by decide, by decide⟩⟩ hB hV (fun _ _ _ => rfl)
            · refine qm_Ru.go 2 (c' := (7, [.int s, .int 0, .int 5], [.int 5, .int s], h)) rfl ?_
              refine hk_cgt (ix := s.toInt) (iy := 5) rfl rfl rfl (fun z8 => ?_) (fun z8 => ?_)
              · refine qm_Ru.go 1 (c' := (15, [.int s, .int 0, .int 5], [.int 0], h)) rfl ?_
                refine qm_Ru.rt (v := (some (.int 0))) (h' := h) rfl ?_
                refine qm_Ru.go 2 (c' := (38, [.ref 118, .int w, .int p, .int s], [.int (-1)], h)) rfl ?_
                refine qm_Ru.rt (v := (some (.int (-1)))) (h' := h) rfl ?_
                exact k (some (.int (-1))) (h.2.1) (h.2.2.1) ⟨_, rfl, ⟨by decide, by decide⟩⟩ hB hV (fun _ _ _ => rfl)
              · refine qm_Ru.go 2 (c' := (15, [.int s, .int 0, .int 5], [.int 1], h)) rfl ?_
                refine qm_Ru.rt (v := (some (.int 1))) (h' := h) rfl ?_
                refine qm_Ru.go 2 (c' := (40, [.ref 118, .int w, .int p, .int s], [.ref 118], h)) rfl ?_
                refine hk_getr rfl (hH.1 118 (17, 105) rfl) rfl (hH.2 118 45 (some 146) rfl) ?_
                refine qm_Ru.go 1 (c' := (44, [.ref 118, .int w, .int p, .int s], [.ref 118, .ref 146], h)) rfl ?_
                refine hk_geti (v := v1) rfl (hH.1 118 (17, 105) rfl) rfl q_v1 ?_
                refine qm_Ru.go 1 (c' := (48, [.ref 118, .int w, .int p, .int s], [.int w, .int v1, .ref 146], h)) rfl ?_
                refine hk_ias rfl (hH.1 146 (0, 30) rfl) (by omega) (by omega) ?_
                refine qm_Ru.go 1 (c' := (50, [.ref 118, .int w, .int p, .int s], [.ref 118], (h.1, qm_up h.2.1 146 (v1.toInt.toNat) w, h.2.2.1, h.2.2.2))) rfl ?_
                refine hk_getr rfl (hH.1 118 (17, 105) rfl) rfl (hH.2 118 46 (some 147) rfl) ?_
                refine qm_Ru.go 1 (c' := (54, [.ref 118, .int w, .int p, .int s], [.ref 118, .ref 147], (h.1, qm_up h.2.1 146 (v1.toInt.toNat) w, h.2.2.1, h.2.2.2))) rfl ?_
                refine hk_geti (v := v1) rfl (hH.1 118 (17, 105) rfl) rfl (show (qm_up h.2.1 146 (v1.toInt.toNat) w) 118 44 = _ from ((hk_ot rfl).trans q_v1)) ?_
                refine qm_Ru.go 1 (c' := (58, [.ref 118, .int w, .int p, .int s], [.int p, .int v1, .ref 147], (h.1, qm_up h.2.1 146 (v1.toInt.toNat) w, h.2.2.1, h.2.2.2))) rfl ?_
                refine hk_ias rfl (hH.1 147 (0, 30) rfl) (by omega) (by omega) ?_
                refine qm_Ru.go 1 (c' := (60, [.ref 118, .int w, .int p, .int s], [.ref 118], (h.1, qm_up (qm_up h.2.1 146 (v1.toInt.toNat) w) 147 (v1.toInt.toNat) p, h.2.2.1, h.2.2.2))) rfl ?_
                refine hk_getr rfl (hH.1 118 (17, 105) rfl) rfl (hH.2 118 47 (some 148) rfl) ?_
                refine qm_Ru.go 1 (c' := (64, [.ref 118, .int w, .int p, .int s], [.ref 118, .ref 148], (h.1, qm_up (qm_up h.2.1 146 (v1.toInt.toNat) w) 147 (v1.toInt.toNat) p, h.2.2.1, h.2.2.2))) rfl ?_
                refine hk_geti (v := v1) rfl (hH.1 118 (17, 105) rfl) rfl (show (qm_up (qm_up h.2.1 146 (v1.toInt.toNat) w) 147 (v1.toInt.toNat) p) 118 44 = _ from ((hk_ot rfl).trans ((hk_ot rfl).trans q_v1))) ?_
                refine qm_Ru.go 1 (c' := (68, [.ref 118, .int w, .int p, .int s], [.int s, .int v1, .ref 148], (h.1, qm_up (qm_up h.2.1 146 (v1.toInt.toNat) w) 147 (v1.toInt.toNat) p, h.2.2.1, h.2.2.2))) rfl ?_
                refine hk_ias rfl (hH.1 148 (0, 30) rfl) (by omega) (by omega) ?_
                refine qm_Ru.go 1 (c' := (70, [.ref 118, .int w, .int p, .int s], [.ref 118], (h.1, qm_up (qm_up (qm_up h.2.1 146 (v1.toInt.toNat) w) 147 (v1.toInt.toNat) p) 148 (v1.toInt.toNat) s, h.2.2.1, h.2.2.2))) rfl ?_
                refine hk_getr rfl (hH.1 118 (17, 105) rfl) rfl (hH.2 118 48 (some 149) rfl) ?_
                refine qm_Ru.go 1 (c' := (74, [.ref 118, .int w, .int p, .int s], [.ref 118, .ref 149], (h.1, qm_up (qm_up (qm_up h.2.1 146 (v1.toInt.toNat) w) 147 (v1.toInt.toNat) p) 148 (v1.toInt.toNat) s, h.2.2.1, h.2.2.2))) rfl ?_
                refine hk_geti (v := v1) rfl (hH.1 118 (17, 105) rfl) rfl (show (qm_up (qm_up (qm_up h.2.1 146 (v1.toInt.toNat) w) 147 (v1.toInt.toNat) p) 148 (v1.toInt.toNat) s) 118 44 = _ from ((hk_ot rfl).trans ((hk_ot rfl).trans ((hk_ot rfl).trans q_v1)))) ?_
                refine qm_Ru.go 1 (c' := (78, [.ref 118, .int w, .int p, .int s], [.int 0, .int v1, .ref 149], (h.1, qm_up (qm_up (qm_up h.2.1 146 (v1.toInt.toNat) w) 147 (v1.toInt.toNat) p) 148 (v1.toInt.toNat) s, h.2.2.1, h.2.2.2))) rfl ?_
                refine hk_bas rfl (hH.1 149 (2, 30) rfl) (by omega) (by omega) rfl ?_
                refine qm_Ru.go 1 (c' := (80, [.ref 118, .int w, .int p, .int s], [.ref 118], (h.1, qm_up (qm_up (qm_up (qm_up h.2.1 146 (v1.toInt.toNat) w) 147 (v1.toInt.toNat) p) 148 (v1.toInt.toNat) s) 149 (v1.toInt.toNat) 0, h.2.2.1, h.2.2.2))) rfl ?_
                refine hk_getr rfl (hH.1 118 (17, 105) rfl) rfl (hH.2 118 49 (some 150) rfl) ?_
                refine qm_Ru.go 1 (c' := (84, [.ref 118, .int w, .int p, .int s], [.ref 118, .ref 150], (h.1, qm_up (qm_up (qm_up (qm_up h.2.1 146 (v1.toInt.toNat) w) 147 (v1.toInt.toNat) p) 148 (v1.toInt.toNat) s) 149 (v1.toInt.toNat) 0, h.2.2.1, h.2.2.2))) rfl ?_
                refine hk_geti (v := v1) rfl (hH.1 118 (17, 105) rfl) rfl (show (qm_up (qm_up (qm_up (qm_up h.2.1 146 (v1.toInt.toNat) w) 147 (v1.toInt.toNat) p) 148 (v1.toInt.toNat) s) 149 (v1.toInt.toNat) 0) 118 44 = _ from ((hk_ot rfl).trans ((hk_ot rfl).trans ((hk_ot rfl).trans ((hk_ot rfl).trans q_v1))))) ?_
                refine qm_Ru.go 1 (c' := (88, [.ref 118, .int w, .int p, .int s], [.int 0, .int v1, .ref 150], (h.1, qm_up (qm_up (qm_up (qm_up h.2.1 146 (v1.toInt.toNat) w) 147 (v1.toInt.toNat) p) 148 (v1.toInt.toNat) s) 149 (v1.toInt.toNat) 0, h.2.2.1, h.2.2.2))) rfl ?_
                refine hk_ias rfl (hH.1 150 (0, 30) rfl) (by omega) (by omega) ?_
                refine qm_Ru.go 2 (c' := (91, [.ref 118, .int w, .int p, .int s], [.ref 118, .ref 118], (h.1, qm_up (qm_up (qm_up (qm_up (qm_up h.2.1 146 (v1.toInt.toNat) w) 147 (v1.toInt.toNat) p) 148 (v1.toInt.toNat) s) 149 (v1.toInt.toNat) 0) 150 (v1.toInt.toNat) 0, h.2.2.1, h.2.2.2))) rfl ?_
                refine hk_geti (v := v1) rfl (hH.1 118 (17, 105) rfl) rfl (show (qm_up (qm_up (qm_up (qm_up (qm_up h.2.1 146 (v1.toInt.toNat) w) 147 (v1.toInt.toNat) p) 148 (v1.toInt.toNat) s) 149 (v1.toInt.toNat) 0) 150 (v1.toInt.toNat) 0) 118 44 = _ from ((hk_ot rfl).trans ((hk_ot rfl).trans ((hk_ot rfl).trans ((hk_ot rfl).trans ((hk_ot rfl).trans q_v1)))))) ?_
                refine qm_Ru.go 2 (c' := (96, [.ref 118, .int w, .int p, .int s], [.int (v1 + 1), .ref 118], (h.1, qm_up (qm_up (qm_up (qm_up (qm_up h.2.1 146 (v1.toInt.toNat) w) 147 (v1.toInt.toNat) p) 148 (v1.toInt.toNat) s) 149 (v1.toInt.toNat) 0) 150 (v1.toInt.toNat) 0, h.2.2.1, h.2.2.2))) rfl ?_
                obtain ⟨v9, q_v9, e_v9⟩ := hk_add (x := v1) (y := 1) (a := v1.toInt) (b := 1) rfl rfl (by omega) (by omega)
                rw [q_v9]
                refine hk_puti rfl (hH.1 118 (17, 105) rfl) rfl ?_
                refine qm_Ru.go 1 (c' := (100, [.ref 118, .int w, .int p, .int s], [.ref 118], (h.1, qm_up (qm_up (qm_up (qm_up (qm_up (qm_up h.2.1 146 (v1.toInt.toNat) w) 147 (v1.toInt.toNat) p) 148 (v1.toInt.toNat) s) 149 (v1.toInt.toNat) 0) 150 (v1.toInt.toNat) 0) 118 44 v9, h.2.2.1, h.2.2.2))) rfl ?_
                refine hk_geti (v := v9) rfl (hH.1 118 (17, 105) rfl) rfl (show (qm_up (qm_up (qm_up (qm_up (qm_up (qm_up h.2.1 146 (v1.toInt.toNat) w) 147 (v1.toInt.toNat) p) 148 (v1.toInt.toNat) s) 149 (v1.toInt.toNat) 0) 150 (v1.toInt.toNat) 0) 118 44 v9) 118 44 = _ from (hk_same)) ?_
                refine qm_Ru.go 2 (c' := (105, [.ref 118, .int w, .int p, .int s], [.int (v9 - 1)], (h.1, qm_up (qm_up (qm_up (qm_up (qm_up (qm_up h.2.1 146 (v1.toInt.toNat) w) 147 (v1.toInt.toNat) p) 148 (v1.toInt.toNat) s) 149 (v1.toInt.toNat) 0) 150 (v1.toInt.toNat) 0) 118 44 v9, h.2.2.1, h.2.2.2))) rfl ?_
                obtain ⟨v10, q_v10, e_v10⟩ := hk_sub (x := v9) (y := 1) (a := v9.toInt) (b := 1) rfl rfl (by omega) (by omega)
                rw [q_v10]
                refine qm_Ru.rt (v := (some (.int v10))) (h' := (h.1, qm_up (qm_up (qm_up (qm_up (qm_up (qm_up h.2.1 146 (v1.toInt.toNat) w) 147 (v1.toInt.toNat) p) 148 (v1.toInt.toNat) s) 149 (v1.toInt.toNat) 0) 150 (v1.toInt.toNat) 0) 118 44 v9, h.2.2.1, h.2.2.2)) rfl ?_
                exact k (some (.int v10)) (qm_up (qm_up (qm_up (qm_up (qm_up (qm_up h.2.1 146 (v1.toInt.toNat) w) 147 (v1.toInt.toNat) p) 148 (v1.toInt.toNat) s) 149 (v1.toInt.toNat) 0) 150 (v1.toInt.toNat) 0) 118 44 v9) (h.2.2.1) ⟨_, rfl, ⟨by show (-1 : Int) ≤ v10.toInt; omega, by show v10.toInt ≤ (29 : Int); omega⟩⟩ (hb_up (o := 118) (k := 44) (x := v9) (hb_up (o := 150) (k := v1.toInt.toNat) (x := 0) (hb_up (o := 149) (k := v1.toInt.toNat) (x := 0) (hb_up (o := 148) (k := v1.toInt.toNat) (x := s) (hb_up (o := 147) (k := v1.toInt.toNat) (x := p) (hb_up (o := 146) (k := v1.toInt.toNat) (x := w) hB ⟨by show (0 : Int) ≤ w.toInt; omega, by show w.toInt ≤ (40 : Int); omega⟩) ⟨by show (0 : Int) ≤ p.toInt; omega, by show p.toInt ≤ (4 : Int); omega⟩) ⟨by show (0 : Int) ≤ s.toInt; omega, by show s.toInt ≤ (5 : Int); omega⟩) ⟨(show (0 : Int) ≤ 0 from by decide), (show (0 : Int) ≤ 1 from by decide)⟩) ⟨(show (0 : Int) ≤ 0 from by decide), (show (0 : Int) ≤ 2 from by decide)⟩) ⟨by show (0 : Int) ≤ v9.toInt; omega, by show v9.toInt ≤ (30 : Int); omega⟩) ⟨⟨(mR_box (I := h.2.1) (I' := qm_up (qm_up (qm_up (qm_up (qm_up (qm_up h.2.1 146 (v1.toInt.toNat) w) 147 (v1.toInt.toNat) p) 148 (v1.toInt.toNat) s) 149 (v1.toInt.toNat) 0) 150 (v1.toInt.toNat) 0) 118 44 v9) hV.1.1 ((pI_sk rfl).trans (pI_up.trans (congrArg (fun f => fu_up f v1.toInt.toNat (Int32.toInt 0)) ((pI_sk rfl).trans ((pI_sk rfl).trans ((pI_sk rfl).trans ((pI_sk rfl).trans rfl))))))) ((pI_sk rfl).trans ((pI_sk rfl).trans ((pI_sk rfl).trans ((pI_sk rfl).trans ((pI_sk rfl).trans ((pI_sk rfl).trans rfl)))))) ((pI_sk rfl).trans ((pI_sk rfl).trans ((pI_sk rfl).trans ((pI_sk rfl).trans ((pI_sk rfl).trans ((pI_sk rfl).trans rfl)))))) ((pI_sk rfl).trans ((pI_sk rfl).trans ((pI_sk rfl).trans ((pI_sk rfl).trans ((pI_sk rfl).trans ((pI_sk rfl).trans rfl)))))) ((pI_sk rfl).trans ((pI_sk rfl).trans ((pI_sk rfl).trans ((pI_sk rfl).trans ((pI_sk rfl).trans ((pI_sk rfl).trans rfl)))))) (congrArg Int32.toInt hk_same) (congrArg Int32.toInt q_v1) rfl (by omega) e_v9), hV.1.2⟩, s_P_cg3 hV.2 ((pI_sk rfl).trans ((pI_sk rfl).trans ((pI_sk rfl).trans ((pI_sk rfl).trans ((pI_sk rfl).trans ((pI_sk rfl).trans rfl)))))) ((pI_sk rfl).trans ((pI_sk rfl).trans ((pI_sk rfl).trans ((pI_sk rfl).trans ((pI_sk rfl).trans ((pI_sk rfl).trans rfl)))))) ((pI_sk rfl).trans ((pI_sk rfl).trans ((pI_sk rfl).trans ((pI_sk rfl).trans ((pI_sk rfl).trans ((pI_sk rfl).trans rfl)))))) ((pI_sk rfl).trans ((pI_sk rfl).trans ((pI_sk rfl).trans ((pI_sk rfl).trans ((pI_sk rfl).trans ((pI_sk rfl).trans rfl)))))) ((pI_sk rfl).trans ((pI_sk rfl).trans ((pI_sk rfl).trans ((pI_sk rfl).trans ((pI_sk rfl).trans ((pI_sk rfl).trans rfl)))))) ((pI_sk rfl).trans ((pI_sk rfl).trans ((pI_sk rfl).trans ((pI_sk rfl).trans ((pI_sk rfl).trans ((pI_sk rfl).trans rfl)))))) ((pI_sk rfl).trans ((pI_sk rfl).trans ((pI_sk rfl).trans ((pI_sk rfl).trans ((pI_sk rfl).trans ((pI_sk rfl).trans rfl)))))) ((pI_sk rfl).trans ((pI_sk rfl).trans ((pI_sk rfl).trans ((pI_sk rfl).trans ((pI_sk rfl).trans ((pI_sk rfl).trans rfl)))))) ((pI_sk rfl).trans ((pI_sk rfl).trans ((pI_sk rfl).trans ((pI_sk rfl).trans ((pI_sk rfl).trans ((pI_sk rfl).trans rfl)))))) ((hk_neq (by decide)).trans ((hk_ot rfl).trans ((hk_ot rfl).trans ((hk_ot rfl).trans ((hk_ot rfl).trans ((hk_ot rfl).trans rfl))))))⟩ (fun o ho i => ((hk_mod ho rfl).trans ((hk_mod ho rfl).trans ((hk_mod ho rfl).trans ((hk_mod ho rfl).trans ((hk_mod ho rfl).trans ((hk_mod ho rfl).trans rfl)))))))
theorem hc_rbreaks : hk_ct v_Q (fun _ => True) (fun as I => ∃ b y r : Int32, as = [.ref 118, .int b, .int y, .int r]) 315 (some (-2147483648, 2147483647)) [118, 144, 145, 150, 151] 90 := by
  intro L xs d Z h as h6 hH hT hB hV hp hd k
  obtain ⟨b, y, r, rfl⟩ := hp
  obtain ⟨d, rfl⟩ : ∃ e, d = e + 90 := ⟨d - 90, by omega⟩
  show qm_Ru (some (L, xs)) (d + 90) cd_315 (qm_ent 9 [.ref 118, .int b, .int y, .int r] h) Z
  refine qm_Ru.go 2 (c' := (2, [.ref 118, .int b, .int y, .int r, .float 0, .float 0, .float 0, .float 0, .float 0], [.int b, .ref 118], h)) rfl ?_
  refine hk_inv (o := 118) (r := []) (as := [.ref 118, .int b]) rfl rfl (hH.1 118 (17, 105) rfl) rfl rfl rfl rfl ?_
  refine qm_Ru.go 3 (c' := (3, [.ref 118, .int b], [.ref 118, .int 0, .int b], h)) rfl ?_
  obtain ⟨v1, q_v1⟩ : ∃ v, h.2.1 118 44 = v := ⟨_, rfl⟩
  have b_v1 : (0 : Int) ≤ v1.toInt ∧ v1.toInt ≤ 30 := by rw [← q_v1]; exact hB 118 44
  refine hk_geti (v := v1) rfl (hH.1 118 (17, 105) rfl) rfl q_v1 ?_
  refine qm_Ru.go 2 (c' := (8, [.ref 118, .int b], [.int (v1 - 1), .int 0, .int b], h)) rfl ?_
  obtain ⟨v2, q_v2, e_v2⟩ := hk_sub (x := v1) (y := 1) (a := v1.toInt) (b := 1) rfl rfl (by omega) (by omega)
  rw [q_v2]
  refine qm_Ru.call (j := 270) (as := [.int b, .int 0, .int v2]) (c' := (11, [.ref 118, .int b], [], h)) rfl rfl rfl ?_
  refine qm_Ru.go 2 (c' := (2, [.int b, .int 0, .int v2], [.int 0, .int b], h)) rfl ?_
  refine hk_clt (ix := b.toInt) (iy := 0) rfl rfl rfl (fun z3 => ?_) (fun z3 => ?_)
  · refine qm_Ru.go 1 (c' := (15, [.int b, .int 0, .int v2], [.int 0], h)) rfl ?_
    refine qm_Ru.rt (v := (some (.int 0))) (h' := h) rfl ?_
    refine qm_Ru.go 0 (c' := (11, [.ref 118, .int b], [.int 0], h)) rfl ?_
    refine qm_Ru.rt (v := (some (.int 0))) (h' := h) rfl ?_
    refine qm_Ru.go 2 (c' := (34, [.ref 118, .int b, .int y, .int r, .float 0, .float 0, .float 0, .float 0, .float 0], [.int (-1)], h)) rfl ?_
    refine qm_Ru.rt (v := (some (.int (-1)))) (h' := h) rfl ?_
    exact k (some (.int (-1))) (h.2.1) (h.2.2.1) ⟨_, rfl, ⟨by decide, by decide⟩⟩ hB hV (fun _ _ _ => rfl)
  · refine qm_Ru.go 2 (c' := (7, [.int b, .int 0, .int v2], [.int v2, .int b], h)) rfl ?_
    refine hk_cgt (ix := b.toInt) (iy := v2.toInt) rfl rfl rfl (fun z4 => ?_) (fun z4 => ?_)
    · refine qm_Ru.go 1 (c' := (15, [.int b, .int 0, .int v2], [.int 0], h)) rfl ?_
      refine qm_Ru.rt (v := (some (.int 0))) (h' := h) rfl ?_
      refine qm_Ru.go 0 (c' := (11, [.ref 118, .int b], [.int 0], h)) rfl ?_
      refine qm_Ru.rt (v := (some (.int 0))) (h' := h) rfl ?_
      refine qm_Ru.go 2 (c' := (34, [.ref 118, .int b, .int y, .int r, .float 0, .float 0, .float 0, .float 0, .float 0], [.int (-1)], h)) rfl ?_
      refine qm_Ru.rt (v := (some (.int (-1)))) (h' := h) rfl ?_
      exact k (some (.int (-1))) (h.2.1) (h.2.2.1) ⟨_, rfl, ⟨by decide, by decide⟩⟩ hB hV (fun _ _ _ => rfl)
    · refine qm_Ru.go 2 (c' := (15, [.int b, .int 0, .int v2], [.int 1], h)) rfl ?_
      refine qm_Ru.rt (v := (some (.int 1))) (h' := h) rfl ?_
      refine qm_Ru.go 0 (c' := (11, [.ref 118, .int b], [.int 1], h)) rfl ?_
      refine qm_Ru.rt (v := (some (.int 1))) (h' := h) rfl ?_
      refine qm_Ru.go 2 (c' := (9, [.ref 118, .int b, .int y, .int r, .float 0, .float 0, .float 0, .float 0, .float 0], [.ref 118], h)) rfl ?_
      refine hk_getr rfl (hH.1 118 (17, 105) rfl) rfl (hH.2 118 49 (some 150) rfl) ?_
      refine qm_Ru.go 1 (c' := (13, [.ref 118, .int b, .int y, .int r, .float 0, .float 0, .float 0, .float 0, .float 0], [.int b, .ref 150], h)) rfl ?_
      obtain ⟨v5, q_v5⟩ : ∃ v, h.2.1 150 (b.toInt.toNat) = v := ⟨_, rfl⟩
      have b_v5 : (0 : Int) ≤ v5.toInt ∧ v5.toInt ≤ 2 := by rw [← q_v5]; exact hB 150 (b.toInt.toNat)
      refine hk_ial (v := v5) rfl (hH.1 150 (0, 30) rfl) (by omega) (by omega) q_v5 ?_
      refine qm_Ru.go 1 (c' := (15, [.ref 118, .int b, .int y, .int r, .float 0, .float 0, .float 0, .float 0, .float 0], [.int 1, .int v5], h)) rfl ?_
      refine hk_ceq (ix := v5.toInt) (iy := 1) rfl rfl rfl (fun z6 => ?_) (fun z6 => ?_)
      · refine qm_Ru.go 1 (c' := (34, [.ref 118, .int b, .int y, .int r, .float 0, .float 0, .float 0, .float 0, .float 0], [.int (-1)], h)) rfl ?_
        refine qm_Ru.rt (v := (some (.int (-1)))) (h' := h) rfl ?_
        exact k (some (.int (-1))) (h.2.1) (h.2.2.1) ⟨_, rfl, ⟨by decide, by decide⟩⟩ hB hV (fun _ _ _ => rfl)
      · refine qm_Ru.go 2 (c' := (20, [.ref 118, .int b, .int y, .int r, .float 0, .float 0, .float 0, .float 0, .float 0], [.int y, .ref 118], h)) rfl ?_
        refine hk_inv (o := 118) (r := []) (as := [.ref 118, .int y]) rfl rfl (hH.1 118 (17, 105) rfl) rfl rfl rfl rfl ?_
        refine qm_Ru.go 3 (c' := (3, [.ref 118, .int y], [.ref 118, .int 0, .int y], h)) rfl ?_
        refine hk_getr rfl (hH.1 118 (17, 105) rfl) rfl (hH.2 118 22 (some 127) rfl) ?_
        refine qm_Ru.go 1 (c' := (7, [.ref 118, .int y], [.ref 118, .ref 127, .int 0, .int y], h)) rfl ?_
        obtain ⟨v7, q_v7⟩ : ∃ v, h.2.1 118 18 = v := ⟨_, rfl⟩
        have b_v7 : (0 : Int) ≤ v7.toInt ∧ v7.toInt ≤ 1 := by rw [← q_v7]; exact hB 118 18
        refine hk_geti (v := v7) rfl (hH.1 118 (17, 105) rfl) rfl q_v7 ?_
        refine qm_Ru.go 0 (c' := (10, [.ref 118, .int y], [.int v7, .ref 127, .int 0, .int y], h)) rfl ?_
        obtain ⟨v8, q_v8⟩ : ∃ v, h.2.1 127 (v7.toInt.toNat) = v := ⟨_, rfl⟩
        have b_v8 : (0 : Int) ≤ v8.toInt ∧ v8.toInt ≤ 5 := by rw [← q_v8]; exact hB 127 (v7.toInt.toNat)
        refine hk_ial (v := v8) rfl (hH.1 127 (0, 2) rfl) (by omega) (by omega) q_v8 ?_
        refine qm_Ru.go 2 (c' := (13, [.ref 118, .int y], [.int (v8 - 1), .int 0, .int y], h)) rfl ?_
        obtain ⟨v9, q_v9, e_v9⟩ := hk_sub (x := v8) (y := 1) (a := v8.toInt) (b := 1) rfl rfl (by omega) (by omega)
        rw [q_v9]
        refine qm_Ru.call (j := 270) (as := [.int y, .int 0, .int v9]) (c' := (16, [.ref 118, .int y], [], h)) rfl rfl rfl ?_
        refine qm_Ru.go 2 (c' := (2, [.int y, .int 0, .int v9], [.int 0, .int y], h)) rfl ?_
        refine hk_clt (ix := y.toInt) (iy := 0) rfl rfl rfl (fun z10 => ?_) (fun z10 => ?_)
        · refine qm_Ru.go 1 (c' := (15, [.int y, .int 0, .int v9], [.int 0], h)) rfl ?_
          refine qm_Ru.rt (v := (some (.int 0))) (h' := h) rfl ?_
          refine qm_Ru.go 0 (c' := (16, [.ref 118, .int y], [.int 0], h)) rfl ?_
          refine qm_Ru.rt (v := (some (.int 0))) (h' := h) rfl ?_
          refine qm_Ru.go 2 (c' := (34, [.ref 118, .int b, .int y, .int r, .float 0, .float 0, .float 0, .float 0, .float 0], [.int (-1)], h)) rfl ?_
          refine qm_Ru.rt (v := (some (.int (-1)))) (h' := h) rfl ?_
          exact k (some (.int (-1))) (h.2.1) (h.2.2.1) ⟨_, rfl, ⟨by decide, by decide⟩⟩ hB hV (fun _ _ _ => rfl)
        · refine qm_Ru.go 2 (c' := (7, [.int y, .int 0, .int v9], [.int v9, .int y], h)) rfl ?_
          refine hk_cgt (ix := y.toInt) (iy := v9.toInt) rfl rfl rfl (fun z11 => ?_) (fun z11 => ?_)
          · refine qm_Ru.go 1 (c' := (15, [.int y, .int 0, .int v9], [.int 0], h)) rfl ?_
            refine qm_Ru.rt (v := (some (.int 0))) (h' := h) rfl ?_
            refine qm_Ru.go 0 (c' := (16, [.ref 118, .int y], [.int 0], h)) rfl ?_
            refine qm_Ru.rt (v := (some (.int 0))) (h' := h) rfl ?_
            refine qm_Ru.go 2 (c' := (34, [.ref 118, .int b, .int y, .int r, .float 0, .float 0, .float 0, .float 0, .float 0], [.int (-1)], h)) rfl ?_
            refine qm_Ru.rt (v := (some (.int (-1)))) (h' := h) rfl ?_
            exact k (some (.int (-1))) (h.2.1) (h.2.2.1) ⟨_, rfl, ⟨by decide, by decide⟩⟩ hB hV (fun _ _ _ => rfl)
          · refine qm_Ru.go 2 (c' := (15, [.int y, .int 0, .int v9], [.int 1], h)) rfl ?_
            refine qm_Ru.rt (v := (some (.int 1))) (h' := h) rfl ?_
            refine qm_Ru.go 0 (c' := (16, [.ref 118, .int y], [.int 1], h)) rfl ?_
            refine qm_Ru.rt (v := (some (.int 1))) (h' := h) rfl ?_
            refine qm_Ru.go 2 (c' := (27, [.ref 118, .int b, .int y, .int r, .float 0, .float 0, .float 0, .float 0, .float 0], [.int r], h)) rfl ?_
            refine qm_Ru.call (j := 278) (as := [.int r]) (c' := (30, [.ref 118, .int b, .int y, .int r, .float 0, .float 0, .float 0, .float 0, .float 0], [], h)) rfl rfl rfl ?_
            refine qm_Ru.go 3 (c' := (3, [.int r], [.int 3, .int 0, .int r], h)) rfl ?_
            refine qm_Ru.call (j := 270) (as := [.int r, .int 0, .int 3]) (c' := (6, [.int r], [], h)) rfl rfl rfl ?_
            refine qm_Ru.go 2 (c' := (2, [.int r, .int 0, .int 3], [.int 0, .int r], h)) rfl ?_
            refine hk_clt (ix := r.toInt) (iy := 0) rfl rfl rfl (fun z12 => ?_) (fun z12 => ?_)
            · refine qm_Ru.go 1 (c' := (15, [.int r, .int 0, .int 3], [.int 0], h)) rfl ?_
              refine qm_Ru.rt (v := (some (.int 0))) (h' := h) rfl ?_
              refine qm_Ru.go 0 (c' := (6, [.int r], [.int 0], h)) rfl ?_
              refine qm_Ru.rt (v := (some (.int 0))) (h' := h) rfl ?_
              refine qm_Ru.go 2 (c' := (34, [.ref 118, .int b, .int y, .int r, .float 0, .float 0, .float 0, .float 0, .float 0], [.int (-1)], h)) rfl ?_
              refine qm_Ru.rt (v := (some (.int (-1)))) (h' := h) rfl ?_
              exact k (some (.int (-1))) (h.2.1) (h.2.2.1) ⟨_, rfl, ⟨by decide, by decide⟩⟩ hB hV (fun _ _ _ => rfl)
            · refine qm_Ru.go 2 (c' := (7, [.int r, .int 0, .int 3], [.int 3, .int r], h)) rfl ?_
              refine hk_cgt (ix := r.toInt) (iy := 3) rfl rfl rfl (fun z13 => ?_) (fun z13 => ?_)
              · refine qm_Ru.go 1 (c' := (15, [.int r, .int 0, .int 3], [.int 0], h)) rfl ?_
                refine qm_Ru.rt (v := (some (.int 0))) (h' := h) rfl ?_
                refine qm_Ru.go 0 (c' := (6, [.int r], [.int 0], h)) rfl ?_
                refine qm_Ru.rt (v := (some (.int 0))) (h' := h) rfl ?_
                refine qm_Ru.go 2 (c' := (34, [.ref 118, .int b, .int y, .int r, .float 0, .float 0, .float 0, .float 0, .float 0], [.int (-1)], h)) rfl ?_
                refine qm_Ru.rt (v := (some (.int (-1)))) (h' := h) rfl ?_
                exact k (some (.int (-1))) (h.2.1) (h.2.2.1) ⟨_, rfl, ⟨by decide, by decide⟩⟩ hB hV (fun _ _ _ => rfl)
              · refine qm_Ru.go 2 (c' := (15, [.int r, .int 0, .int 3], [.int 1], h)) rfl ?_
                refine qm_Ru.rt (v := (some (.int 1))) (h' := h) rfl ?_
                refine qm_Ru.go 0 (c' := (6, [.int r], [.int 1], h)) rfl ?_
                refine qm_Ru.rt (v := (some (.int 1))) (h' := h) rfl ?_
                refine qm_Ru.go 4 (c' := (38, [.ref 118, .int b, .int y, .int r, .float 0, .float 0, .float 0, .float 0, .float 0], [.int r, .int y, .ref 118], h)) rfl ?_
                refine hk_inv (o := 118) (r := []) (as := [.ref 118, .int y, .int r]) rfl rfl (hH.1 118 (17, 105) rfl) rfl rfl rfl rfl ?_
                refine qm_Ru.go 3 (c' := (4, [.ref 118, .int y, .int r, .float 0], [.int (16 * y)], h)) rfl ?_
                obtain ⟨v14, q_v14, e_v14⟩ := hk_mul (x := 16) (y := y) (a := 16) (b := y.toInt) rfl rfl (by omega) (by omega)
                rw [q_v14]
                refine qm_Ru.go 3 (c' := (7, [.ref 118, .int y, .int r, .float 0], [.int (4 * r), .int v14], h)) rfl ?_
                obtain ⟨v15, q_v15, e_v15⟩ := hk_mul (x := 4) (y := r) (a := 4) (b := r.toInt) rfl rfl (by omega) (by omega)
                rw [q_v15]
                refine qm_Ru.go 1 (c' := (8, [.ref 118, .int y, .int r, .float 0], [.int (v14 + v15)], h)) rfl ?_
                obtain ⟨v16, q_v16, e_v16⟩ := hk_add (x := v14) (y := v15) (a := v14.toInt) (b := v15.toInt) rfl rfl (by omega) (by omega)
                rw [q_v16]
                refine qm_Ru.go 2 (c' := (10, [.ref 118, .int y, .int r, .float 0], [.int y, .ref 118, .int v16], h)) rfl ?_
                refine hk_inv (o := 118) (r := [.int v16]) (as := [.ref 118, .int y]) rfl rfl (hH.1 118 (17, 105) rfl) rfl rfl rfl rfl ?_
                refine qm_Ru.go 1 (c' := (1, [.ref 118, .int y], [.ref 118], h)) rfl ?_
                obtain ⟨v17, q_v17⟩ : ∃ v, h.2.1 118 54 = v := ⟨_, rfl⟩
                refine hk_geti (v := v17) rfl (hH.1 118 (17, 105) rfl) rfl q_v17 ?_
                refine qm_Ru.go 2 (c' := (6, [.ref 118, .int y], [.int (v17 >>> (y &&& 31))], h)) rfl ?_
                obtain ⟨v18, q_v18⟩ : ∃ v, (v17 >>> (y &&& 31)) = v := ⟨_, rfl⟩
                rw [q_v18]
                refine qm_Ru.go 2 (c' := (8, [.ref 118, .int y], [.int (v18 &&& 1)], h)) rfl ?_
                obtain ⟨v19, q_v19⟩ : ∃ v, (v18 &&& 1) = v := ⟨_, rfl⟩
                rw [q_v19]
                refine qm_Ru.go 1 (c' := (9, [.ref 118, .int y], [.int 1, .int v19], h)) rfl ?_
                refine hk_cne (ix := v19.toInt) (iy := 1) rfl rfl rfl (fun z20 => ?_) (fun z20 => ?_)
                · refine qm_Ru.go 1 (c' := (17, [.ref 118, .int y], [.int 0], h)) rfl ?_
                  refine qm_Ru.rt (v := (some (.int 0))) (h' := h) rfl ?_
                  refine qm_Ru.go 3 (c' := (22, [.ref 118, .int y, .int r, .float 0], [.int (v16 + 0)], h)) rfl ?_
                  obtain ⟨v21, q_v21, e_v21⟩ := hk_add (x := v16) (y := 0) (a := v16.toInt) (b := 0) rfl rfl (by omega) (by omega)
                  rw [q_v21]
                  refine qm_Ru.go 2 (c' := (24, [.ref 118, .int y, .int r, .int v21], [.ref 118], h)) rfl ?_
                  refine hk_getr rfl (hH.1 118 (17, 105) rfl) rfl (hH.2 118 51 (some 152) rfl) ?_
                  refine qm_Ru.go 1 (c' := (28, [.ref 118, .int y, .int r, .int v21], [.int v21, .ref 152], h)) rfl ?_
                  obtain ⟨v22, q_v22⟩ : ∃ v, h.2.1 152 (v21.toInt.toNat) = v := ⟨_, rfl⟩
                  have b_v22 : (-1 : Int) ≤ v22.toInt ∧ v22.toInt ≤ 29 := by rw [← q_v22]; exact hB 152 (v21.toInt.toNat)
                  refine hk_ial (v := v22) rfl (hH.1 152 (0, 80) rfl) (by omega) (by omega) q_v22 ?_
                  refine qm_Ru.go 1 (c' := (30, [.ref 118, .int y, .int r, .int v21], [.int (-1), .int v22], h)) rfl ?_
                  refine hk_cne (ix := v22.toInt) (iy := (-1)) rfl rfl rfl (fun z23 => ?_) (fun z23 => ?_)
                  · refine qm_Ru.go 1 (c' := (38, [.ref 118, .int y, .int r, .int v21], [.ref 118], h)) rfl ?_
                    refine hk_getr rfl (hH.1 118 (17, 105) rfl) rfl (hH.2 118 51 (some 152) rfl) ?_
                    refine qm_Ru.go 3 (c' := (44, [.ref 118, .int y, .int r, .int v21], [.int (v21 + 1), .ref 152], h)) rfl ?_
                    obtain ⟨v24, q_v24, e_v24⟩ := hk_add (x := v21) (y := 1) (a := v21.toInt) (b := 1) rfl rfl (by omega) (by omega)
                    rw [q_v24]
                    obtain ⟨v25, q_v25⟩ : ∃ v, h.2.1 152 (v24.toInt.toNat) = v := ⟨_, rfl⟩
                    have b_v25 : (-1 : Int) ≤ v25.toInt ∧ v25.toInt ≤ 29 := by rw [← q_v25]; exact hB 152 (v24.toInt.toNat)
                    refine hk_ial (v := v25) rfl (hH.1 152 (0, 80) rfl) (by omega) (by omega) q_v25 ?_
                    refine qm_Ru.go 1 (c' := (46, [.ref 118, .int y, .int r, .int v21], [.int (-1), .int v25], h)) rfl ?_
                    refine hk_cne (ix := v25.toInt) (iy := (-1)) rfl rfl rfl (fun z26 => ?_) (fun z26 => ?_)
                    · refine qm_Ru.go 1 (c' := (56, [.ref 118, .int y, .int r, .int v21], [.int (-1)], h)) rfl ?_
                      refine qm_Ru.rt (v := (some (.int (-1)))) (h' := h) rfl ?_
                      refine qm_Ru.go 5 (c' := (50, [.ref 118, .int b, .int y, .int r, .int (-1), .float 0, .float 0, .float 0, .float 0], [.int (-1)], h)) rfl ?_
                      refine qm_Ru.rt (v := (some (.int (-1)))) (h' := h) rfl ?_
                      exact k (some (.int (-1))) (h.2.1) (h.2.2.1) ⟨_, rfl, ⟨by decide, by decide⟩⟩ hB hV (fun _ _ _ => rfl)
                    · refine qm_Ru.go 3 (c' := (52, [.ref 118, .int y, .int r, .int v21], [.int (v21 + 1)], h)) rfl ?_
                      rw [q_v24]
                      refine qm_Ru.go 1 (c' := (56, [.ref 118, .int y, .int r, .int v21], [.int v24], h)) rfl ?_
                      refine qm_Ru.rt (v := (some (.int v24))) (h' := h) rfl ?_
                      refine qm_Ru.go 3 (c' := (46, [.ref 118, .int b, .int y, .int r, .int v24, .float 0, .float 0, .float 0, .float 0], [.int (-1), .int v24], h)) rfl ?_
                      refine hk_cne (ix := v24.toInt) (iy := (-1)) rfl rfl rfl (fun z28 => ?_) (fun z28 => by exfalso; omega)
                      refine qm_Ru.go 1 (c' := (52, [.ref 118, .int b, .int y, .int r, .int v24, .float 0, .float 0, .float 0, .float 0], [.ref 118], h)) rfl ?_
                      refine hk_inv (o := 118) (r := []) (as := [.ref 118]) rfl rfl (hH.1 118 (17, 105) rfl) rfl rfl rfl rfl (hs_broken (h := h) h6 hH hB  (show s_P (h.2.1) from (s_P_cg3 hV.2 rfl rfl rfl rfl rfl rfl rfl rfl rfl rfl)) (fun v31 I29 J30 hB_I29 e_I29 e8_I29 => ?_))
                      refine qm_Ru.go 2 (c' := (58, [.ref 118, .int b, .int y, .int r, .int v24, .int v31, .float 0, .float 0, .float 0], [.ref 118], (h.1, I29, J30, h.2.2.2))) rfl ?_
                      refine hk_getr rfl (hH.1 118 (17, 105) rfl) rfl (hH.2 118 49 (some 150) rfl) ?_
                      refine qm_Ru.go 1 (c' := (62, [.ref 118, .int b, .int y, .int r, .int v24, .int v31, .float 0, .float 0, .float 0], [.int b, .ref 150], (h.1, I29, J30, h.2.2.2))) rfl ?_
                      refine hk_ial (v := v5) rfl (hH.1 150 (0, 30) rfl) (by omega) (by omega) (show (I29) 150 (b.toInt.toNat) = _ from ((e_I29 150 rfl (b.toInt.toNat)).trans q_v5)) ?_
                      refine qm_Ru.go 2 (c' := (66, [.ref 118, .int b, .int y, .int r, .int v24, .int v31, .int v5, .float 0, .float 0], [.ref 118], (h.1, I29, J30, h.2.2.2))) rfl ?_
                      refine hk_getr rfl (hH.1 118 (17, 105) rfl) rfl (hH.2 118 50 (some 151) rfl) ?_
                      refine qm_Ru.go 1 (c' := (70, [.ref 118, .int b, .int y, .int r, .int v24, .int v31, .int v5, .float 0, .float 0], [.int b, .ref 151], (h.1, I29, J30, h.2.2.2))) rfl ?_
                      obtain ⟨v32, q_v32⟩ : ∃ v, h.2.1 151 (b.toInt.toNat) = v := ⟨_, rfl⟩
                      have b_v32 : (0 : Int) ≤ v32.toInt ∧ v32.toInt ≤ 79 := by rw [← q_v32]; exact hB 151 (b.toInt.toNat)
                      refine hk_ial (v := v32) rfl (hH.1 151 (0, 30) rfl) (by omega) (by omega) (show (I29) 151 (b.toInt.toNat) = _ from ((e_I29 151 rfl (b.toInt.toNat)).trans q_v32)) ?_
                      refine qm_Ru.go 2 (c' := (74, [.ref 118, .int b, .int y, .int r, .int v24, .int v31, .int v5, .int v32, .float 0], [.ref 118], (h.1, I29, J30, h.2.2.2))) rfl ?_
                      refine hk_getr rfl (hH.1 118 (17, 105) rfl) rfl (hH.2 118 49 (some 150) rfl) ?_
                      refine qm_Ru.go 2 (c' := (79, [.ref 118, .int b, .int y, .int r, .int v24, .int v31, .int v5, .int v32, .float 0], [.int 1, .int b, .ref 150], (h.1, I29, J30, h.2.2.2))) rfl ?_
                      refine hk_ias rfl (hH.1 150 (0, 30) rfl) (by omega) (by omega) ?_
                      refine qm_Ru.go 1 (c' := (81, [.ref 118, .int b, .int y, .int r, .int v24, .int v31, .int v5, .int v32, .float 0], [.ref 118], (h.1, qm_up I29 150 (b.toInt.toNat) 1, J30, h.2.2.2))) rfl ?_
                      refine hk_getr rfl (hH.1 118 (17, 105) rfl) rfl (hH.2 118 50 (some 151) rfl) ?_
                      refine qm_Ru.go 2 (c' := (87, [.ref 118, .int b, .int y, .int r, .int v24, .int v31, .int v5, .int v32, .float 0], [.int v24, .int b, .ref 151], (h.1, qm_up I29 150 (b.toInt.toNat) 1, J30, h.2.2.2))) rfl ?_
                      refine hk_ias rfl (hH.1 151 (0, 30) rfl) (by omega) (by omega) ?_
                      refine qm_Ru.go 1 (c' := (89, [.ref 118, .int b, .int y, .int r, .int v24, .int v31, .int v5, .int v32, .float 0], [.ref 118], (h.1, qm_up (qm_up I29 150 (b.toInt.toNat) 1) 151 (b.toInt.toNat) v24, J30, h.2.2.2))) rfl ?_
                      refine hk_inv (o := 118) (r := []) (as := [.ref 118]) rfl rfl (hH.1 118 (17, 105) rfl) rfl rfl rfl rfl (hs_broken (h := (h.1, qm_up (qm_up I29 150 (b.toInt.toNat) 1) 151 (b.toInt.toNat) v24, J30, h.2.2.2)) h6 hH (hb_up (o := 151) (k := b.toInt.toNat) (x := v24) (hb_up (o := 150) (k := b.toInt.toNat) (x := 1) hB_I29 ⟨(show (0 : Int) ≤ 1 from by decide), (show (1 : Int) ≤ 2 from by decide)⟩) ⟨by show (0 : Int) ≤ v24.toInt; omega, by show v24.toInt ≤ (79 : Int); omega⟩)  (show s_P (qm_up (qm_up I29 150 (b.toInt.toNat) 1) 151 (b.toInt.toNat) v24) from (s_P_cg3 hV.2 ((pI_sk rfl).trans ((pI_sk rfl).trans ((funext fun i => congrArg Int32.toInt (e_I29 131 rfl i)).trans rfl))) ((pI_sk rfl).trans ((pI_sk rfl).trans ((funext fun i => congrArg Int32.toInt (e_I29 132 rfl i)).trans rfl))) ((pI_sk rfl).trans ((pI_sk rfl).trans ((funext fun i => congrArg Int32.toInt (e_I29 133 rfl i)).trans rfl))) ((pI_sk rfl).trans ((pI_sk rfl).trans ((funext fun i => congrArg Int32.toInt (e_I29 134 rfl i)).trans rfl))) ((pI_sk rfl).trans ((pI_sk rfl).trans ((funext fun i => congrArg Int32.toInt (e_I29 138 rfl i)).trans rfl))) ((pI_sk rfl).trans ((pI_sk rfl).trans ((funext fun i => congrArg Int32.toInt (e_I29 139 rfl i)).trans rfl))) ((pI_sk rfl).trans ((pI_sk rfl).trans ((funext fun i => congrArg Int32.toInt (e_I29 140 rfl i)).trans rfl))) ((pI_sk rfl).trans ((pI_sk rfl).trans ((funext fun i => congrArg Int32.toInt (e_I29 141 rfl i)).trans rfl))) ((pI_sk rfl).trans ((pI_sk rfl).trans ((funext fun i => congrArg Int32.toInt (e_I29 142 rfl i)).trans rfl))) ((hk_ot rfl).trans ((hk_ot rfl).trans ((e8_I29 18 (by decide)).trans rfl))))) (fun v35 I33 J34 hB_I33 e_I33 e8_I33 => ?_))
                      have e_I33 : ∀ o, [118, 144, 145].contains o = false → ∀ i, I33 o i = (qm_up (qm_up I29 150 (b.toInt.toNat) 1) 151 (b.toInt.toNat) v24) o i := e_I33
                      have e8_I33 : ∀ i, i ≠ 57 → I33 118 i = (qm_up (qm_up I29 150 (b.toInt.toNat) 1) 151 (b.toInt.toNat) v24) 118 i := e8_I33
                      refine qm_Ru.go 2 (c' := (95, [.ref 118, .int b, .int y, .int r, .int v24, .int v31, .int v5, .int v32, .int v35], [.ref 118], (h.1, I33, J34, h.2.2.2))) rfl ?_
                      refine hk_getr rfl (hH.1 118 (17, 105) rfl) rfl (hH.2 118 49 (some 150) rfl) ?_
                      refine qm_Ru.go 2 (c' := (101, [.ref 118, .int b, .int y, .int r, .int v24, .int v31, .int v5, .int v32, .int v35], [.int v5, .int b, .ref 150], (h.1, I33, J34, h.2.2.2))) rfl ?_
                      refine hk_ias rfl (hH.1 150 (0, 30) rfl) (by omega) (by omega) ?_
                      refine qm_Ru.go 1 (c' := (103, [.ref 118, .int b, .int y, .int r, .int v24, .int v31, .int v5, .int v32, .int v35], [.ref 118], (h.1, qm_up I33 150 (b.toInt.toNat) v5, J34, h.2.2.2))) rfl ?_
                      refine hk_getr rfl (hH.1 118 (17, 105) rfl) rfl (hH.2 118 50 (some 151) rfl) ?_
                      refine qm_Ru.go 2 (c' := (109, [.ref 118, .int b, .int y, .int r, .int v24, .int v31, .int v5, .int v32, .int v35], [.int v32, .int b, .ref 151], (h.1, qm_up I33 150 (b.toInt.toNat) v5, J34, h.2.2.2))) rfl ?_
                      refine hk_ias rfl (hH.1 151 (0, 30) rfl) (by omega) (by omega) ?_
                      refine qm_Ru.go 3 (c' := (115, [.ref 118, .int b, .int y, .int r, .int v24, .int v31, .int v5, .int v32, .int v35], [.int (v35 - v31)], (h.1, qm_up (qm_up I33 150 (b.toInt.toNat) v5) 151 (b.toInt.toNat) v32, J34, h.2.2.2))) rfl ?_
                      obtain ⟨v36, q_v36⟩ : ∃ v, (v35 - v31) = v := ⟨_, rfl⟩
                      rw [q_v36]
                      refine qm_Ru.rt (v := (some (.int v36))) (h' := (h.1, qm_up (qm_up I33 150 (b.toInt.toNat) v5) 151 (b.toInt.toNat) v32, J34, h.2.2.2)) rfl ?_
                      exact k (some (.int v36)) (qm_up (qm_up I33 150 (b.toInt.toNat) v5) 151 (b.toInt.toNat) v32) (J34) ⟨_, rfl, qa_in_full _⟩ (hb_up (o := 151) (k := b.toInt.toNat) (x := v32) (hb_up (o := 150) (k := b.toInt.toNat) (x := v5) hB_I33 ⟨by show (0 : Int) ≤ v5.toInt; omega, by show v5.toInt ≤ (2 : Int); omega⟩) ⟨by show (0 : Int) ≤ v32.toInt; omega, by show v32.toInt ≤ (79 : Int); omega⟩) (v_Q_cg8 (mod := [118, 144, 145]) hV (fun o ho i => (would_back e_I33 ((e_I29 150 rfl (b.toInt.toNat)).trans q_v5) ((e_I29 151 rfl (b.toInt.toNat)).trans q_v32) o ho i).trans (e_I29 o ho i)) (fun i hi => (hk_ot rfl).trans ((hk_ot rfl).trans ((e8_I33 i hi).trans ((hk_ot rfl).trans ((hk_ot rfl).trans (e8_I29 i hi)))))) rfl) (fun o ho i => (fun o ho i => (would_back e_I33 ((e_I29 150 rfl (b.toInt.toNat)).trans q_v5) ((e_I29 151 rfl (b.toInt.toNat)).trans q_v32) o ho i).trans (e_I29 o ho i)) o (hk_ms rfl ho) i)
                  · refine qm_Ru.go 2 (c' := (56, [.ref 118, .int y, .int r, .int v21], [.int v21], h)) rfl ?_
                    refine qm_Ru.rt (v := (some (.int v21))) (h' := h) rfl ?_
                    refine qm_Ru.go 3 (c' := (46, [.ref 118, .int b, .int y, .int r, .int v21, .float 0, .float 0, .float 0, .float 0], [.int (-1), .int v21], h)) rfl ?_
                    refine hk_cne (ix := v21.toInt) (iy := (-1)) rfl rfl rfl (fun z37 => ?_) (fun z37 => by exfalso; omega)
                    refine qm_Ru.go 1 (c' := (52, [.ref 118, .int b, .int y, .int r, .int v21, .float 0, .float 0, .float 0, .float 0], [.ref 118], h)) rfl ?_
                    refine hk_inv (o := 118) (r := []) (as := [.ref 118]) rfl rfl (hH.1 118 (17, 105) rfl) rfl rfl rfl rfl (hs_broken (h := h) h6 hH hB  (show s_P (h.2.1) from (s_P_cg3 hV.2 rfl rfl rfl rfl rfl rfl rfl rfl rfl rfl)) (fun v40 I38 J39 hB_I38 e_I38 e8_I38 => ?_))
                    refine qm_Ru.go 2 (c' := (58, [.ref 118, .int b, .int y, .int r, .int v21, .int v40, .float 0, .float 0, .float 0], [.ref 118], (h.1, I38, J39, h.2.2.2))) rfl ?_
                    refine hk_getr rfl (hH.1 118 (17, 105) rfl) rfl (hH.2 118 49 (some 150) rfl) ?_
                    refine qm_Ru.go 1 (c' := (62, [.ref 118, .int b, .int y, .int r, .int v21, .int v40, .float 0, .float 0, .float 0], [.int b, .ref 150], (h.1, I38, J39, h.2.2.2))) rfl ?_
                    refine hk_ial (v := v5) rfl (hH.1 150 (0, 30) rfl) (by omega) (by omega) (show (I38) 150 (b.toInt.toNat) = _ from ((e_I38 150 rfl (b.toInt.toNat)).trans q_v5)) ?_
                    refine qm_Ru.go 2 (c' := (66, [.ref 118, .int b, .int y, .int r, .int v21, .int v40, .int v5, .float 0, .float 0], [.ref 118], (h.1, I38, J39, h.2.2.2))) rfl ?_
                    refine hk_getr rfl (hH.1 118 (17, 105) rfl) rfl (hH.2 118 50 (some 151) rfl) ?_
                    refine qm_Ru.go 1 (c' := (70, [.ref 118, .int b, .int y, .int r, .int v21, .int v40, .int v5, .float 0, .float 0], [.int b, .ref 151], (h.1, I38, J39, h.2.2.2))) rfl ?_
                    obtain ⟨v41, q_v41⟩ : ∃ v, h.2.1 151 (b.toInt.toNat) = v := ⟨_, rfl⟩
                    have b_v41 : (0 : Int) ≤ v41.toInt ∧ v41.toInt ≤ 79 := by rw [← q_v41]; exact hB 151 (b.toInt.toNat)
                    refine hk_ial (v := v41) rfl (hH.1 151 (0, 30) rfl) (by omega) (by omega) (show (I38) 151 (b.toInt.toNat) = _ from ((e_I38 151 rfl (b.toInt.toNat)).trans q_v41)) ?_
                    refine qm_Ru.go 2 (c' := (74, [.ref 118, .int b, .int y, .int r, .int v21, .int v40, .int v5, .int v41, .float 0], [.ref 118], (h.1, I38, J39, h.2.2.2))) rfl ?_
                    refine hk_getr rfl (hH.1 118 (17, 105) rfl) rfl (hH.2 118 49 (some 150) rfl) ?_
                    refine qm_Ru.go 2 (c' := (79, [.ref 118, .int b, .int y, .int r, .int v21, .int v40, .int v5, .int v41, .float 0], [.int 1, .int b, .ref 150], (h.1, I38, J39, h.2.2.2))) rfl ?_
                    refine hk_ias rfl (hH.1 150 (0, 30) rfl) (by omega) (by omega) ?_
                    refine qm_Ru.go 1 (c' := (81, [.ref 118, .int b, .int y, .int r, .int v21, .int v40, .int v5, .int v41, .float 0], [.ref 118], (h.1, qm_up I38 150 (b.toInt.toNat) 1, J39, h.2.2.2))) rfl ?_
                    refine hk_getr rfl (hH.1 118 (17, 105) rfl) rfl (hH.2 118 50 (some 151) rfl) ?_
                    refine qm_Ru.go 2 (c' := (87, [.ref 118, .int b, .int y, .int r, .int v21, .int v40, .int v5, .int v41, .float 0], [.int v21, .int b, .ref 151], (h.1, qm_up I38 150 (b.toInt.toNat) 1, J39, h.2.2.2))) rfl ?_
                    refine hk_ias rfl (hH.1 151 (0, 30) rfl) (by omega) (by omega) ?_
                    refine qm_Ru.go 1 (c' := (89, [.ref 118, .int b, .int y, .int r, .int v21, .int v40, .int v5, .int v41, .float 0], [.ref 118], (h.1, qm_up (qm_up I38 150 (b.toInt.toNat) 1) 151 (b.toInt.toNat) v21, J39, h.2.2.2))) rfl ?_
                    refine hk_inv (o := 118) (r := []) (as := [.ref 118]) rfl rfl (hH.1 118 (17, 105) rfl) rfl rfl rfl rfl (hs_broken (h := (h.1, qm_up (qm_up I38 150 (b.toInt.toNat) 1) 151 (b.toInt.toNat) v21, J39, h.2.2.2)) h6 hH (hb_up (o := 151) (k := b.toInt.toNat) (x := v21) (hb_up (o := 150) (k := b.toInt.toNat) (x := 1) hB_I38 ⟨(show (0 : Int) ≤ 1 from by decide), (show (1 : Int) ≤ 2 from by decide)⟩) ⟨by show (0 : Int) ≤ v21.toInt; omega, by show v21.toInt ≤ (79 : Int); omega⟩)  (show s_P (qm_up (qm_up I38 150 (b.toInt.toNat) 1) 151 (b.toInt.toNat) v21) from (s_P_cg3 hV.2 ((pI_sk rfl).trans ((pI_sk rfl).trans ((funext fun i => congrArg Int32.toInt (e_I38 131 rfl i)).trans rfl))) ((pI_sk rfl).trans ((pI_sk rfl).trans ((funext fun i => congrArg Int32.toInt (e_I38 132 rfl i)).trans rfl))) ((pI_sk rfl).trans ((pI_sk rfl).trans ((funext fun i => congrArg Int32.toInt (e_I38 133 rfl i)).trans rfl))) ((pI_sk rfl).trans ((pI_sk rfl).trans ((funext fun i => congrArg Int32.toInt (e_I38 134 rfl i)).trans rfl))) ((pI_sk rfl).trans ((pI_sk rfl).trans ((funext fun i => congrArg Int32.toInt (e_I38 138 rfl i)).trans rfl))) ((pI_sk rfl).trans ((pI_sk rfl).trans ((funext fun i => congrArg Int32.toInt (e_I38 139 rfl i)).trans rfl))) ((pI_sk rfl).trans ((pI_sk rfl).trans ((funext fun i => congrArg Int32.toInt (e_I38 140 rfl i)).trans rfl))) ((pI_sk rfl).trans ((pI_sk rfl).trans ((funext fun i => congrArg Int32.toInt (e_I38 141 rfl i)).trans rfl))) ((pI_sk rfl).trans ((pI_sk rfl).trans ((funext fun i => congrArg Int32.toInt (e_I38 142 rfl i)).trans rfl))) ((hk_ot rfl).trans ((hk_ot rfl).trans ((e8_I38 18 (by decide)).trans rfl))))) (fun v44 I42 J43 hB_I42 e_I42 e8_I42 => ?_))
                    have e_I42 : ∀ o, [118, 144, 145].contains o = false → ∀ i, I42 o i = (qm_up (qm_up I38 150 (b.toInt.toNat) 1) 151 (b.toInt.toNat) v21) o i := e_I42
                    have e8_I42 : ∀ i, i ≠ 57 → I42 118 i = (qm_up (qm_up I38 150 (b.toInt.toNat) 1) 151 (b.toInt.toNat) v21) 118 i := e8_I42
                    refine qm_Ru.go 2 (c' := (95, [.ref 118, .int b, .int y, .int r, .int v21, .int v40, .int v5, .int v41, .int v44], [.ref 118], (h.1, I42, J43, h.2.2.2))) rfl ?_
                    refine hk_getr rfl (hH.1 118 (17, 105) rfl) rfl (hH.2 118 49 (some 150) rfl) ?_
                    refine qm_Ru.go 2 (c' := (101, [.ref 118, .int b, .int y, .int r, .int v21, .int v40, .int v5, .int v41, .int v44], [.int v5, .int b, .ref 150], (h.1, I42, J43, h.2.2.2))) rfl ?_
                    refine hk_ias rfl (hH.1 150 (0, 30) rfl) (by omega) (by omega) ?_
                    refine qm_Ru.go 1 (c' := (103, [.ref 118, .int b, .int y, .int r, .int v21, .int v40, .int v5, .int v41, .int v44], [.ref 118], (h.1, qm_up I42 150 (b.toInt.toNat) v5, J43, h.2.2.2))) rfl ?_
                    refine hk_getr rfl (hH.1 118 (17, 105) rfl) rfl (hH.2 118 50 (some 151) rfl) ?_
                    refine qm_Ru.go 2 (c' := (109, [.ref 118, .int b, .int y, .int r, .int v21, .int v40, .int v5, .int v41, .int v44], [.int v41, .int b, .ref 151], (h.1, qm_up I42 150 (b.toInt.toNat) v5, J43, h.2.2.2))) rfl ?_
                    refine hk_ias rfl (hH.1 151 (0, 30) rfl) (by omega) (by omega) ?_
                    refine qm_Ru.go 3 (c' := (115, [.ref 118, .int b, .int y, .int r, .int v21, .int v40, .int v5, .int v41, .int v44], [.int (v44 - v40)], (h.1, qm_up (qm_up I42 150 (b.toInt.toNat) v5) 151 (b.toInt.toNat) v41, J43, h.2.2.2))) rfl ?_
                    obtain ⟨v45, q_v45⟩ : ∃ v, (v44 - v40) = v := ⟨_, rfl⟩
                    rw [q_v45]
                    refine qm_Ru.rt (v := (some (.int v45))) (h' := (h.1, qm_up (qm_up I42 150 (b.toInt.toNat) v5) 151 (b.toInt.toNat) v41, J43, h.2.2.2)) rfl ?_
                    exact k (some (.int v45)) (qm_up (qm_up I42 150 (b.toInt.toNat) v5) 151 (b.toInt.toNat) v41) (J43) ⟨_, rfl, qa_in_full _⟩ (hb_up (o := 151) (k := b.toInt.toNat) (x := v41) (hb_up (o := 150) (k := b.toInt.toNat) (x := v5) hB_I42 ⟨by show (0 : Int) ≤ v5.toInt; omega, by show v5.toInt ≤ (2 : Int); omega⟩) ⟨by show (0 : Int) ≤ v41.toInt; omega, by show v41.toInt ≤ (79 : Int); omega⟩) (v_Q_cg8 (mod := [118, 144, 145]) hV (fun o ho i => (would_back e_I42 ((e_I38 150 rfl (b.toInt.toNat)).trans q_v5) ((e_I38 151 rfl (b.toInt.toNat)).trans q_v41) o ho i).trans (e_I38 o ho i)) (fun i hi => (hk_ot rfl).trans ((hk_ot rfl).trans ((e8_I42 i hi).trans ((hk_ot rfl).trans ((hk_ot rfl).trans (e8_I38 i hi)))))) rfl) (fun o ho i => (fun o ho i => (would_back e_I42 ((e_I38 150 rfl (b.toInt.toNat)).trans q_v5) ((e_I38 151 rfl (b.toInt.toNat)).trans q_v41) o ho i).trans (e_I38 o ho i)) o (hk_ms rfl ho) i)
                · refine qm_Ru.go 2 (c' := (17, [.ref 118, .int y], [.int 1], h)) rfl ?_
                  refine qm_Ru.rt (v := (some (.int 1))) (h' := h) rfl ?_
                  refine qm_Ru.go 4 (c' := (22, [.ref 118, .int y, .int r, .float 0], [.int (v16 + 2)], h)) rfl ?_
                  obtain ⟨v46, q_v46, e_v46⟩ := hk_add (x := v16) (y := 2) (a := v16.toInt) (b := 2) rfl rfl (by omega) (by omega)
                  rw [q_v46]
                  refine qm_Ru.go 2 (c' := (24, [.ref 118, .int y, .int r, .int v46], [.ref 118], h)) rfl ?_
                  refine hk_getr rfl (hH.1 118 (17, 105) rfl) rfl (hH.2 118 51 (some 152) rfl) ?_
                  refine qm_Ru.go 1 (c' := (28, [.ref 118, .int y, .int r, .int v46], [.int v46, .ref 152], h)) rfl ?_
                  obtain ⟨v47, q_v47⟩ : ∃ v, h.2.1 152 (v46.toInt.toNat) = v := ⟨_, rfl⟩
                  have b_v47 : (-1 : Int) ≤ v47.toInt ∧ v47.toInt ≤ 29 := by rw [← q_v47]; exact hB 152 (v46.toInt.toNat)
                  refine hk_ial (v := v47) rfl (hH.1 152 (0, 80) rfl) (by omega) (by omega) q_v47 ?_
                  refine qm_Ru.go 1 (c' := (30, [.ref 118, .int y, .int r, .int v46], [.int (-1), .int v47], h)) rfl ?_
                  refine hk_cne (ix := v47.toInt) (iy := (-1)) rfl rfl rfl (fun z48 => ?_) (fun z48 => ?_)
                  · refine qm_Ru.go 1 (c' := (38, [.ref 118, .int y, .int r, .int v46], [.ref 118], h)) rfl ?_
                    refine hk_getr rfl (hH.1 118 (17, 105) rfl) rfl (hH.2 118 51 (some 152) rfl) ?_
                    refine qm_Ru.go 3 (c' := (44, [.ref 118, .int y, .int r, .int v46], [.int (v46 + 1), .ref 152], h)) rfl ?_
                    obtain ⟨v49, q_v49, e_v49⟩ := hk_add (x := v46) (y := 1) (a := v46.toInt) (b := 1) rfl rfl (by omega) (by omega)
                    rw [q_v49]
                    obtain ⟨v50, q_v50⟩ : ∃ v, h.2.1 152 (v49.toInt.toNat) = v := ⟨_, rfl⟩
                    have b_v50 : (-1 : Int) ≤ v50.toInt ∧ v50.toInt ≤ 29 := by rw [← q_v50]; exact hB 152 (v49.toInt.toNat)
                    refine hk_ial (v := v50) rfl (hH.1 152 (0, 80) rfl) (by omega) (by omega) q_v50 ?_
                    refine qm_Ru.go 1 (c' := (46, [.ref 118, .int y, .int r, .int v46], [.int (-1), .int v50], h)) rfl ?_
                    refine hk_cne (ix := v50.toInt) (iy := (-1)) rfl rfl rfl (fun z51 => ?_) (fun z51 => ?_)
                    · refine qm_Ru.go 1 (c' := (56, [.ref 118, .int y, .int r, .int v46], [.int (-1)], h)) rfl ?_
                      refine qm_Ru.rt (v := (some (.int (-1)))) (h' := h) rfl ?_
                      refine qm_Ru.go 5 (c' := (50, [.ref 118, .int b, .int y, .int r, .int (-1), .float 0, .float 0, .float 0, .float 0], [.int (-1)], h)) rfl ?_
                      refine qm_Ru.rt (v := (some (.int (-1)))) (h' := h) rfl ?_
                      exact k (some (.int (-1))) (h.2.1) (h.2.2.1) ⟨_, rfl, ⟨by decide, by decide⟩⟩ hB hV (fun _ _ _ => rfl)
                    · refine qm_Ru.go 3 (c' := (52, [.ref 118, .int y, .int r, .int v46], [.int (v46 + 1)], h)) rfl ?_
                      rw [q_v49]
                      refine qm_Ru.go 1 (c' := (56, [.ref 118, .int y, .int r, .int v46], [.int v49], h)) rfl ?_
                      refine qm_Ru.rt (v := (some (.int v49))) (h' := h) rfl ?_
                      refine qm_Ru.go 3 (c' := (46, [.ref 118, .int b, .int y, .int r, .int v49, .float 0, .float 0, .float 0, .float 0], [.int (-1), .int v49], h)) rfl ?_
                      refine hk_cne (ix := v49.toInt) (iy := (-1)) rfl rfl rfl (fun z53 => ?_) (fun z53 => by exfalso; omega)
                      refine qm_Ru.go 1 (c' := (52, [.ref 118, .int b, .int y, .int r, .int v49, .float 0, .float 0, .float 0, .float 0], [.ref 118], h)) rfl ?_
                      refine hk_inv (o := 118) (r := []) (as := [.ref 118]) rfl rfl (hH.1 118 (17, 105) rfl) rfl rfl rfl rfl (hs_broken (h := h) h6 hH hB  (show s_P (h.2.1) from (s_P_cg3 hV.2 rfl rfl rfl rfl rfl rfl rfl rfl rfl rfl)) (fun v56 I54 J55 hB_I54 e_I54 e8_I54 => ?_))
                      refine qm_Ru.go 2 (c' := (58, [.ref 118, .int b, .int y, .int r, .int v49, .int v56, .float 0, .float 0, .float 0], [.ref 118], (h.1, I54, J55, h.2.2.2))) rfl ?_
                      refine hk_getr rfl (hH.1 118 (17, 105) rfl) rfl (hH.2 118 49 (some 150) rfl) ?_
                      refine qm_Ru.go 1 (c' := (62, [.ref 118, .int b, .int y, .int r, .int v49, .int v56, .float 0, .float 0, .float 0], [.int b, .ref 150], (h.1, I54, J55, h.2.2.2))) rfl ?_
                      refine hk_ial (v := v5) rfl (hH.1 150 (0, 30) rfl) (by omega) (by omega) (show (I54) 150 (b.toInt.toNat) = _ from ((e_I54 150 rfl (b.toInt.toNat)).trans q_v5)) ?_
                      refine qm_Ru.go 2 (c' := (66, [.ref 118, .int b, .int y, .int r, .int v49, .int v56, .int v5, .float 0, .float 0], [.ref 118], (h.1, I54, J55, h.2.2.2))) rfl ?_
                      refine hk_getr rfl (hH.1 118 (17, 105) rfl) rfl (hH.2 118 50 (some 151) rfl) ?_
                      refine qm_Ru.go 1 (c' := (70, [.ref 118, .int b, .int y, .int r, .int v49, .int v56, .int v5, .float 0, .float 0], [.int b, .ref 151], (h.1, I54, J55, h.2.2.2))) rfl ?_
                      obtain ⟨v57, q_v57⟩ : ∃ v, h.2.1 151 (b.toInt.toNat) = v := ⟨_, rfl⟩
                      have b_v57 : (0 : Int) ≤ v57.toInt ∧ v57.toInt ≤ 79 := by rw [← q_v57]; exact hB 151 (b.toInt.toNat)
                      refine hk_ial (v := v57) rfl (hH.1 151 (0, 30) rfl) (by omega) (by omega) (show (I54) 151 (b.toInt.toNat) = _ from ((e_I54 151 rfl (b.toInt.toNat)).trans q_v57)) ?_
                      refine qm_Ru.go 2 (c' := (74, [.ref 118, .int b, .int y, .int r, .int v49, .int v56, .int v5, .int v57, .float 0], [.ref 118], (h.1, I54, J55, h.2.2.2))) rfl ?_
                      refine hk_getr rfl (hH.1 118 (17, 105) rfl) rfl (hH.2 118 49 (some 150) rfl) ?_
                      refine qm_Ru.go 2 (c' := (79, [.ref 118, .int b, .int y, .int r, .int v49, .int v56, .int v5, .int v57, .float 0], [.int 1, .int b, .ref 150], (h.1, I54, J55, h.2.2.2))) rfl ?_
                      refine hk_ias rfl (hH.1 150 (0, 30) rfl) (by omega) (by omega) ?_
                      refine qm_Ru.go 1 (c' := (81, [.ref 118, .int b, .int y, .int r, .int v49, .int v56, .int v5, .int v57, .float 0], [.ref 118], (h.1, qm_up I54 150 (b.toInt.toNat) 1, J55, h.2.2.2))) rfl ?_
                      refine hk_getr rfl (hH.1 118 (17, 105) rfl) rfl (hH.2 118 50 (some 151) rfl) ?_
                      refine qm_Ru.go 2 (c' := (87, [.ref 118, .int b, .int y, .int r, .int v49, .int v56, .int v5, .int v57, .float 0], [.int v49, .int b, .ref 151], (h.1, qm_up I54 150 (b.toInt.toNat) 1, J55, h.2.2.2))) rfl ?_
                      refine hk_ias rfl (hH.1 151 (0, 30) rfl) (by omega) (by omega) ?_
                      refine qm_Ru.go 1 (c' := (89, [.ref 118, .int b, .int y, .int r, .int v49, .int v56, .int v5, .int v57, .float 0], [.ref 118], (h.1, qm_up (qm_up I54 150 (b.toInt.toNat) 1) 151 (b.toInt.toNat) v49, J55, h.2.2.2))) rfl ?_
                      refine hk_inv (o := 118) (r := []) (as := [.ref 118]) rfl rfl (hH.1 118 (17, 105) rfl) rfl rfl rfl rfl (hs_broken (h := (h.1, qm_up (qm_up I54 150 (b.toInt.toNat) 1) 151 (b.toInt.toNat) v49, J55, h.2.2.2)) h6 hH (hb_up (o := 151) (k := b.toInt.toNat) (x := v49) (hb_up (o := 150) (k := b.toInt.toNat) (x := 1) hB_I54 ⟨(show (0 : Int) ≤ 1 from by decide), (show (1 : Int) ≤ 2 from by decide)⟩) ⟨by show (0 : Int) ≤ v49.toInt; omega, by show v49.toInt ≤ (79 : Int); omega⟩)  (show s_P (qm_up (qm_up I54 150 (b.toInt.toNat) 1) 151 (b.toInt.toNat) v49) from (s_P_cg3 hV.2 ((pI_sk rfl).trans ((pI_sk rfl).trans ((funext fun i => congrArg Int32.toInt (e_I54 131 rfl i)).trans rfl))) ((pI_sk rfl).trans ((pI_sk rfl).trans ((funext fun i => congrArg Int32.toInt (e_I54 132 rfl i)).trans rfl))) ((pI_sk rfl).trans ((pI_sk rfl).trans ((funext fun i => congrArg Int32.toInt (e_I54 133 rfl i)).trans rfl))) ((pI_sk rfl).trans ((pI_sk rfl).trans ((funext fun i => congrArg Int32.toInt (e_I54 134 rfl i)).trans rfl))) ((pI_sk rfl).trans ((pI_sk rfl).trans ((funext fun i => congrArg Int32.toInt (e_I54 138 rfl i)).trans rfl))) ((pI_sk rfl).trans ((pI_sk rfl).trans ((funext fun i => congrArg Int32.toInt (e_I54 139 rfl i)).trans rfl))) ((pI_sk rfl).trans ((pI_sk rfl).trans ((funext fun i => congrArg Int32.toInt (e_I54 140 rfl i)).trans rfl))) ((pI_sk rfl).trans ((pI_sk rfl).trans ((funext fun i => congrArg Int32.toInt (e_I54 141 rfl i)).trans rfl))) ((pI_sk rfl).trans ((pI_sk rfl).trans ((funext fun i => congrArg Int32.toInt (e_I54 142 rfl i)).trans rfl))) ((hk_ot rfl).trans ((hk_ot rfl).trans ((e8_I54 18 (by decide)).trans rfl))))) (fun v60 I58 J59 hB_I58 e_I58 e8_I58 => ?_))
                      have e_I58 : ∀ o, [118, 144, 145].contains o = false → ∀ i, I58 o i = (qm_up (qm_up I54 150 (b.toInt.toNat) 1) 151 (b.toInt.toNat) v49) o i := e_I58
                      have e8_I58 : ∀ i, i ≠ 57 → I58 118 i = (qm_up (qm_up I54 150 (b.toInt.toNat) 1) 151 (b.toInt.toNat) v49) 118 i := e8_I58
                      refine qm_Ru.go 2 (c' := (95, [.ref 118, .int b, .int y, .int r, .int v49, .int v56, .int v5, .int v57, .int v60], [.ref 118], (h.1, I58, J59, h.2.2.2))) rfl ?_
                      refine hk_getr rfl (hH.1 118 (17, 105) rfl) rfl (hH.2 118 49 (some 150) rfl) ?_
                      refine qm_Ru.go 2 (c' := (101, [.ref 118, .int b, .int y, .int r, .int v49, .int v56, .int v5, .int v57, .int v60], [.int v5, .int b, .ref 150], (h.1, I58, J59, h.2.2.2))) rfl ?_
                      refine hk_ias rfl (hH.1 150 (0, 30) rfl) (by omega) (by omega) ?_
                      refine qm_Ru.go 1 (c' := (103, [.ref 118, .int b, .int y, .int r, .int v49, .int v56, .int v5, .int v57, .int v60], [.ref 118], (h.1, qm_up I58 150 (b.toInt.toNat) v5, J59, h.2.2.2))) rfl ?_
                      refine hk_getr rfl (hH.1 118 (17, 105) rfl) rfl (hH.2 118 50 (some 151) rfl) ?_
                      refine qm_Ru.go 2 (c' := (109, [.ref 118, .int b, .int y, .int r, .int v49, .int v56, .int v5, .int v57, .int v60], [.int v57, .int b, .ref 151], (h.1, qm_up I58 150 (b.toInt.toNat) v5, J59, h.2.2.2))) rfl ?_
                      refine hk_ias rfl (hH.1 151 (0, 30) rfl) (by omega) (by omega) ?_
                      refine qm_Ru.go 3 (c' := (115, [.ref 118, .int b, .int y, .int r, .int v49, .int v56, .int v5, .int v57, .int v60], [.int (v60 - v56)], (h.1, qm_up (qm_up I58 150 (b.toInt.toNat) v5) 151 (b.toInt.toNat) v57, J59, h.2.2.2))) rfl ?_
                      obtain ⟨v61, q_v61⟩ : ∃ v, (v60 - v56) = v := ⟨_, rfl⟩
                      rw [q_v61]
                      refine qm_Ru.rt (v := (some (.int v61))) (h' := (h.1, qm_up (qm_up I58 150 (b.toInt.toNat) v5) 151 (b.toInt.toNat) v57, J59, h.2.2.2)) rfl ?_
                      exact k (some (.int v61)) (qm_up (qm_up I58 150 (b.toInt.toNat) v5) 151 (b.toInt.toNat) v57) (J59) ⟨_, rfl, qa_in_full _⟩ (hb_up (o := 151) (k := b.toInt.toNat) (x := v57) (hb_up (o := 150) (k := b.toInt.toNat) (x := v5) hB_I58 ⟨by show (0 : Int) ≤ v5.toInt; omega, by show v5.toInt ≤ (2 : Int); omega⟩) ⟨by show (0 : Int) ≤ v57.toInt; omega, by show v57.toInt ≤ (79 : Int); omega⟩) (v_Q_cg8 (mod := [118, 144, 145]) hV (fun o ho i => (would_back e_I58 ((e_I54 150 rfl (b.toInt.toNat)).trans q_v5) ((e_I54 151 rfl (b.toInt.toNat)).trans q_v57) o ho i).trans (e_I54 o ho i)) (fun i hi => (hk_ot rfl).trans ((hk_ot rfl).trans ((e8_I58 i hi).trans ((hk_ot rfl).trans ((hk_ot rfl).trans (e8_I54 i hi)))))) rfl) (fun o ho i => (fun o ho i => (would_back e_I58 ((e_I54 150 rfl (b.toInt.toNat)).trans q_v5) ((e_I54 151 rfl (b.toInt.toNat)).trans q_v57) o ho i).trans (e_I54 o ho i)) o (hk_ms rfl ho) i)
                  · refine qm_Ru.go 2 (c' := (56, [.ref 118, .int y, .int r, .int v46], [.int v46], h)) rfl ?_
                    refine qm_Ru.rt (v := (some (.int v46))) (h' := h) rfl ?_
                    refine qm_Ru.go 3 (c' := (46, [.ref 118, .int b, .int y, .int r, .int v46, .float 0, .float 0, .float 0, .float 0], [.int (-1), .int v46], h)) rfl ?_
                    refine hk_cne (ix := v46.toInt) (iy := (-1)) rfl rfl rfl (fun z62 => ?_) (fun z62 => by exfalso; omega)
                    refine qm_Ru.go 1 (c' := (52, [.ref 118, .int b, .int y, .int r, .int v46, .float 0, .float 0, .float 0, .float 0], [.ref 118], h)) rfl ?_
                    refine hk_inv (o := 118) (r := []) (as := [.ref 118]) rfl rfl (hH.1 118 (17, 105) rfl) rfl rfl rfl rfl (hs_broken (h := h) h6 hH hB  (show s_P (h.2.1) from (s_P_cg3 hV.2 rfl rfl rfl rfl rfl rfl rfl rfl rfl rfl)) (fun v65 I63 J64 hB_I63 e_I63 e8_I63 => ?_))
                    refine qm_Ru.go 2 (c' := (58, [.ref 118, .int b, .int y, .int r, .int v46, .int v65, .float 0, .float 0, .float 0], [.ref 118], (h.1, I63, J64, h.2.2.2))) rfl ?_
                    refine hk_getr rfl (hH.1 118 (17, 105) rfl) rfl (hH.2 118 49 (some 150) rfl) ?_
                    refine qm_Ru.go 1 (c' := (62, [.ref 118, .int b, .int y, .int r, .int v46, .int v65, .float 0, .float 0, .float 0], [.int b, .ref 150], (h.1, I63, J64, h.2.2.2))) rfl ?_
                    refine hk_ial (v := v5) rfl (hH.1 150 (0, 30) rfl) (by omega) (by omega) (show (I63) 150 (b.toInt.toNat) = _ from ((e_I63 150 rfl (b.toInt.toNat)).trans q_v5)) ?_
                    refine qm_Ru.go 2 (c' := (66, [.ref 118, .int b, .int y, .int r, .int v46, .int v65, .int v5, .float 0, .float 0], [.ref 118], (h.1, I63, J64, h.2.2.2))) rfl ?_
                    refine hk_getr rfl (hH.1 118 (17, 105) rfl) rfl (hH.2 118 50 (some 151) rfl) ?_
                    refine qm_Ru.go 1 (c' := (70, [.ref 118, .int b, .int y, .int r, .int v46, .int v65, .int v5, .float 0, .float 0], [.int b, .ref 151], (h.1, I63, J64, h.2.2.2))) rfl ?_
                    obtain ⟨v66, q_v66⟩ : ∃ v, h.2.1 151 (b.toInt.toNat) = v := ⟨_, rfl⟩
                    have b_v66 : (0 : Int) ≤ v66.toInt ∧ v66.toInt ≤ 79 := by rw [← q_v66]; exact hB 151 (b.toInt.toNat)
                    refine hk_ial (v := v66) rfl (hH.1 151 (0, 30) rfl) (by omega) (by omega) (show (I63) 151 (b.toInt.toNat) = _ from ((e_I63 151 rfl (b.toInt.toNat)).trans q_v66)) ?_
                    refine qm_Ru.go 2 (c' := (74, [.ref 118, .int b, .int y, .int r, .int v46, .int v65, .int v5, .int v66, .float 0], [.ref 118], (h.1, I63, J64, h.2.2.2))) rfl ?_
                    refine hk_getr rfl (hH.1 118 (17, 105) rfl) rfl (hH.2 118 49 (some 150) rfl) ?_
                    refine qm_Ru.go 2 (c' := (79, [.ref 118, .int b, .int y, .int r, .int v46, .int v65, .int v5, .int v66, .float 0], [.int 1, .int b, .ref 150], (h.1, I63, J64, h.2.2.2))) rfl ?_
                    refine hk_ias rfl (hH.1 150 (0, 30) rfl) (by omega) (by omega) ?_
                    refine qm_Ru.go 1 (c' := (81, [.ref 118, .int b, .int y, .int r, .int v46, .int v65, .int v5, .int v66, .float 0], [.ref 118], (h.1, qm_up I63 150 (b.toInt.toNat) 1, J64, h.2.2.2))) rfl ?_
                    refine hk_getr rfl (hH.1 118 (17, 105) rfl) rfl (hH.2 118 50 (some 151) rfl) ?_
                    refine qm_Ru.go 2 (c' := (87, [.ref 118, .int b, .int y, .int r, .int v46, .int v65, .int v5, .int v66, .float 0], [.int v46, .int b, .ref 151], (h.1, qm_up I63 150 (b.toInt.toNat) 1, J64, h.2.2.2))) rfl ?_
                    refine hk_ias rfl (hH.1 151 (0, 30) rfl) (by omega) (by omega) ?_
                    refine qm_Ru.go 1 (c' := (89, [.ref 118, .int b, .int y, .int r, .int v46, .int v65, .int v5, .int v66, .float 0], [.ref 118], (h.1, qm_up (qm_up I63 150 (b.toInt.toNat) 1) 151 (b.toInt.toNat) v46, J64, h.2.2.2))) rfl ?_
                    refine hk_inv (o := 118) (r := []) (as := [.ref 118]) rfl rfl (hH.1 118 (17, 105) rfl) rfl rfl rfl rfl (hs_broken (h := (h.1, qm_up (qm_up I63 150 (b.toInt.toNat) 1) 151 (b.toInt.toNat) v46, J64, h.2.2.2)) h6 hH (hb_up (o := 151) (k := b.toInt.toNat) (x := v46) (hb_up (o := 150) (k := b.toInt.toNat) (x := 1) hB_I63 ⟨(show (0 : Int) ≤ 1 from by decide), (show (1 : Int) ≤ 2 from by decide)⟩) ⟨by show (0 : Int) ≤ v46.toInt; omega, by show v46.toInt ≤ (79 : Int); omega⟩)  (show s_P (qm_up (qm_up I63 150 (b.toInt.toNat) 1) 151 (b.toInt.toNat) v46) from (s_P_cg3 hV.2 ((pI_sk rfl).trans ((pI_sk rfl).trans ((funext fun i => congrArg Int32.toInt (e_I63 131 rfl i)).trans rfl))) ((pI_sk rfl).trans ((pI_sk rfl).trans ((funext fun i => congrArg Int32.toInt (e_I63 132 rfl i)).trans rfl))) ((pI_sk rfl).trans ((pI_sk rfl).trans ((funext fun i => congrArg Int32.toInt (e_I63 133 rfl i)).trans rfl))) ((pI_sk rfl).trans ((pI_sk rfl).trans ((funext fun i => congrArg Int32.toInt (e_I63 134 rfl i)).trans rfl))) ((pI_sk rfl).trans ((pI_sk rfl).trans ((funext fun i => congrArg Int32.toInt (e_I63 138 rfl i)).trans rfl))) ((pI_sk rfl).trans ((pI_sk rfl).trans ((funext fun i => congrArg Int32.toInt (e_I63 139 rfl i)).trans rfl))) ((pI_sk rfl).trans ((pI_sk rfl).trans ((funext fun i => congrArg Int32.toInt (e_I63 140 rfl i)).trans rfl))) ((pI_sk rfl).trans ((pI_sk rfl).trans ((funext fun i => congrArg Int32.toInt (e_I63 141 rfl i)).trans rfl))) ((pI_sk rfl).trans ((pI_sk rfl).trans ((funext fun i => congrArg Int32.toInt (e_I63 142 rfl i)).trans rfl))) ((hk_ot rfl).trans ((hk_ot rfl).trans ((e8_I63 18 (by decide)).trans rfl))))) (fun v69 I67 J68 hB_I67 e_I67 e8_I67 => ?_))
                    have e_I67 : ∀ o, [118, 144, 145].contains o = false → ∀ i, I67 o i = (qm_up (qm_up I63 150 (b.toInt.toNat) 1) 151 (b.toInt.toNat) v46) o i := e_I67
                    have e8_I67 : ∀ i, i ≠ 57 → I67 118 i = (qm_up (qm_up I63 150 (b.toInt.toNat) 1) 151 (b.toInt.toNat) v46) 118 i := e8_I67
                    refine qm_Ru.go 2 (c' := (95, [.ref 118, .int b, .int y, .int r, .int v46, .int v65, .int v5, .int v66, .int v69], [.ref 118], (h.1, I67, J68, h.2.2.2))) rfl ?_
                    refine hk_getr rfl (hH.1 118 (17, 105) rfl) rfl (hH.2 118 49 (some 150) rfl) ?_
                    refine qm_Ru.go 2 (c' := (101, [.ref 118, .int b, .int y, .int r, .int v46, .int v65, .int v5, .int v66, .int v69], [.int v5, .int b, .ref 150], (h.1, I67, J68, h.2.2.2))) rfl ?_
                    refine hk_ias rfl (hH.1 150 (0, 30) rfl) (by omega) (by omega) ?_
                    refine qm_Ru.go 1 (c' := (103, [.ref 118, .int b, .int y, .int r, .int v46, .int v65, .int v5, .int v66, .int v69], [.ref 118], (h.1, qm_up I67 150 (b.toInt.toNat) v5, J68, h.2.2.2))) rfl ?_
                    refine hk_getr rfl (hH.1 118 (17, 105) rfl) rfl (hH.2 118 50 (some 151) rfl) ?_
                    refine qm_Ru.go 2 (c' := (109, [.ref 118, .int b, .int y, .int r, .int v46, .int v65, .int v5, .int v66, .int v69], [.int v66, .int b, .ref 151], (h.1, qm_up I67 150 (b.toInt.toNat) v5, J68, h.2.2.2))) rfl ?_
                    refine hk_ias rfl (hH.1 151 (0, 30) rfl) (by omega) (by omega) ?_
                    refine qm_Ru.go 3 (c' := (115, [.ref 118, .int b, .int y, .int r, .int v46, .int v65, .int v5, .int v66, .int v69], [.int (v69 - v65)], (h.1, qm_up (qm_up I67 150 (b.toInt.toNat) v5) 151 (b.toInt.toNat) v66, J68, h.2.2.2))) rfl ?_
                    obtain ⟨v70, q_v70⟩ : ∃ v, (v69 - v65) = v := ⟨_, rfl⟩
                    rw [q_v70]
                    refine qm_Ru.rt (v := (some (.int v70))) (h' := (h.1, qm_up (qm_up I67 150 (b.toInt.toNat) v5) 151 (b.toInt.toNat) v66, J68, h.2.2.2)) rfl ?_
                    exact k (some (.int v70)) (qm_up (qm_up I67 150 (b.toInt.toNat) v5) 151 (b.toInt.toNat) v66) (J68) ⟨_, rfl, qa_in_full _⟩ (hb_up (o := 151) (k := b.toInt.toNat) (x := v66) (hb_up (o := 150) (k := b.toInt.toNat) (x := v5) hB_I67 ⟨by show (0 : Int) ≤ v5.toInt; omega, by show v5.toInt ≤ (2 : Int); omega⟩) ⟨by show (0 : Int) ≤ v66.toInt; omega, by show v66.toInt ≤ (79 : Int); omega⟩) (v_Q_cg8 (mod := [118, 144, 145]) hV (fun o ho i => (would_back e_I67 ((e_I63 150 rfl (b.toInt.toNat)).trans q_v5) ((e_I63 151 rfl (b.toInt.toNat)).trans q_v66) o ho i).trans (e_I63 o ho i)) (fun i hi => (hk_ot rfl).trans ((hk_ot rfl).trans ((e8_I67 i hi).trans ((hk_ot rfl).trans ((hk_ot rfl).trans (e8_I63 i hi)))))) rfl) (fun o ho i => (fun o ho i => (would_back e_I67 ((e_I63 150 rfl (b.toInt.toNat)).trans q_v5) ((e_I63 151 rfl (b.toInt.toNat)).trans q_v66) o ho i).trans (e_I63 o ho i)) o (hk_ms rfl ho) i)
