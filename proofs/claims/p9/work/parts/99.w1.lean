/-! contracts by hand -/
theorem hc_make : hk_ct v_C (fun _ => True) (fun as I => ∃ w p s : Int32, as = [.ref 6, .int w, .int p, .int s] ∧ qa_in (0, 40) w ∧ qa_in (0, 4) p ∧ qa_in (0, 5) s) 66 (some (-1, 29)) [6, 7, 8, 9, 10, 11, 12, 13, 14, 16, 17, 28, 36, 37] 20 := by
  intro L xs d Z h as h6 hH hT hB hV hp hd k
  obtain ⟨w, p, s, rfl, c_w, c_p, c_s⟩ := hp
  obtain ⟨d, rfl⟩ : ∃ e, d = e + 20 := ⟨d - 20, by omega⟩
  have b_w : (0 : Int) ≤ w.toInt ∧ w.toInt ≤ 40 := c_w
  have b_p : (0 : Int) ≤ p.toInt ∧ p.toInt ≤ 4 := c_p
  have b_s : (0 : Int) ≤ s.toInt ∧ s.toInt ≤ 5 := c_s
  show qm_Ru (some (L, xs)) (d + 20) cd_66 (qm_ent 4 [.ref 6, .int w, .int p, .int s] h) Z
  refine qm_Ru.go 1 (c' := (1, [.ref 6, .int w, .int p, .int s], [.ref 6], h)) rfl ?_
  obtain ⟨v1, q_v1⟩ : ∃ v, h.2.1 6 0 = v := ⟨_, rfl⟩
  have b_v1 : (0 : Int) ≤ v1.toInt ∧ v1.toInt ≤ 30 := by rw [← q_v1]; exact hB 6 0
  refine hk_geti (v := v1) rfl (hH.1 6 (6, 9) rfl) rfl q_v1 ?_
  refine qm_Ru.go 1 (c' := (6, [.ref 6, .int w, .int p, .int s], [.int 30, .int v1], h)) rfl ?_
  refine hk_clt (ix := v1.toInt) (iy := 30) rfl rfl rfl (fun z2 => ?_) (fun z2 => ?_)
  · refine qm_Ru.go 1 (c' := (12, [.ref 6, .int w, .int p, .int s], [.ref 6], h)) rfl ?_
    refine hk_getr rfl (hH.1 6 (6, 9) rfl) rfl (hH.2 6 1 (some 7) rfl) ?_
    refine qm_Ru.go 1 (c' := (16, [.ref 6, .int w, .int p, .int s], [.ref 6, .ref 7], h)) rfl ?_
    refine hk_geti (v := v1) rfl (hH.1 6 (6, 9) rfl) rfl q_v1 ?_
    refine qm_Ru.go 1 (c' := (20, [.ref 6, .int w, .int p, .int s], [.int w, .int v1, .ref 7], h)) rfl ?_
    refine hk_ias rfl (hH.1 7 (0, 30) rfl) (by omega) (by omega) ?_
    refine qm_Ru.go 1 (c' := (22, [.ref 6, .int w, .int p, .int s], [.ref 6], (h.1, qm_up h.2.1 7 (v1.toInt.toNat) w, h.2.2.1, h.2.2.2))) rfl ?_
    refine hk_getr rfl (hH.1 6 (6, 9) rfl) rfl (hH.2 6 2 (some 8) rfl) ?_
    refine qm_Ru.go 1 (c' := (26, [.ref 6, .int w, .int p, .int s], [.ref 6, .ref 8], (h.1, qm_up h.2.1 7 (v1.toInt.toNat) w, h.2.2.1, h.2.2.2))) rfl ?_
    refine hk_geti (v := v1) rfl (hH.1 6 (6, 9) rfl) rfl (show (qm_up h.2.1 7 (v1.toInt.toNat) w) 6 0 = _ from ((hk_ot rfl).trans q_v1)) ?_
    refine qm_Ru.go 1 (c' := (30, [.ref 6, .int w, .int p, .int s], [.int p, .int v1, .ref 8], (h.1, qm_up h.2.1 7 (v1.toInt.toNat) w, h.2.2.1, h.2.2.2))) rfl ?_
    refine hk_ias rfl (hH.1 8 (0, 30) rfl) (by omega) (by omega) ?_
    refine qm_Ru.go 1 (c' := (32, [.ref 6, .int w, .int p, .int s], [.ref 6], (h.1, qm_up (qm_up h.2.1 7 (v1.toInt.toNat) w) 8 (v1.toInt.toNat) p, h.2.2.1, h.2.2.2))) rfl ?_
    refine hk_getr rfl (hH.1 6 (6, 9) rfl) rfl (hH.2 6 3 (some 9) rfl) ?_
    refine qm_Ru.go 1 (c' := (36, [.ref 6, .int w, .int p, .int s], [.ref 6, .ref 9], (h.1, qm_up (qm_up h.2.1 7 (v1.toInt.toNat) w) 8 (v1.toInt.toNat) p, h.2.2.1, h.2.2.2))) rfl ?_
    refine hk_geti (v := v1) rfl (hH.1 6 (6, 9) rfl) rfl (show (qm_up (qm_up h.2.1 7 (v1.toInt.toNat) w) 8 (v1.toInt.toNat) p) 6 0 = _ from ((hk_ot rfl).trans ((hk_ot rfl).trans q_v1))) ?_
    refine qm_Ru.go 1 (c' := (40, [.ref 6, .int w, .int p, .int s], [.int s, .int v1, .ref 9], (h.1, qm_up (qm_up h.2.1 7 (v1.toInt.toNat) w) 8 (v1.toInt.toNat) p, h.2.2.1, h.2.2.2))) rfl ?_
    refine hk_ias rfl (hH.1 9 (0, 30) rfl) (by omega) (by omega) ?_
    refine qm_Ru.go 2 (c' := (43, [.ref 6, .int w, .int p, .int s], [.ref 6, .ref 6], (h.1, qm_up (qm_up (qm_up h.2.1 7 (v1.toInt.toNat) w) 8 (v1.toInt.toNat) p) 9 (v1.toInt.toNat) s, h.2.2.1, h.2.2.2))) rfl ?_
    refine hk_geti (v := v1) rfl (hH.1 6 (6, 9) rfl) rfl (show (qm_up (qm_up (qm_up h.2.1 7 (v1.toInt.toNat) w) 8 (v1.toInt.toNat) p) 9 (v1.toInt.toNat) s) 6 0 = _ from ((hk_ot rfl).trans ((hk_ot rfl).trans ((hk_ot rfl).trans q_v1)))) ?_
    refine qm_Ru.go 0 (c' := (46, [.ref 6, .int w, .int p, .int s], [.int v1, .ref 6], (h.1, qm_up (qm_up (qm_up h.2.1 7 (v1.toInt.toNat) w) 8 (v1.toInt.toNat) p) 9 (v1.toInt.toNat) s, h.2.2.1, h.2.2.2))) rfl ?_
    refine hk_inv (o := 6) (r := []) (as := [.ref 6, .int v1]) rfl rfl (hH.1 6 (6, 9) rfl) rfl rfl rfl rfl ?_
    refine qm_Ru.go 6 (c' := (6, [.ref 6, .int v1], [.int (-1), .int (-1), .int (-1), .int 0, .int v1, .ref 6], (h.1, qm_up (qm_up (qm_up h.2.1 7 (v1.toInt.toNat) w) 8 (v1.toInt.toNat) p) 9 (v1.toInt.toNat) s, h.2.2.1, h.2.2.2))) rfl ?_
    refine hk_inv (o := 6) (r := []) (as := [.ref 6, .int v1, .int 0, .int (-1), .int (-1), .int (-1)]) rfl rfl (hH.1 6 (6, 9) rfl) rfl rfl rfl rfl ?_
    refine qm_Ru.go 1 (c' := (1, [.ref 6, .int v1, .int 0, .int (-1), .int (-1), .int (-1)], [.ref 6], (h.1, qm_up (qm_up (qm_up h.2.1 7 (v1.toInt.toNat) w) 8 (v1.toInt.toNat) p) 9 (v1.toInt.toNat) s, h.2.2.1, h.2.2.2))) rfl ?_
    refine hk_getr rfl (hH.1 6 (6, 9) rfl) rfl (hH.2 6 5 (some 11) rfl) ?_
    refine qm_Ru.go 2 (c' := (6, [.ref 6, .int v1, .int 0, .int (-1), .int (-1), .int (-1)], [.int 0, .int v1, .ref 11], (h.1, qm_up (qm_up (qm_up h.2.1 7 (v1.toInt.toNat) w) 8 (v1.toInt.toNat) p) 9 (v1.toInt.toNat) s, h.2.2.1, h.2.2.2))) rfl ?_
    refine hk_ias rfl (hH.1 11 (0, 30) rfl) (by omega) (by omega) ?_
    refine qm_Ru.go 1 (c' := (8, [.ref 6, .int v1, .int 0, .int (-1), .int (-1), .int (-1)], [.ref 6], (h.1, qm_up (qm_up (qm_up (qm_up h.2.1 7 (v1.toInt.toNat) w) 8 (v1.toInt.toNat) p) 9 (v1.toInt.toNat) s) 11 (v1.toInt.toNat) 0, h.2.2.1, h.2.2.2))) rfl ?_
    refine hk_getr rfl (hH.1 6 (6, 9) rfl) rfl (hH.2 6 6 (some 12) rfl) ?_
    refine qm_Ru.go 2 (c' := (13, [.ref 6, .int v1, .int 0, .int (-1), .int (-1), .int (-1)], [.int (-1), .int v1, .ref 12], (h.1, qm_up (qm_up (qm_up (qm_up h.2.1 7 (v1.toInt.toNat) w) 8 (v1.toInt.toNat) p) 9 (v1.toInt.toNat) s) 11 (v1.toInt.toNat) 0, h.2.2.1, h.2.2.2))) rfl ?_
    refine hk_ias rfl (hH.1 12 (0, 30) rfl) (by omega) (by omega) ?_
    refine qm_Ru.go 1 (c' := (15, [.ref 6, .int v1, .int 0, .int (-1), .int (-1), .int (-1)], [.ref 6], (h.1, qm_up (qm_up (qm_up (qm_up (qm_up h.2.1 7 (v1.toInt.toNat) w) 8 (v1.toInt.toNat) p) 9 (v1.toInt.toNat) s) 11 (v1.toInt.toNat) 0) 12 (v1.toInt.toNat) (-1), h.2.2.1, h.2.2.2))) rfl ?_
    refine hk_getr rfl (hH.1 6 (6, 9) rfl) rfl (hH.2 6 7 (some 13) rfl) ?_
    refine qm_Ru.go 2 (c' := (21, [.ref 6, .int v1, .int 0, .int (-1), .int (-1), .int (-1)], [.int (-1), .int v1, .ref 13], (h.1, qm_up (qm_up (qm_up (qm_up (qm_up h.2.1 7 (v1.toInt.toNat) w) 8 (v1.toInt.toNat) p) 9 (v1.toInt.toNat) s) 11 (v1.toInt.toNat) 0) 12 (v1.toInt.toNat) (-1), h.2.2.1, h.2.2.2))) rfl ?_
    refine hk_ias rfl (hH.1 13 (0, 30) rfl) (by omega) (by omega) ?_
    refine qm_Ru.go 1 (c' := (23, [.ref 6, .int v1, .int 0, .int (-1), .int (-1), .int (-1)], [.ref 6], (h.1, qm_up (qm_up (qm_up (qm_up (qm_up (qm_up h.2.1 7 (v1.toInt.toNat) w) 8 (v1.toInt.toNat) p) 9 (v1.toInt.toNat) s) 11 (v1.toInt.toNat) 0) 12 (v1.toInt.toNat) (-1)) 13 (v1.toInt.toNat) (-1), h.2.2.1, h.2.2.2))) rfl ?_
    refine hk_getr rfl (hH.1 6 (6, 9) rfl) rfl (hH.2 6 8 (some 14) rfl) ?_
    refine qm_Ru.go 2 (c' := (29, [.ref 6, .int v1, .int 0, .int (-1), .int (-1), .int (-1)], [.int (-1), .int v1, .ref 14], (h.1, qm_up (qm_up (qm_up (qm_up (qm_up (qm_up h.2.1 7 (v1.toInt.toNat) w) 8 (v1.toInt.toNat) p) 9 (v1.toInt.toNat) s) 11 (v1.toInt.toNat) 0) 12 (v1.toInt.toNat) (-1)) 13 (v1.toInt.toNat) (-1), h.2.2.1, h.2.2.2))) rfl ?_
    refine hk_ias rfl (hH.1 14 (0, 30) rfl) (by omega) (by omega) ?_
    refine qm_Ru.go 0 (c' := (30, [.ref 6, .int v1, .int 0, .int (-1), .int (-1), .int (-1)], [], (h.1, qm_up (qm_up (qm_up (qm_up (qm_up (qm_up (qm_up h.2.1 7 (v1.toInt.toNat) w) 8 (v1.toInt.toNat) p) 9 (v1.toInt.toNat) s) 11 (v1.toInt.toNat) 0) 12 (v1.toInt.toNat) (-1)) 13 (v1.toInt.toNat) (-1)) 14 (v1.toInt.toNat) (-1), h.2.2.1, h.2.2.2))) rfl ?_
    refine qm_Ru.rt (v := none) (h' := (h.1, qm_up (qm_up (qm_up (qm_up (qm_up (qm_up (qm_up h.2.1 7 (v1.toInt.toNat) w) 8 (v1.toInt.toNat) p) 9 (v1.toInt.toNat) s) 11 (v1.toInt.toNat) 0) 12 (v1.toInt.toNat) (-1)) 13 (v1.toInt.toNat) (-1)) 14 (v1.toInt.toNat) (-1), h.2.2.1, h.2.2.2)) rfl ?_
    refine qm_Ru.go 0 (c' := (9, [.ref 6, .int v1], [], (h.1, qm_up (qm_up (qm_up (qm_up (qm_up (qm_up (qm_up h.2.1 7 (v1.toInt.toNat) w) 8 (v1.toInt.toNat) p) 9 (v1.toInt.toNat) s) 11 (v1.toInt.toNat) 0) 12 (v1.toInt.toNat) (-1)) 13 (v1.toInt.toNat) (-1)) 14 (v1.toInt.toNat) (-1), h.2.2.1, h.2.2.2))) rfl ?_
    refine qm_Ru.rt (v := none) (h' := (h.1, qm_up (qm_up (qm_up (qm_up (qm_up (qm_up (qm_up h.2.1 7 (v1.toInt.toNat) w) 8 (v1.toInt.toNat) p) 9 (v1.toInt.toNat) s) 11 (v1.toInt.toNat) 0) 12 (v1.toInt.toNat) (-1)) 13 (v1.toInt.toNat) (-1)) 14 (v1.toInt.toNat) (-1), h.2.2.1, h.2.2.2)) rfl ?_
    refine qm_Ru.go 2 (c' := (51, [.ref 6, .int w, .int p, .int s], [.ref 6, .ref 6], (h.1, qm_up (qm_up (qm_up (qm_up (qm_up (qm_up (qm_up h.2.1 7 (v1.toInt.toNat) w) 8 (v1.toInt.toNat) p) 9 (v1.toInt.toNat) s) 11 (v1.toInt.toNat) 0) 12 (v1.toInt.toNat) (-1)) 13 (v1.toInt.toNat) (-1)) 14 (v1.toInt.toNat) (-1), h.2.2.1, h.2.2.2))) rfl ?_
    refine hk_geti (v := v1) rfl (hH.1 6 (6, 9) rfl) rfl (show (qm_up (qm_up (qm_up (qm_up (qm_up (qm_up (qm_up h.2.1 7 (v1.toInt.toNat) w) 8 (v1.toInt.toNat) p) 9 (v1.toInt.toNat) s) 11 (v1.toInt.toNat) 0) 12 (v1.toInt.toNat) (-1)) 13 (v1.toInt.toNat) (-1)) 14 (v1.toInt.toNat) (-1)) 6 0 = _ from ((hk_ot rfl).trans ((hk_ot rfl).trans ((hk_ot rfl).trans ((hk_ot rfl).trans ((hk_ot rfl).trans ((hk_ot rfl).trans ((hk_ot rfl).trans q_v1)))))))) ?_
    refine qm_Ru.go 2 (c' := (56, [.ref 6, .int w, .int p, .int s], [.int (v1 + 1), .ref 6], (h.1, qm_up (qm_up (qm_up (qm_up (qm_up (qm_up (qm_up h.2.1 7 (v1.toInt.toNat) w) 8 (v1.toInt.toNat) p) 9 (v1.toInt.toNat) s) 11 (v1.toInt.toNat) 0) 12 (v1.toInt.toNat) (-1)) 13 (v1.toInt.toNat) (-1)) 14 (v1.toInt.toNat) (-1), h.2.2.1, h.2.2.2))) rfl ?_
    obtain ⟨v3, q_v3, e_v3⟩ := hk_add (x := v1) (y := 1) (a := v1.toInt) (b := 1) rfl rfl (by omega) (by omega)
    rw [q_v3]
    refine hk_puti rfl (hH.1 6 (6, 9) rfl) rfl ?_
    refine qm_Ru.go 1 (c' := (60, [.ref 6, .int w, .int p, .int s], [.ref 6], (h.1, qm_up (qm_up (qm_up (qm_up (qm_up (qm_up (qm_up (qm_up h.2.1 7 (v1.toInt.toNat) w) 8 (v1.toInt.toNat) p) 9 (v1.toInt.toNat) s) 11 (v1.toInt.toNat) 0) 12 (v1.toInt.toNat) (-1)) 13 (v1.toInt.toNat) (-1)) 14 (v1.toInt.toNat) (-1)) 6 0 v3, h.2.2.1, h.2.2.2))) rfl ?_
    refine hk_geti (v := v3) rfl (hH.1 6 (6, 9) rfl) rfl (show (qm_up (qm_up (qm_up (qm_up (qm_up (qm_up (qm_up (qm_up h.2.1 7 (v1.toInt.toNat) w) 8 (v1.toInt.toNat) p) 9 (v1.toInt.toNat) s) 11 (v1.toInt.toNat) 0) 12 (v1.toInt.toNat) (-1)) 13 (v1.toInt.toNat) (-1)) 14 (v1.toInt.toNat) (-1)) 6 0 v3) 6 0 = _ from (hk_same)) ?_
    refine qm_Ru.go 2 (c' := (65, [.ref 6, .int w, .int p, .int s], [.int (v3 - 1)], (h.1, qm_up (qm_up (qm_up (qm_up (qm_up (qm_up (qm_up (qm_up h.2.1 7 (v1.toInt.toNat) w) 8 (v1.toInt.toNat) p) 9 (v1.toInt.toNat) s) 11 (v1.toInt.toNat) 0) 12 (v1.toInt.toNat) (-1)) 13 (v1.toInt.toNat) (-1)) 14 (v1.toInt.toNat) (-1)) 6 0 v3, h.2.2.1, h.2.2.2))) rfl ?_
    obtain ⟨v4, q_v4, e_v4⟩ := hk_sub (x := v3) (y := 1) (a := v3.toInt) (b := 1) rfl rfl (by omega) (by omega)
    rw [q_v4]
    refine qm_Ru.rt (v := (some (.int v4))) (h' := (h.1, qm_up (qm_up (qm_up (qm_up (qm_up (qm_up (qm_up (qm_up h.2.1 7 (v1.toInt.toNat) w) 8 (v1.toInt.toNat) p) 9 (v1.toInt.toNat) s) 11 (v1.toInt.toNat) 0) 12 (v1.toInt.toNat) (-1)) 13 (v1.toInt.toNat) (-1)) 14 (v1.toInt.toNat) (-1)) 6 0 v3, h.2.2.1, h.2.2.2)) rfl ?_
    exact k (some (.int v4)) (qm_up (qm_up (qm_up (qm_up (qm_up (qm_up (qm_up (qm_up h.2.1 7 (v1.toInt.toNat) w) 8 (v1.toInt.toNat) p) 9 (v1.toInt.toNat) s) 11 (v1.toInt.toNat) 0) 12 (v1.toInt.toNat) (-1)) 13 (v1.toInt.toNat) (-1)) 14 (v1.toInt.toNat) (-1)) 6 0 v3) (h.2.2.1) ⟨_, rfl, ⟨by show (-1 : Int) ≤ v4.toInt; omega, by show v4.toInt ≤ (29 : Int); omega⟩⟩ (hb_up (o := 6) (k := 0) (x := v3) (hb_up (o := 14) (k := v1.toInt.toNat) (x := (-1)) (hb_up (o := 13) (k := v1.toInt.toNat) (x := (-1)) (hb_up (o := 12) (k := v1.toInt.toNat) (x := (-1)) (hb_up (o := 11) (k := v1.toInt.toNat) (x := 0) (hb_up (o := 9) (k := v1.toInt.toNat) (x := s) (hb_up (o := 8) (k := v1.toInt.toNat) (x := p) (hb_up (o := 7) (k := v1.toInt.toNat) (x := w) hB ⟨by show (0 : Int) ≤ w.toInt; omega, by show w.toInt ≤ (40 : Int); omega⟩) ⟨by show (0 : Int) ≤ p.toInt; omega, by show p.toInt ≤ (4 : Int); omega⟩) ⟨by show (0 : Int) ≤ s.toInt; omega, by show s.toInt ≤ (5 : Int); omega⟩) ⟨(show (0 : Int) ≤ 0 from by decide), (show (0 : Int) ≤ 2 from by decide)⟩) ⟨(show (-1 : Int) ≤ -1 from by decide), (show (-1 : Int) ≤ 4 from by decide)⟩) ⟨(show (-1 : Int) ≤ -1 from by decide), (show (-1 : Int) ≤ 3 from by decide)⟩) ⟨(show (-1 : Int) ≤ -1 from by decide), (show (-1 : Int) ≤ 3 from by decide)⟩) ⟨by show (0 : Int) ≤ v3.toInt; omega, by show v3.toInt ≤ (30 : Int); omega⟩) ⟨⟨(mC_make (I := h.2.1) (I' := qm_up (qm_up (qm_up (qm_up (qm_up (qm_up (qm_up (qm_up h.2.1 7 (v1.toInt.toNat) w) 8 (v1.toInt.toNat) p) 9 (v1.toInt.toNat) s) 11 (v1.toInt.toNat) 0) 12 (v1.toInt.toNat) (-1)) 13 (v1.toInt.toNat) (-1)) 14 (v1.toInt.toNat) (-1)) 6 0 v3) hV.1.1 ((pI_sk rfl).trans ((pI_sk rfl).trans ((pI_sk rfl).trans ((pI_sk rfl).trans (pI_up.trans (congrArg (fun f => fu_up f v1.toInt.toNat (Int32.toInt 0)) ((pI_sk rfl).trans ((pI_sk rfl).trans ((pI_sk rfl).trans rfl))))))))) ((pI_sk rfl).trans ((pI_sk rfl).trans ((pI_sk rfl).trans (pI_up.trans (congrArg (fun f => fu_up f v1.toInt.toNat (Int32.toInt ((-1)))) ((pI_sk rfl).trans ((pI_sk rfl).trans ((pI_sk rfl).trans ((pI_sk rfl).trans rfl))))))))) ((pI_sk rfl).trans ((pI_sk rfl).trans (pI_up.trans (congrArg (fun f => fu_up f v1.toInt.toNat (Int32.toInt ((-1)))) ((pI_sk rfl).trans ((pI_sk rfl).trans ((pI_sk rfl).trans ((pI_sk rfl).trans ((pI_sk rfl).trans rfl))))))))) ((pI_sk rfl).trans (pI_up.trans (congrArg (fun f => fu_up f v1.toInt.toNat (Int32.toInt ((-1)))) ((pI_sk rfl).trans ((pI_sk rfl).trans ((pI_sk rfl).trans ((pI_sk rfl).trans ((pI_sk rfl).trans ((pI_sk rfl).trans rfl))))))))) ((pI_sk rfl).trans ((pI_sk rfl).trans ((pI_sk rfl).trans ((pI_sk rfl).trans ((pI_sk rfl).trans ((pI_sk rfl).trans ((pI_sk rfl).trans ((pI_sk rfl).trans rfl)))))))) ((pI_sk rfl).trans ((pI_sk rfl).trans ((pI_sk rfl).trans ((pI_sk rfl).trans ((pI_sk rfl).trans ((pI_sk rfl).trans ((pI_sk rfl).trans ((pI_sk rfl).trans rfl)))))))) ((pI_sk rfl).trans ((pI_sk rfl).trans ((pI_sk rfl).trans ((pI_sk rfl).trans ((pI_sk rfl).trans ((pI_sk rfl).trans ((pI_sk rfl).trans ((pI_sk rfl).trans rfl)))))))) rfl (congrArg Int32.toInt q_v1) rfl (by omega) e_v3), hV.1.2⟩, hV.2⟩ (fun o ho i => ((hk_mod ho rfl).trans ((hk_mod ho rfl).trans ((hk_mod ho rfl).trans ((hk_mod ho rfl).trans ((hk_mod ho rfl).trans ((hk_mod ho rfl).trans ((hk_mod ho rfl).trans ((hk_mod ho rfl).trans rfl)))))))))
  · refine qm_Ru.go 1 (c' := (10, [.ref 6, .int w, .int p, .int s], [.int (-1)], h)) rfl ?_
    refine qm_Ru.rt (v := (some (.int (-1)))) (h' := h) rfl ?_
    exact k (some (.int (-1))) (h.2.1) (h.2.2.1) ⟨_, rfl, ⟨by decide, by decide⟩⟩ hB hV (fun _ _ _ => rfl)
theorem hc_store : hk_ct v_C (fun _ => True) (fun as I => ∃ b s : Int32, as = [.ref 0, .int b, .int s] ∧ qa_in (-2147483648, 2147483647) b ∧ qa_in (-2147483648, 2147483647) s) 76 (some (-1, 3)) [6, 7, 8, 9, 10, 11, 12, 13, 14, 16, 17, 28, 36, 37] 20 := by
  intro L xs d Z h as h6 hH hT hB hV hp hd k
  obtain ⟨b, s, rfl, c_b, c_s⟩ := hp
  obtain ⟨d, rfl⟩ : ∃ e, d = e + 20 := ⟨d - 20, by omega⟩
  have b_b : (-2147483648 : Int) ≤ b.toInt ∧ b.toInt ≤ 2147483647 := c_b
  have b_s : (-2147483648 : Int) ≤ s.toInt ∧ s.toInt ≤ 2147483647 := c_s
  show qm_Ru (some (L, xs)) (d + 20) cd_76 (qm_ent 3 [.ref 0, .int b, .int s] h) Z
  refine qm_Ru.go 1 (c' := (1, [.ref 0, .int b, .int s], [.ref 0], h)) rfl ?_
  refine hk_getr rfl (hH.1 0 (16, 10) rfl) rfl (hH.2 0 2 (some 6) rfl) ?_
  refine qm_Ru.go 1 (c' := (5, [.ref 0, .int b, .int s], [.int b, .ref 6], h)) rfl ?_
  refine hk_inv (o := 6) (r := []) (as := [.ref 6, .int b]) rfl rfl (hH.1 6 (6, 9) rfl) rfl rfl rfl rfl ?_
  refine qm_Ru.go 2 (c' := (2, [.ref 6, .int b], [.int b, .ref 6], h)) rfl ?_
  refine hk_inv (o := 6) (r := []) (as := [.ref 6, .int b]) rfl rfl (hH.1 6 (6, 9) rfl) rfl rfl rfl rfl ?_
  refine qm_Ru.go 1 (c' := (1, [.ref 6, .int b], [.int b], h)) rfl ?_
  refine hk_zlt (ix := b.toInt) rfl rfl (fun z1 => ?_) (fun z1 => ?_)
  · refine qm_Ru.go 1 (c' := (17, [.ref 6, .int b], [.int 0], h)) rfl ?_
    refine qm_Ru.rt (v := (some (.int 0))) (h' := h) rfl ?_
    refine qm_Ru.go 2 (c' := (22, [.ref 6, .int b], [.int 0], h)) rfl ?_
    refine qm_Ru.rt (v := (some (.int 0))) (h' := h) rfl ?_
    refine qm_Ru.go 2 (c' := (32, [.ref 0, .int b, .int s], [.int (-1)], h)) rfl ?_
    refine qm_Ru.rt (v := (some (.int (-1)))) (h' := h) rfl ?_
    exact k (some (.int (-1))) (h.2.1) (h.2.2.1) ⟨_, rfl, ⟨by decide, by decide⟩⟩ hB hV (fun _ _ _ => rfl)
  · refine qm_Ru.go 2 (c' := (6, [.ref 6, .int b], [.ref 6, .int b], h)) rfl ?_
    obtain ⟨v2, q_v2⟩ : ∃ v, h.2.1 6 0 = v := ⟨_, rfl⟩
    have b_v2 : (0 : Int) ≤ v2.toInt ∧ v2.toInt ≤ 30 := by rw [← q_v2]; exact hB 6 0
    refine hk_geti (v := v2) rfl (hH.1 6 (6, 9) rfl) rfl q_v2 ?_
    refine qm_Ru.go 0 (c' := (9, [.ref 6, .int b], [.int v2, .int b], h)) rfl ?_
    refine hk_cge (ix := b.toInt) (iy := v2.toInt) rfl rfl rfl (fun z3 => ?_) (fun z3 => ?_)
    · refine qm_Ru.go 1 (c' := (17, [.ref 6, .int b], [.int 0], h)) rfl ?_
      refine qm_Ru.rt (v := (some (.int 0))) (h' := h) rfl ?_
      refine qm_Ru.go 2 (c' := (22, [.ref 6, .int b], [.int 0], h)) rfl ?_
      refine qm_Ru.rt (v := (some (.int 0))) (h' := h) rfl ?_
      refine qm_Ru.go 2 (c' := (32, [.ref 0, .int b, .int s], [.int (-1)], h)) rfl ?_
      refine qm_Ru.rt (v := (some (.int (-1)))) (h' := h) rfl ?_
      exact k (some (.int (-1))) (h.2.1) (h.2.2.1) ⟨_, rfl, ⟨by decide, by decide⟩⟩ hB hV (fun _ _ _ => rfl)
    · refine qm_Ru.go 2 (c' := (17, [.ref 6, .int b], [.int 1], h)) rfl ?_
      refine qm_Ru.rt (v := (some (.int 1))) (h' := h) rfl ?_
      refine qm_Ru.go 2 (c' := (9, [.ref 6, .int b], [.ref 6], h)) rfl ?_
      refine hk_getr rfl (hH.1 6 (6, 9) rfl) rfl (hH.2 6 5 (some 11) rfl) ?_
      refine qm_Ru.go 1 (c' := (13, [.ref 6, .int b], [.int b, .ref 11], h)) rfl ?_
      obtain ⟨v4, q_v4⟩ : ∃ v, h.2.1 11 (b.toInt.toNat) = v := ⟨_, rfl⟩
      have b_v4 : (0 : Int) ≤ v4.toInt ∧ v4.toInt ≤ 2 := by rw [← q_v4]; exact hB 11 (b.toInt.toNat)
      refine hk_ial (v := v4) rfl (hH.1 11 (0, 30) rfl) (by omega) (by omega) q_v4 ?_
      refine qm_Ru.go 0 (c' := (14, [.ref 6, .int b], [.int v4], h)) rfl ?_
      refine hk_zne (ix := v4.toInt) rfl rfl (fun z5 => ?_) (fun z5 => ?_)
      · refine qm_Ru.go 1 (c' := (22, [.ref 6, .int b], [.int 0], h)) rfl ?_
        refine qm_Ru.rt (v := (some (.int 0))) (h' := h) rfl ?_
        refine qm_Ru.go 2 (c' := (32, [.ref 0, .int b, .int s], [.int (-1)], h)) rfl ?_
        refine qm_Ru.rt (v := (some (.int (-1)))) (h' := h) rfl ?_
        exact k (some (.int (-1))) (h.2.1) (h.2.2.1) ⟨_, rfl, ⟨by decide, by decide⟩⟩ hB hV (fun _ _ _ => rfl)
      · refine qm_Ru.go 2 (c' := (22, [.ref 6, .int b], [.int 1], h)) rfl ?_
        refine qm_Ru.rt (v := (some (.int 1))) (h' := h) rfl ?_
        refine qm_Ru.go 3 (c' := (13, [.ref 0, .int b, .int s], [.int 4, .int s], h)) rfl ?_
        refine qm_Ru.call (j := 65) (as := [.int s, .int 4]) (c' := (16, [.ref 0, .int b, .int s], [], h)) rfl rfl rfl ?_
        refine qm_Ru.go 1 (c' := (1, [.int s, .int 4], [.int s], h)) rfl ?_
        refine hk_zlt (ix := s.toInt) rfl rfl (fun z6 => ?_) (fun z6 => ?_)
        · refine qm_Ru.go 1 (c' := (14, [.int s, .int 4], [.int 0], h)) rfl ?_
          refine qm_Ru.rt (v := (some (.int 0))) (h' := h) rfl ?_
          refine qm_Ru.go 2 (c' := (32, [.ref 0, .int b, .int s], [.int (-1)], h)) rfl ?_
          refine qm_Ru.rt (v := (some (.int (-1)))) (h' := h) rfl ?_
          exact k (some (.int (-1))) (h.2.1) (h.2.2.1) ⟨_, rfl, ⟨by decide, by decide⟩⟩ hB hV (fun _ _ _ => rfl)
        · refine qm_Ru.go 2 (c' := (6, [.int s, .int 4], [.int 4, .int s], h)) rfl ?_
          refine hk_cge (ix := s.toInt) (iy := 4) rfl rfl rfl (fun z7 => ?_) (fun z7 => ?_)
          · refine qm_Ru.go 1 (c' := (14, [.int s, .int 4], [.int 0], h)) rfl ?_
            refine qm_Ru.rt (v := (some (.int 0))) (h' := h) rfl ?_
            refine qm_Ru.go 2 (c' := (32, [.ref 0, .int b, .int s], [.int (-1)], h)) rfl ?_
            refine qm_Ru.rt (v := (some (.int (-1)))) (h' := h) rfl ?_
            exact k (some (.int (-1))) (h.2.1) (h.2.2.1) ⟨_, rfl, ⟨by decide, by decide⟩⟩ hB hV (fun _ _ _ => rfl)
          · refine qm_Ru.go 2 (c' := (14, [.int s, .int 4], [.int 1], h)) rfl ?_
            refine qm_Ru.rt (v := (some (.int 1))) (h' := h) rfl ?_
            refine qm_Ru.go 2 (c' := (20, [.ref 0, .int b, .int s], [.ref 0], h)) rfl ?_
            refine hk_getr rfl (hH.1 0 (16, 10) rfl) rfl (hH.2 0 3 (some 15) rfl) ?_
            refine qm_Ru.go 1 (c' := (24, [.ref 0, .int b, .int s], [.int s, .ref 15], h)) rfl ?_
            refine hk_inv (o := 15) (r := []) (as := [.ref 15, .int s]) rfl rfl (hH.1 15 (15, 8) rfl) rfl rfl rfl rfl ?_
            refine qm_Ru.go 2 (c' := (2, [.ref 15, .int s], [.ref 15, .int 4], h)) rfl ?_
            refine hk_getr rfl (hH.1 15 (15, 8) rfl) rfl (hH.2 15 2 (some 17) rfl) ?_
            refine qm_Ru.go 1 (c' := (6, [.ref 15, .int s], [.int s, .ref 17, .int 4], h)) rfl ?_
            obtain ⟨v8, q_v8⟩ : ∃ v, h.2.1 17 (s.toInt.toNat) = v := ⟨_, rfl⟩
            have b_v8 : (0 : Int) ≤ v8.toInt ∧ v8.toInt ≤ 4 := by rw [← q_v8]; exact hB 17 (s.toInt.toNat)
            refine hk_ial (v := v8) rfl (hH.1 17 (0, 4) rfl) (by omega) (by omega) q_v8 ?_
            refine qm_Ru.go 1 (c' := (8, [.ref 15, .int s], [.int (4 - v8)], h)) rfl ?_
            obtain ⟨v9, q_v9, e_v9⟩ := hk_sub (x := 4) (y := v8) (a := 4) (b := v8.toInt) rfl rfl (by omega) (by omega)
            rw [q_v9]
            refine qm_Ru.rt (v := (some (.int v9))) (h' := h) rfl ?_
            refine qm_Ru.go 1 (c' := (28, [.ref 0, .int b, .int s], [.int 1, .int v9], h)) rfl ?_
            refine hk_cge (ix := v9.toInt) (iy := 1) rfl rfl rfl (fun z10 => ?_) (fun z10 => ?_)
            · refine qm_Ru.go 1 (c' := (34, [.ref 0, .int b, .int s], [.ref 0], h)) rfl ?_
              refine hk_getr rfl (hH.1 0 (16, 10) rfl) rfl (hH.2 0 3 (some 15) rfl) ?_
              refine qm_Ru.go 2 (c' := (39, [.ref 0, .int b, .int s], [.int s, .int b, .ref 15], h)) rfl ?_
              refine hk_inv (o := 15) (r := []) (as := [.ref 15, .int b, .int s]) rfl rfl (hH.1 15 (15, 8) rfl) rfl rfl rfl rfl ?_
              refine qm_Ru.go 1 (c' := (1, [.ref 15, .int b, .int s, .float 0], [.ref 15], h)) rfl ?_
              refine hk_getr rfl (hH.1 15 (15, 8) rfl) rfl (hH.2 15 2 (some 17) rfl) ?_
              refine qm_Ru.go 1 (c' := (5, [.ref 15, .int b, .int s, .float 0], [.int s, .ref 17], h)) rfl ?_
              refine hk_ial (v := v8) rfl (hH.1 17 (0, 4) rfl) (by omega) (by omega) q_v8 ?_
              refine qm_Ru.go 2 (c' := (8, [.ref 15, .int b, .int s, .int v8], [.ref 15], h)) rfl ?_
              refine hk_getr rfl (hH.1 15 (15, 8) rfl) rfl (hH.2 15 1 (some 16) rfl) ?_
              refine qm_Ru.go 3 (c' := (14, [.ref 15, .int b, .int s, .int v8], [.int (s * 4), .ref 16], h)) rfl ?_
              obtain ⟨v11, q_v11, e_v11⟩ := hk_mul (x := s) (y := 4) (a := s.toInt) (b := 4) rfl rfl (by omega) (by omega)
              rw [q_v11]
              refine qm_Ru.go 2 (c' := (16, [.ref 15, .int b, .int s, .int v8], [.int (v11 + v8), .ref 16], h)) rfl ?_
              obtain ⟨v12, q_v12, e_v12⟩ := hk_add (x := v11) (y := v8) (a := v11.toInt) (b := v8.toInt) rfl rfl (by omega) (by omega)
              rw [q_v12]
              refine qm_Ru.go 1 (c' := (17, [.ref 15, .int b, .int s, .int v8], [.int b, .int v12, .ref 16], h)) rfl ?_
              refine hk_ias rfl (hH.1 16 (0, 16) rfl) (by omega) (by omega) ?_
              refine qm_Ru.go 1 (c' := (19, [.ref 15, .int b, .int s, .int v8], [.ref 15], (h.1, qm_up h.2.1 16 (v12.toInt.toNat) b, h.2.2.1, h.2.2.2))) rfl ?_
              refine hk_getr rfl (hH.1 15 (15, 8) rfl) rfl (hH.2 15 2 (some 17) rfl) ?_
              refine qm_Ru.go 2 (c' := (24, [.ref 15, .int b, .int s, .int v8], [.int s, .ref 17, .int s, .ref 17], (h.1, qm_up h.2.1 16 (v12.toInt.toNat) b, h.2.2.1, h.2.2.2))) rfl ?_
              refine hk_ial (v := v8) rfl (hH.1 17 (0, 4) rfl) (by omega) (by omega) (show (qm_up h.2.1 16 (v12.toInt.toNat) b) 17 (s.toInt.toNat) = _ from ((hk_ot rfl).trans q_v8)) ?_
              refine qm_Ru.go 2 (c' := (27, [.ref 15, .int b, .int s, .int v8], [.int (v8 + 1), .int s, .ref 17], (h.1, qm_up h.2.1 16 (v12.toInt.toNat) b, h.2.2.1, h.2.2.2))) rfl ?_
              obtain ⟨v13, q_v13, e_v13⟩ := hk_add (x := v8) (y := 1) (a := v8.toInt) (b := 1) rfl rfl (by omega) (by omega)
              rw [q_v13]
              refine hk_ias rfl (hH.1 17 (0, 4) rfl) (by omega) (by omega) ?_
              refine qm_Ru.go 1 (c' := (29, [.ref 15, .int b, .int s, .int v8], [.ref 15], (h.1, qm_up (qm_up h.2.1 16 (v12.toInt.toNat) b) 17 (s.toInt.toNat) v13, h.2.2.1, h.2.2.2))) rfl ?_
              refine hk_getr rfl (hH.1 15 (15, 8) rfl) rfl (hH.2 15 0 (some 6) rfl) ?_
              refine qm_Ru.go 5 (c' := (37, [.ref 15, .int b, .int s, .int v8], [.int v8, .int (-1), .int s, .int 2, .int b, .ref 6], (h.1, qm_up (qm_up h.2.1 16 (v12.toInt.toNat) b) 17 (s.toInt.toNat) v13, h.2.2.1, h.2.2.2))) rfl ?_
              refine hk_inv (o := 6) (r := []) (as := [.ref 6, .int b, .int 2, .int s, .int (-1), .int v8]) rfl rfl (hH.1 6 (6, 9) rfl) rfl rfl rfl rfl ?_
              refine qm_Ru.go 1 (c' := (1, [.ref 6, .int b, .int 2, .int s, .int (-1), .int v8], [.ref 6], (h.1, qm_up (qm_up h.2.1 16 (v12.toInt.toNat) b) 17 (s.toInt.toNat) v13, h.2.2.1, h.2.2.2))) rfl ?_
              refine hk_getr rfl (hH.1 6 (6, 9) rfl) rfl (hH.2 6 5 (some 11) rfl) ?_
              refine qm_Ru.go 2 (c' := (6, [.ref 6, .int b, .int 2, .int s, .int (-1), .int v8], [.int 2, .int b, .ref 11], (h.1, qm_up (qm_up h.2.1 16 (v12.toInt.toNat) b) 17 (s.toInt.toNat) v13, h.2.2.1, h.2.2.2))) rfl ?_
              refine hk_ias rfl (hH.1 11 (0, 30) rfl) (by omega) (by omega) ?_
              refine qm_Ru.go 1 (c' := (8, [.ref 6, .int b, .int 2, .int s, .int (-1), .int v8], [.ref 6], (h.1, qm_up (qm_up (qm_up h.2.1 16 (v12.toInt.toNat) b) 17 (s.toInt.toNat) v13) 11 (b.toInt.toNat) 2, h.2.2.1, h.2.2.2))) rfl ?_
              refine hk_getr rfl (hH.1 6 (6, 9) rfl) rfl (hH.2 6 6 (some 12) rfl) ?_
              refine qm_Ru.go 2 (c' := (13, [.ref 6, .int b, .int 2, .int s, .int (-1), .int v8], [.int s, .int b, .ref 12], (h.1, qm_up (qm_up (qm_up h.2.1 16 (v12.toInt.toNat) b) 17 (s.toInt.toNat) v13) 11 (b.toInt.toNat) 2, h.2.2.1, h.2.2.2))) rfl ?_
              refine hk_ias rfl (hH.1 12 (0, 30) rfl) (by omega) (by omega) ?_
              refine qm_Ru.go 1 (c' := (15, [.ref 6, .int b, .int 2, .int s, .int (-1), .int v8], [.ref 6], (h.1, qm_up (qm_up (qm_up (qm_up h.2.1 16 (v12.toInt.toNat) b) 17 (s.toInt.toNat) v13) 11 (b.toInt.toNat) 2) 12 (b.toInt.toNat) s, h.2.2.1, h.2.2.2))) rfl ?_
              refine hk_getr rfl (hH.1 6 (6, 9) rfl) rfl (hH.2 6 7 (some 13) rfl) ?_
              refine qm_Ru.go 2 (c' := (21, [.ref 6, .int b, .int 2, .int s, .int (-1), .int v8], [.int (-1), .int b, .ref 13], (h.1, qm_up (qm_up (qm_up (qm_up h.2.1 16 (v12.toInt.toNat) b) 17 (s.toInt.toNat) v13) 11 (b.toInt.toNat) 2) 12 (b.toInt.toNat) s, h.2.2.1, h.2.2.2))) rfl ?_
              refine hk_ias rfl (hH.1 13 (0, 30) rfl) (by omega) (by omega) ?_
              refine qm_Ru.go 1 (c' := (23, [.ref 6, .int b, .int 2, .int s, .int (-1), .int v8], [.ref 6], (h.1, qm_up (qm_up (qm_up (qm_up (qm_up h.2.1 16 (v12.toInt.toNat) b) 17 (s.toInt.toNat) v13) 11 (b.toInt.toNat) 2) 12 (b.toInt.toNat) s) 13 (b.toInt.toNat) (-1), h.2.2.1, h.2.2.2))) rfl ?_
              refine hk_getr rfl (hH.1 6 (6, 9) rfl) rfl (hH.2 6 8 (some 14) rfl) ?_
              refine qm_Ru.go 2 (c' := (29, [.ref 6, .int b, .int 2, .int s, .int (-1), .int v8], [.int v8, .int b, .ref 14], (h.1, qm_up (qm_up (qm_up (qm_up (qm_up h.2.1 16 (v12.toInt.toNat) b) 17 (s.toInt.toNat) v13) 11 (b.toInt.toNat) 2) 12 (b.toInt.toNat) s) 13 (b.toInt.toNat) (-1), h.2.2.1, h.2.2.2))) rfl ?_
              refine hk_ias rfl (hH.1 14 (0, 30) rfl) (by omega) (by omega) ?_
              refine qm_Ru.go 0 (c' := (30, [.ref 6, .int b, .int 2, .int s, .int (-1), .int v8], [], (h.1, qm_up (qm_up (qm_up (qm_up (qm_up (qm_up h.2.1 16 (v12.toInt.toNat) b) 17 (s.toInt.toNat) v13) 11 (b.toInt.toNat) 2) 12 (b.toInt.toNat) s) 13 (b.toInt.toNat) (-1)) 14 (b.toInt.toNat) v8, h.2.2.1, h.2.2.2))) rfl ?_
              refine qm_Ru.rt (v := none) (h' := (h.1, qm_up (qm_up (qm_up (qm_up (qm_up (qm_up h.2.1 16 (v12.toInt.toNat) b) 17 (s.toInt.toNat) v13) 11 (b.toInt.toNat) 2) 12 (b.toInt.toNat) s) 13 (b.toInt.toNat) (-1)) 14 (b.toInt.toNat) v8, h.2.2.1, h.2.2.2)) rfl ?_
              refine qm_Ru.go 1 (c' := (41, [.ref 15, .int b, .int s, .int v8], [.int v8], (h.1, qm_up (qm_up (qm_up (qm_up (qm_up (qm_up h.2.1 16 (v12.toInt.toNat) b) 17 (s.toInt.toNat) v13) 11 (b.toInt.toNat) 2) 12 (b.toInt.toNat) s) 13 (b.toInt.toNat) (-1)) 14 (b.toInt.toNat) v8, h.2.2.1, h.2.2.2))) rfl ?_
              refine qm_Ru.rt (v := (some (.int v8))) (h' := (h.1, qm_up (qm_up (qm_up (qm_up (qm_up (qm_up h.2.1 16 (v12.toInt.toNat) b) 17 (s.toInt.toNat) v13) 11 (b.toInt.toNat) 2) 12 (b.toInt.toNat) s) 13 (b.toInt.toNat) (-1)) 14 (b.toInt.toNat) v8, h.2.2.1, h.2.2.2)) rfl ?_
              refine qm_Ru.go 0 (c' := (42, [.ref 0, .int b, .int s], [.int v8], (h.1, qm_up (qm_up (qm_up (qm_up (qm_up (qm_up h.2.1 16 (v12.toInt.toNat) b) 17 (s.toInt.toNat) v13) 11 (b.toInt.toNat) 2) 12 (b.toInt.toNat) s) 13 (b.toInt.toNat) (-1)) 14 (b.toInt.toNat) v8, h.2.2.1, h.2.2.2))) rfl ?_
              refine qm_Ru.rt (v := (some (.int v8))) (h' := (h.1, qm_up (qm_up (qm_up (qm_up (qm_up (qm_up h.2.1 16 (v12.toInt.toNat) b) 17 (s.toInt.toNat) v13) 11 (b.toInt.toNat) 2) 12 (b.toInt.toNat) s) 13 (b.toInt.toNat) (-1)) 14 (b.toInt.toNat) v8, h.2.2.1, h.2.2.2)) rfl ?_
              exact k (some (.int v8)) (qm_up (qm_up (qm_up (qm_up (qm_up (qm_up h.2.1 16 (v12.toInt.toNat) b) 17 (s.toInt.toNat) v13) 11 (b.toInt.toNat) 2) 12 (b.toInt.toNat) s) 13 (b.toInt.toNat) (-1)) 14 (b.toInt.toNat) v8) (h.2.2.1) ⟨_, rfl, ⟨by show (-1 : Int) ≤ v8.toInt; omega, by show v8.toInt ≤ (3 : Int); omega⟩⟩ (hb_up (o := 14) (k := b.toInt.toNat) (x := v8) (hb_up (o := 13) (k := b.toInt.toNat) (x := (-1)) (hb_up (o := 12) (k := b.toInt.toNat) (x := s) (hb_up (o := 11) (k := b.toInt.toNat) (x := 2) (hb_up (o := 17) (k := s.toInt.toNat) (x := v13) (hb_up (o := 16) (k := v12.toInt.toNat) (x := b) hB ⟨by show (0 : Int) ≤ b.toInt; omega, by show b.toInt ≤ (29 : Int); omega⟩) ⟨by show (0 : Int) ≤ v13.toInt; omega, by show v13.toInt ≤ (4 : Int); omega⟩) ⟨(show (0 : Int) ≤ 2 from by decide), (show (2 : Int) ≤ 2 from by decide)⟩) ⟨by show (-1 : Int) ≤ s.toInt; omega, by show s.toInt ≤ (4 : Int); omega⟩) ⟨(show (-1 : Int) ≤ -1 from by decide), (show (-1 : Int) ≤ 3 from by decide)⟩) ⟨by show (-1 : Int) ≤ v8.toInt; omega, by show v8.toInt ≤ (3 : Int); omega⟩) ⟨⟨(mC_yput (I := h.2.1) (I' := qm_up (qm_up (qm_up (qm_up (qm_up (qm_up h.2.1 16 (v12.toInt.toNat) b) 17 (s.toInt.toNat) v13) 11 (b.toInt.toNat) 2) 12 (b.toInt.toNat) s) 13 (b.toInt.toNat) (-1)) 14 (b.toInt.toNat) v8) hV.1.1 ((pI_sk rfl).trans ((pI_sk rfl).trans ((pI_sk rfl).trans (pI_up.trans (congrArg (fun f => fu_up f b.toInt.toNat (Int32.toInt 2)) ((pI_sk rfl).trans ((pI_sk rfl).trans rfl))))))) ((pI_sk rfl).trans ((pI_sk rfl).trans (pI_up.trans (congrArg (fun f => fu_up f b.toInt.toNat (Int32.toInt s)) ((pI_sk rfl).trans ((pI_sk rfl).trans ((pI_sk rfl).trans rfl))))))) ((pI_sk rfl).trans (pI_up.trans (congrArg (fun f => fu_up f b.toInt.toNat (Int32.toInt ((-1)))) ((pI_sk rfl).trans ((pI_sk rfl).trans ((pI_sk rfl).trans ((pI_sk rfl).trans rfl))))))) (pI_up.trans (congrArg (fun f => fu_up f b.toInt.toNat (Int32.toInt v8)) ((pI_sk rfl).trans ((pI_sk rfl).trans ((pI_sk rfl).trans ((pI_sk rfl).trans ((pI_sk rfl).trans rfl))))))) ((pI_sk rfl).trans ((pI_sk rfl).trans ((pI_sk rfl).trans ((pI_sk rfl).trans ((pI_sk rfl).trans ((pI_sk rfl).trans rfl)))))) ((pI_sk rfl).trans ((pI_sk rfl).trans ((pI_sk rfl).trans ((pI_sk rfl).trans ((pI_sk rfl).trans (pI_up.trans rfl)))))) ((pI_sk rfl).trans ((pI_sk rfl).trans ((pI_sk rfl).trans ((pI_sk rfl).trans (pI_up.trans (congrArg (fun f => fu_up f s.toInt.toNat (Int32.toInt v13)) ((pI_sk rfl).trans rfl))))))) rfl (show (h.2.1 11 (b.toInt.toNat)).toInt = 0 from by rw [q_v4]; omega) (congrArg Int32.toInt q_v8) (congrArg Int32.toInt q_v2) rfl (by omega) rfl (by omega) (by omega) (by omega) (by omega) (by omega) (by omega) (by omega)), hV.1.2⟩, hV.2⟩ (fun o ho i => ((hk_mod ho rfl).trans ((hk_mod ho rfl).trans ((hk_mod ho rfl).trans ((hk_mod ho rfl).trans ((hk_mod ho rfl).trans ((hk_mod ho rfl).trans rfl)))))))
            · refine qm_Ru.go 1 (c' := (32, [.ref 0, .int b, .int s], [.int (-1)], h)) rfl ?_
              refine qm_Ru.rt (v := (some (.int (-1)))) (h' := h) rfl ?_
              exact k (some (.int (-1))) (h.2.1) (h.2.2.1) ⟨_, rfl, ⟨by decide, by decide⟩⟩ hB hV (fun _ _ _ => rfl)
theorem hc_fetch : hk_ct v_C (fun _ => True) (fun as I => ∃ s : Int32, as = [.ref 0, .int s] ∧ qa_in (-2147483648, 2147483647) s) 80 (some (-2, 29)) [6, 7, 8, 9, 10, 11, 12, 13, 14, 16, 17, 28, 36, 37] 30 := by
  intro L xs d Z h as h6 hH hT hB hV hp hd k
  obtain ⟨s, rfl, c_s⟩ := hp
  obtain ⟨d, rfl⟩ : ∃ e, d = e + 30 := ⟨d - 30, by omega⟩
  have b_s : (-2147483648 : Int) ≤ s.toInt ∧ s.toInt ≤ 2147483647 := c_s
  show qm_Ru (some (L, xs)) (d + 30) cd_80 (qm_ent 3 [.ref 0, .int s] h) Z
  refine qm_Ru.go 2 (c' := (2, [.ref 0, .int s, .float 0], [.int 4, .int s], h)) rfl ?_
  refine qm_Ru.call (j := 65) (as := [.int s, .int 4]) (c' := (5, [.ref 0, .int s, .float 0], [], h)) rfl rfl rfl ?_
  refine qm_Ru.go 1 (c' := (1, [.int s, .int 4], [.int s], h)) rfl ?_
  refine hk_zlt (ix := s.toInt) rfl rfl (fun z1 => ?_) (fun z1 => ?_)
  · refine qm_Ru.go 1 (c' := (14, [.int s, .int 4], [.int 0], h)) rfl ?_
    refine qm_Ru.rt (v := (some (.int 0))) (h' := h) rfl ?_
    refine qm_Ru.go 2 (c' := (21, [.ref 0, .int s, .float 0], [.int (-1)], h)) rfl ?_
    refine qm_Ru.rt (v := (some (.int (-1)))) (h' := h) rfl ?_
    exact k (some (.int (-1))) (h.2.1) (h.2.2.1) ⟨_, rfl, ⟨by decide, by decide⟩⟩ hB hV (fun _ _ _ => rfl)
  · refine qm_Ru.go 2 (c' := (6, [.int s, .int 4], [.int 4, .int s], h)) rfl ?_
    refine hk_cge (ix := s.toInt) (iy := 4) rfl rfl rfl (fun z2 => ?_) (fun z2 => ?_)
    · refine qm_Ru.go 1 (c' := (14, [.int s, .int 4], [.int 0], h)) rfl ?_
      refine qm_Ru.rt (v := (some (.int 0))) (h' := h) rfl ?_
      refine qm_Ru.go 2 (c' := (21, [.ref 0, .int s, .float 0], [.int (-1)], h)) rfl ?_
      refine qm_Ru.rt (v := (some (.int (-1)))) (h' := h) rfl ?_
      exact k (some (.int (-1))) (h.2.1) (h.2.2.1) ⟨_, rfl, ⟨by decide, by decide⟩⟩ hB hV (fun _ _ _ => rfl)
    · refine qm_Ru.go 2 (c' := (14, [.int s, .int 4], [.int 1], h)) rfl ?_
      refine qm_Ru.rt (v := (some (.int 1))) (h' := h) rfl ?_
      refine qm_Ru.go 2 (c' := (9, [.ref 0, .int s, .float 0], [.ref 0], h)) rfl ?_
      refine hk_getr rfl (hH.1 0 (16, 10) rfl) rfl (hH.2 0 3 (some 15) rfl) ?_
      refine qm_Ru.go 0 (c' := (12, [.ref 0, .int s, .float 0], [.ref 15], h)) rfl ?_
      refine hk_getr rfl (hH.1 15 (15, 8) rfl) rfl (hH.2 15 2 (some 17) rfl) ?_
      refine qm_Ru.go 1 (c' := (16, [.ref 0, .int s, .float 0], [.int s, .ref 17], h)) rfl ?_
      obtain ⟨v3, q_v3⟩ : ∃ v, h.2.1 17 (s.toInt.toNat) = v := ⟨_, rfl⟩
      have b_v3 : (0 : Int) ≤ v3.toInt ∧ v3.toInt ≤ 4 := by rw [← q_v3]; exact hB 17 (s.toInt.toNat)
      refine hk_ial (v := v3) rfl (hH.1 17 (0, 4) rfl) (by omega) (by omega) q_v3 ?_
      refine qm_Ru.go 0 (c' := (17, [.ref 0, .int s, .float 0], [.int v3], h)) rfl ?_
      refine hk_zne (ix := v3.toInt) rfl rfl (fun z4 => ?_) (fun z4 => ?_)
      · refine qm_Ru.go 1 (c' := (23, [.ref 0, .int s, .float 0], [.ref 0], h)) rfl ?_
        refine hk_getr rfl (hH.1 0 (16, 10) rfl) rfl (hH.2 0 3 (some 15) rfl) ?_
        refine qm_Ru.go 1 (c' := (27, [.ref 0, .int s, .float 0], [.int s, .ref 15], h)) rfl ?_
        refine hk_inv (o := 15) (r := []) (as := [.ref 15, .int s]) rfl rfl (hH.1 15 (15, 8) rfl) rfl rfl rfl rfl ?_
        refine qm_Ru.go 1 (c' := (1, [.ref 15, .int s], [.ref 15], h)) rfl ?_
        refine hk_getr rfl (hH.1 15 (15, 8) rfl) rfl (hH.2 15 2 (some 17) rfl) ?_
        refine qm_Ru.go 1 (c' := (5, [.ref 15, .int s], [.int s, .ref 17], h)) rfl ?_
        refine hk_ial (v := v3) rfl (hH.1 17 (0, 4) rfl) (by omega) (by omega) q_v3 ?_
        refine qm_Ru.go 0 (c' := (6, [.ref 15, .int s], [.int v3], h)) rfl ?_
        refine hk_zne (ix := v3.toInt) rfl rfl (fun z5 => ?_) (fun z5 => by exfalso; omega)
        refine qm_Ru.go 1 (c' := (14, [.ref 15, .int s], [.ref 15], h)) rfl ?_
        refine hk_getr rfl (hH.1 15 (15, 8) rfl) rfl (hH.2 15 1 (some 16) rfl) ?_
        refine qm_Ru.go 3 (c' := (20, [.ref 15, .int s], [.int (s * 4), .ref 16], h)) rfl ?_
        obtain ⟨v6, q_v6, e_v6⟩ := hk_mul (x := s) (y := 4) (a := s.toInt) (b := 4) rfl rfl (by omega) (by omega)
        rw [q_v6]
        refine qm_Ru.go 1 (c' := (21, [.ref 15, .int s], [.ref 15, .int v6, .ref 16], h)) rfl ?_
        refine hk_getr rfl (hH.1 15 (15, 8) rfl) rfl (hH.2 15 2 (some 17) rfl) ?_
        refine qm_Ru.go 1 (c' := (25, [.ref 15, .int s], [.int s, .ref 17, .int v6, .ref 16], h)) rfl ?_
        refine hk_ial (v := v3) rfl (hH.1 17 (0, 4) rfl) (by omega) (by omega) q_v3 ?_
        refine qm_Ru.go 1 (c' := (27, [.ref 15, .int s], [.int (v6 + v3), .ref 16], h)) rfl ?_
        obtain ⟨v7, q_v7, e_v7⟩ := hk_add (x := v6) (y := v3) (a := v6.toInt) (b := v3.toInt) rfl rfl (by omega) (by omega)
        rw [q_v7]
        refine qm_Ru.go 2 (c' := (29, [.ref 15, .int s], [.int (v7 - 1), .ref 16], h)) rfl ?_
        obtain ⟨v8, q_v8, e_v8⟩ := hk_sub (x := v7) (y := 1) (a := v7.toInt) (b := 1) rfl rfl (by omega) (by omega)
        rw [q_v8]
        obtain ⟨v9, q_v9⟩ : ∃ v, h.2.1 16 (v8.toInt.toNat) = v := ⟨_, rfl⟩
        have b_v9 : (0 : Int) ≤ v9.toInt ∧ v9.toInt ≤ 29 := by rw [← q_v9]; exact hB 16 (v8.toInt.toNat)
        refine hk_ial (v := v9) rfl (hH.1 16 (0, 16) rfl) (by omega) (by omega) q_v9 ?_
        refine qm_Ru.go 0 (c' := (30, [.ref 15, .int s], [.int v9], h)) rfl ?_
        refine qm_Ru.rt (v := (some (.int v9))) (h' := h) rfl ?_
        refine qm_Ru.go 2 (c' := (32, [.ref 0, .int s, .int v9], [.ref 0], h)) rfl ?_
        refine hk_getr rfl (hH.1 0 (16, 10) rfl) rfl (hH.2 0 6 (some 42) rfl) ?_
        refine qm_Ru.go 2 (c' := (37, [.ref 0, .int s, .int v9], [.ref 0, .int v9, .ref 42], h)) rfl ?_
        refine hk_getr rfl (hH.1 0 (16, 10) rfl) rfl (hH.2 0 6 (some 42) rfl) ?_
        refine qm_Ru.go 0 (c' := (40, [.ref 0, .int s, .int v9], [.ref 42, .int v9, .ref 42], h)) rfl ?_
        obtain ⟨v10, q_v10⟩ : ∃ v, h.2.1 42 7 = v := ⟨_, rfl⟩
        have b_v10 : (0 : Int) ≤ v10.toInt ∧ v10.toInt ≤ 60 := by rw [← q_v10]; exact hB 42 7
        refine hk_geti (v := v10) rfl (hH.1 42 (7, 11) rfl) rfl q_v10 ?_
        refine qm_Ru.go 0 (c' := (43, [.ref 0, .int s, .int v9], [.int v10, .int v9, .ref 42], h)) rfl ?_
        refine hk_inv (o := 42) (r := []) (as := [.ref 42, .int v9, .int v10]) rfl rfl (hH.1 42 (7, 11) rfl) rfl rfl rfl rfl (hs_stop h6 hH hB (v_C_ru hV) ⟨by show (0 : Int) ≤ v9.toInt; omega, by show v9.toInt ≤ (29 : Int); omega⟩ ⟨by show (0 : Int) ≤ v10.toInt; omega, by show v10.toInt ≤ (60 : Int); omega⟩ (by omega) (fun v11 I12 J13 c_v11 _ e_I12 => ?_))
        have e_I12 : I12 = h.2.1 := funext fun o => funext fun i => e_I12 o rfl i
        subst e_I12
        have b_v11 : (0 : Int) ≤ v11.toInt ∧ v11.toInt ≤ 1 := c_v11
        refine qm_Ru.go 0 (c' := (46, [.ref 0, .int s, .int v9], [.int v11], (h.1, h.2.1, J13, h.2.2.2))) rfl ?_
        refine hk_zeq (ix := v11.toInt) rfl rfl (fun z14 => ?_) (fun z14 => ?_)
        · refine qm_Ru.go 1 (c' := (53, [.ref 0, .int s, .int v9], [.ref 0], (h.1, h.2.1, J13, h.2.2.2))) rfl ?_
          refine hk_getr rfl (hH.1 0 (16, 10) rfl) rfl (hH.2 0 3 (some 15) rfl) ?_
          refine qm_Ru.go 1 (c' := (57, [.ref 0, .int s, .int v9], [.int s, .ref 15], (h.1, h.2.1, J13, h.2.2.2))) rfl ?_
          refine hk_inv (o := 15) (r := []) (as := [.ref 15, .int s]) rfl rfl (hH.1 15 (15, 8) rfl) rfl rfl rfl rfl ?_
          refine qm_Ru.go 2 (c' := (2, [.ref 15, .int s, .float 0], [.int s, .ref 15], (h.1, h.2.1, J13, h.2.2.2))) rfl ?_
          refine hk_inv (o := 15) (r := []) (as := [.ref 15, .int s]) rfl rfl (hH.1 15 (15, 8) rfl) rfl rfl rfl rfl ?_
          refine qm_Ru.go 1 (c' := (1, [.ref 15, .int s], [.ref 15], (h.1, h.2.1, J13, h.2.2.2))) rfl ?_
          refine hk_getr rfl (hH.1 15 (15, 8) rfl) rfl (hH.2 15 2 (some 17) rfl) ?_
          refine qm_Ru.go 1 (c' := (5, [.ref 15, .int s], [.int s, .ref 17], (h.1, h.2.1, J13, h.2.2.2))) rfl ?_
          refine hk_ial (v := v3) rfl (hH.1 17 (0, 4) rfl) (by omega) (by omega) q_v3 ?_
          refine qm_Ru.go 0 (c' := (6, [.ref 15, .int s], [.int v3], (h.1, h.2.1, J13, h.2.2.2))) rfl ?_
          refine hk_zne (ix := v3.toInt) rfl rfl (fun z15 => ?_) (fun z15 => by exfalso; omega)
          refine qm_Ru.go 1 (c' := (14, [.ref 15, .int s], [.ref 15], (h.1, h.2.1, J13, h.2.2.2))) rfl ?_
          refine hk_getr rfl (hH.1 15 (15, 8) rfl) rfl (hH.2 15 1 (some 16) rfl) ?_
          refine qm_Ru.go 3 (c' := (20, [.ref 15, .int s], [.int (s * 4), .ref 16], (h.1, h.2.1, J13, h.2.2.2))) rfl ?_
          rw [q_v6]
          refine qm_Ru.go 1 (c' := (21, [.ref 15, .int s], [.ref 15, .int v6, .ref 16], (h.1, h.2.1, J13, h.2.2.2))) rfl ?_
          refine hk_getr rfl (hH.1 15 (15, 8) rfl) rfl (hH.2 15 2 (some 17) rfl) ?_
          refine qm_Ru.go 1 (c' := (25, [.ref 15, .int s], [.int s, .ref 17, .int v6, .ref 16], (h.1, h.2.1, J13, h.2.2.2))) rfl ?_
          refine hk_ial (v := v3) rfl (hH.1 17 (0, 4) rfl) (by omega) (by omega) q_v3 ?_
          refine qm_Ru.go 1 (c' := (27, [.ref 15, .int s], [.int (v6 + v3), .ref 16], (h.1, h.2.1, J13, h.2.2.2))) rfl ?_
          rw [q_v7]
          refine qm_Ru.go 2 (c' := (29, [.ref 15, .int s], [.int (v7 - 1), .ref 16], (h.1, h.2.1, J13, h.2.2.2))) rfl ?_
          rw [q_v8]
          refine hk_ial (v := v9) rfl (hH.1 16 (0, 16) rfl) (by omega) (by omega) q_v9 ?_
          refine qm_Ru.go 0 (c' := (30, [.ref 15, .int s], [.int v9], (h.1, h.2.1, J13, h.2.2.2))) rfl ?_
          refine qm_Ru.rt (v := (some (.int v9))) (h' := (h.1, h.2.1, J13, h.2.2.2)) rfl ?_
          refine qm_Ru.go 3 (c' := (8, [.ref 15, .int s, .int v9], [.int (-1), .int v9], (h.1, h.2.1, J13, h.2.2.2))) rfl ?_
          refine hk_ceq (ix := v9.toInt) (iy := (-1)) rfl rfl rfl (fun z19 => by exfalso; omega) (fun z19 => ?_)
          refine qm_Ru.go 1 (c' := (12, [.ref 15, .int s, .int v9], [.ref 15], (h.1, h.2.1, J13, h.2.2.2))) rfl ?_
          refine hk_getr rfl (hH.1 15 (15, 8) rfl) rfl (hH.2 15 2 (some 17) rfl) ?_
          refine qm_Ru.go 2 (c' := (17, [.ref 15, .int s, .int v9], [.int s, .ref 17, .int s, .ref 17], (h.1, h.2.1, J13, h.2.2.2))) rfl ?_
          refine hk_ial (v := v3) rfl (hH.1 17 (0, 4) rfl) (by omega) (by omega) q_v3 ?_
          refine qm_Ru.go 2 (c' := (20, [.ref 15, .int s, .int v9], [.int (v3 - 1), .int s, .ref 17], (h.1, h.2.1, J13, h.2.2.2))) rfl ?_
          obtain ⟨v20, q_v20, e_v20⟩ := hk_sub (x := v3) (y := 1) (a := v3.toInt) (b := 1) rfl rfl (by omega) (by omega)
          rw [q_v20]
          refine hk_ias rfl (hH.1 17 (0, 4) rfl) (by omega) (by omega) ?_
          refine qm_Ru.go 1 (c' := (22, [.ref 15, .int s, .int v9], [.ref 15], (h.1, qm_up h.2.1 17 (s.toInt.toNat) v20, J13, h.2.2.2))) rfl ?_
          refine hk_getr rfl (hH.1 15 (15, 8) rfl) rfl (hH.2 15 0 (some 6) rfl) ?_
          refine qm_Ru.go 1 (c' := (26, [.ref 15, .int s, .int v9], [.int v9, .ref 6], (h.1, qm_up h.2.1 17 (s.toInt.toNat) v20, J13, h.2.2.2))) rfl ?_
          refine hk_inv (o := 6) (r := []) (as := [.ref 6, .int v9]) rfl rfl (hH.1 6 (6, 9) rfl) rfl rfl rfl rfl ?_
          refine qm_Ru.go 6 (c' := (6, [.ref 6, .int v9], [.int (-1), .int (-1), .int (-1), .int 0, .int v9, .ref 6], (h.1, qm_up h.2.1 17 (s.toInt.toNat) v20, J13, h.2.2.2))) rfl ?_
          refine hk_inv (o := 6) (r := []) (as := [.ref 6, .int v9, .int 0, .int (-1), .int (-1), .int (-1)]) rfl rfl (hH.1 6 (6, 9) rfl) rfl rfl rfl rfl ?_
          refine qm_Ru.go 1 (c' := (1, [.ref 6, .int v9, .int 0, .int (-1), .int (-1), .int (-1)], [.ref 6], (h.1, qm_up h.2.1 17 (s.toInt.toNat) v20, J13, h.2.2.2))) rfl ?_
          refine hk_getr rfl (hH.1 6 (6, 9) rfl) rfl (hH.2 6 5 (some 11) rfl) ?_
          refine qm_Ru.go 2 (c' := (6, [.ref 6, .int v9, .int 0, .int (-1), .int (-1), .int (-1)], [.int 0, .int v9, .ref 11], (h.1, qm_up h.2.1 17 (s.toInt.toNat) v20, J13, h.2.2.2))) rfl ?_
          refine hk_ias rfl (hH.1 11 (0, 30) rfl) (by omega) (by omega) ?_
          refine qm_Ru.go 1 (c' := (8, [.ref 6, .int v9, .int 0, .int (-1), .int (-1), .int (-1)], [.ref 6], (h.1, qm_up (qm_up h.2.1 17 (s.toInt.toNat) v20) 11 (v9.toInt.toNat) 0, J13, h.2.2.2))) rfl ?_
          refine hk_getr rfl (hH.1 6 (6, 9) rfl) rfl (hH.2 6 6 (some 12) rfl) ?_
          refine qm_Ru.go 2 (c' := (13, [.ref 6, .int v9, .int 0, .int (-1), .int (-1), .int (-1)], [.int (-1), .int v9, .ref 12], (h.1, qm_up (qm_up h.2.1 17 (s.toInt.toNat) v20) 11 (v9.toInt.toNat) 0, J13, h.2.2.2))) rfl ?_
          refine hk_ias rfl (hH.1 12 (0, 30) rfl) (by omega) (by omega) ?_
          refine qm_Ru.go 1 (c' := (15, [.ref 6, .int v9, .int 0, .int (-1), .int (-1), .int (-1)], [.ref 6], (h.1, qm_up (qm_up (qm_up h.2.1 17 (s.toInt.toNat) v20) 11 (v9.toInt.toNat) 0) 12 (v9.toInt.toNat) (-1), J13, h.2.2.2))) rfl ?_
          refine hk_getr rfl (hH.1 6 (6, 9) rfl) rfl (hH.2 6 7 (some 13) rfl) ?_
          refine qm_Ru.go 2 (c' := (21, [.ref 6, .int v9, .int 0, .int (-1), .int (-1), .int (-1)], [.int (-1), .int v9, .ref 13], (h.1, qm_up (qm_up (qm_up h.2.1 17 (s.toInt.toNat) v20) 11 (v9.toInt.toNat) 0) 12 (v9.toInt.toNat) (-1), J13, h.2.2.2))) rfl ?_
          refine hk_ias rfl (hH.1 13 (0, 30) rfl) (by omega) (by omega) ?_
          refine qm_Ru.go 1 (c' := (23, [.ref 6, .int v9, .int 0, .int (-1), .int (-1), .int (-1)], [.ref 6], (h.1, qm_up (qm_up (qm_up (qm_up h.2.1 17 (s.toInt.toNat) v20) 11 (v9.toInt.toNat) 0) 12 (v9.toInt.toNat) (-1)) 13 (v9.toInt.toNat) (-1), J13, h.2.2.2))) rfl ?_
          refine hk_getr rfl (hH.1 6 (6, 9) rfl) rfl (hH.2 6 8 (some 14) rfl) ?_
          refine qm_Ru.go 2 (c' := (29, [.ref 6, .int v9, .int 0, .int (-1), .int (-1), .int (-1)], [.int (-1), .int v9, .ref 14], (h.1, qm_up (qm_up (qm_up (qm_up h.2.1 17 (s.toInt.toNat) v20) 11 (v9.toInt.toNat) 0) 12 (v9.toInt.toNat) (-1)) 13 (v9.toInt.toNat) (-1), J13, h.2.2.2))) rfl ?_
          refine hk_ias rfl (hH.1 14 (0, 30) rfl) (by omega) (by omega) ?_
          refine qm_Ru.go 0 (c' := (30, [.ref 6, .int v9, .int 0, .int (-1), .int (-1), .int (-1)], [], (h.1, qm_up (qm_up (qm_up (qm_up (qm_up h.2.1 17 (s.toInt.toNat) v20) 11 (v9.toInt.toNat) 0) 12 (v9.toInt.toNat) (-1)) 13 (v9.toInt.toNat) (-1)) 14 (v9.toInt.toNat) (-1), J13, h.2.2.2))) rfl ?_
          refine qm_Ru.rt (v := none) (h' := (h.1, qm_up (qm_up (qm_up (qm_up (qm_up h.2.1 17 (s.toInt.toNat) v20) 11 (v9.toInt.toNat) 0) 12 (v9.toInt.toNat) (-1)) 13 (v9.toInt.toNat) (-1)) 14 (v9.toInt.toNat) (-1), J13, h.2.2.2)) rfl ?_
          refine qm_Ru.go 0 (c' := (9, [.ref 6, .int v9], [], (h.1, qm_up (qm_up (qm_up (qm_up (qm_up h.2.1 17 (s.toInt.toNat) v20) 11 (v9.toInt.toNat) 0) 12 (v9.toInt.toNat) (-1)) 13 (v9.toInt.toNat) (-1)) 14 (v9.toInt.toNat) (-1), J13, h.2.2.2))) rfl ?_
          refine qm_Ru.rt (v := none) (h' := (h.1, qm_up (qm_up (qm_up (qm_up (qm_up h.2.1 17 (s.toInt.toNat) v20) 11 (v9.toInt.toNat) 0) 12 (v9.toInt.toNat) (-1)) 13 (v9.toInt.toNat) (-1)) 14 (v9.toInt.toNat) (-1), J13, h.2.2.2)) rfl ?_
          refine qm_Ru.go 0 (c' := (29, [.ref 15, .int s, .int v9], [], (h.1, qm_up (qm_up (qm_up (qm_up (qm_up h.2.1 17 (s.toInt.toNat) v20) 11 (v9.toInt.toNat) 0) 12 (v9.toInt.toNat) (-1)) 13 (v9.toInt.toNat) (-1)) 14 (v9.toInt.toNat) (-1), J13, h.2.2.2))) rfl ?_
          refine qm_Ru.rt (v := none) (h' := (h.1, qm_up (qm_up (qm_up (qm_up (qm_up h.2.1 17 (s.toInt.toNat) v20) 11 (v9.toInt.toNat) 0) 12 (v9.toInt.toNat) (-1)) 13 (v9.toInt.toNat) (-1)) 14 (v9.toInt.toNat) (-1), J13, h.2.2.2)) rfl ?_
          refine qm_Ru.go 1 (c' := (61, [.ref 0, .int s, .int v9], [.int v9], (h.1, qm_up (qm_up (qm_up (qm_up (qm_up h.2.1 17 (s.toInt.toNat) v20) 11 (v9.toInt.toNat) 0) 12 (v9.toInt.toNat) (-1)) 13 (v9.toInt.toNat) (-1)) 14 (v9.toInt.toNat) (-1), J13, h.2.2.2))) rfl ?_
          refine qm_Ru.rt (v := (some (.int v9))) (h' := (h.1, qm_up (qm_up (qm_up (qm_up (qm_up h.2.1 17 (s.toInt.toNat) v20) 11 (v9.toInt.toNat) 0) 12 (v9.toInt.toNat) (-1)) 13 (v9.toInt.toNat) (-1)) 14 (v9.toInt.toNat) (-1), J13, h.2.2.2)) rfl ?_
          exact k (some (.int v9)) (qm_up (qm_up (qm_up (qm_up (qm_up h.2.1 17 (s.toInt.toNat) v20) 11 (v9.toInt.toNat) 0) 12 (v9.toInt.toNat) (-1)) 13 (v9.toInt.toNat) (-1)) 14 (v9.toInt.toNat) (-1)) (J13) ⟨_, rfl, ⟨by show (-2 : Int) ≤ v9.toInt; omega, by show v9.toInt ≤ (29 : Int); omega⟩⟩ (hb_up (o := 14) (k := v9.toInt.toNat) (x := (-1)) (hb_up (o := 13) (k := v9.toInt.toNat) (x := (-1)) (hb_up (o := 12) (k := v9.toInt.toNat) (x := (-1)) (hb_up (o := 11) (k := v9.toInt.toNat) (x := 0) (hb_up (o := 17) (k := s.toInt.toNat) (x := v20) hB ⟨by show (0 : Int) ≤ v20.toInt; omega, by show v20.toInt ≤ (4 : Int); omega⟩) ⟨(show (0 : Int) ≤ 0 from by decide), (show (0 : Int) ≤ 2 from by decide)⟩) ⟨(show (-1 : Int) ≤ -1 from by decide), (show (-1 : Int) ≤ 4 from by decide)⟩) ⟨(show (-1 : Int) ≤ -1 from by decide), (show (-1 : Int) ≤ 3 from by decide)⟩) ⟨(show (-1 : Int) ≤ -1 from by decide), (show (-1 : Int) ≤ 3 from by decide)⟩) ⟨⟨(mC_take (I := h.2.1) (I' := qm_up (qm_up (qm_up (qm_up (qm_up h.2.1 17 (s.toInt.toNat) v20) 11 (v9.toInt.toNat) 0) 12 (v9.toInt.toNat) (-1)) 13 (v9.toInt.toNat) (-1)) 14 (v9.toInt.toNat) (-1)) hV.1.1 ((pI_sk rfl).trans ((pI_sk rfl).trans ((pI_sk rfl).trans (pI_up.trans (congrArg (fun f => fu_up f v9.toInt.toNat (Int32.toInt 0)) ((pI_sk rfl).trans rfl)))))) ((pI_sk rfl).trans ((pI_sk rfl).trans (pI_up.trans (congrArg (fun f => fu_up f v9.toInt.toNat (Int32.toInt ((-1)))) ((pI_sk rfl).trans ((pI_sk rfl).trans rfl)))))) ((pI_sk rfl).trans (pI_up.trans (congrArg (fun f => fu_up f v9.toInt.toNat (Int32.toInt ((-1)))) ((pI_sk rfl).trans ((pI_sk rfl).trans ((pI_sk rfl).trans rfl)))))) (pI_up.trans (congrArg (fun f => fu_up f v9.toInt.toNat (Int32.toInt ((-1)))) ((pI_sk rfl).trans ((pI_sk rfl).trans ((pI_sk rfl).trans ((pI_sk rfl).trans rfl)))))) ((pI_sk rfl).trans ((pI_sk rfl).trans ((pI_sk rfl).trans ((pI_sk rfl).trans ((pI_sk rfl).trans rfl))))) ((pI_sk rfl).trans ((pI_sk rfl).trans ((pI_sk rfl).trans ((pI_sk rfl).trans ((pI_sk rfl).trans rfl))))) ((pI_sk rfl).trans ((pI_sk rfl).trans ((pI_sk rfl).trans ((pI_sk rfl).trans (pI_up.trans rfl))))) rfl (congrArg Int32.toInt q_v3) (show (h.2.1 16 (v8.toInt.toNat)).toInt.toNat = v9.toInt.toNat from by rw [q_v9]) rfl (by omega) (by omega) (by omega) (by omega) (by omega)), hV.1.2⟩, hV.2⟩ (fun o ho i => ((hk_mod ho rfl).trans ((hk_mod ho rfl).trans ((hk_mod ho rfl).trans ((hk_mod ho rfl).trans ((hk_mod ho rfl).trans rfl))))))
        · refine qm_Ru.go 1 (c' := (51, [.ref 0, .int s, .int v9], [.int (-2)], (h.1, h.2.1, J13, h.2.2.2))) rfl ?_
          refine qm_Ru.rt (v := (some (.int (-2)))) (h' := (h.1, h.2.1, J13, h.2.2.2)) rfl ?_
          exact k (some (.int (-2))) (h.2.1) (J13) ⟨_, rfl, ⟨by decide, by decide⟩⟩ hB hV (fun _ _ _ => rfl)
      · refine qm_Ru.go 1 (c' := (21, [.ref 0, .int s, .float 0], [.int (-1)], h)) rfl ?_
        refine qm_Ru.rt (v := (some (.int (-1)))) (h' := h) rfl ?_
        exact k (some (.int (-1))) (h.2.1) (h.2.2.1) ⟨_, rfl, ⟨by decide, by decide⟩⟩ hB hV (fun _ _ _ => rfl)
