/-! a job comes: class and reference in given runs -/
theorem px_cjl29 {X : Option (Nat × (Nat → Int32))} {Z : Option Value → qm_H → Prop} {h : qm_H} {fu : Nat} (hH : hk_H h) (hT : h.2.2.2 28 2 = some 29) {n nb B b y x : Int32} (q_n : h.2.1 51 2 = n) (q_nb : h.2.1 6 0 = nb) (q_B : h.2.1 29 0 = B) (b_n : 0 ≤ n.toInt ∧ n.toInt ≤ 40) (b_nb : 0 ≤ nb.toInt ∧ nb.toInt ≤ 30) (b_B : 2 ≤ B.toInt ∧ B.toInt ≤ 5) (k0 : ¬ jlC n.toInt nb.toInt B.toInt b.toInt y.toInt x.toInt → Z (some (.int (-1))) h) (k1 : jlC n.toInt nb.toInt B.toInt b.toInt y.toInt x.toInt → ∀ n2 : Int32, n2.toInt = n.toInt + 1 → Z (some (.int n)) (h.1, adC h.2.1 n.toInt.toNat b y x (-1) n2, h.2.2.1, h.2.2.2)) : qm_Rp fu X cd_198 (qm_ent 4 [.ref 0, .int b, .int y, .int x] h) Z := by
  refine qm_Rp.go 0 (c' := (0, [.ref 0, .int b, .int y, .int x], [], h)) rfl ?_
  have kz0 : (0 : Int32).toInt = 0 := rfl
  have kz1 : (1 : Int32).toInt = 1 := rfl
  have kz2 : (2 : Int32).toInt = 2 := rfl
  have kz3 : (3 : Int32).toInt = 3 := rfl
  have kz4 : (4 : Int32).toInt = 4 := rfl
  have kz5 : (5 : Int32).toInt = 5 := rfl
  have kz6 : (6 : Int32).toInt = 6 := rfl
  have kz7 : (7 : Int32).toInt = 7 := rfl
  have kz8 : (8 : Int32).toInt = 8 := rfl
  have kz9 : (9 : Int32).toInt = 9 := rfl
  have kzm1 : ((-1) : Int32).toInt = (-1) := rfl
  have kzm2 : ((-2) : Int32).toInt = (-2) := rfl
  have kzm3 : ((-3) : Int32).toInt = (-3) := rfl
  refine qm_Rp.go 1 (c' := (1, [.ref 0, .int b, .int y, .int x], [.ref 0], h)) rfl ?_
  refine hp_getr rfl (hH.1 0 (16, 10) rfl) rfl (hH.2 0 2 (some 6) rfl) ?_
  refine qm_Rp.go 1 (c' := (5, [.ref 0, .int b, .int y, .int x], [.int b, .ref 6], h)) rfl ?_
  refine hp_inv (o := 6) (r := []) (as := [.ref 6, .int b]) rfl rfl (hH.1 6 (6, 9) rfl) rfl rfl rfl ?_
  refine qm_Rp.go 1 (c' := (1, [.ref 6, .int b], [.int b], h)) rfl ?_
  refine hp_zlt (ix := b.toInt) rfl rfl (fun z1 => ?_) (fun z1 => ?_)
  · refine qm_Rp.go 1 (c' := (17, [.ref 6, .int b], [.int 0], h)) rfl ?_
    refine qm_Rp.rt (v := (some (.int 0))) (h' := h) rfl ?_
    refine qm_Rp.go 2 (c' := (38, [.ref 0, .int b, .int y, .int x], [.int (-1)], h)) rfl ?_
    refine qm_Rp.rt (v := (some (.int (-1)))) (h' := h) rfl ?_
    exact k0 (fun z => by unfold jlC at z; omega)
  · refine qm_Rp.go 2 (c' := (6, [.ref 6, .int b], [.ref 6, .int b], h)) rfl ?_
    refine hp_geti (v := nb) rfl (hH.1 6 (6, 9) rfl) rfl q_nb ?_
    refine qm_Rp.go 0 (c' := (9, [.ref 6, .int b], [.int nb, .int b], h)) rfl ?_
    refine hp_cge (ix := b.toInt) (iy := nb.toInt) rfl rfl rfl (fun z2 => ?_) (fun z2 => ?_)
    · refine qm_Rp.go 1 (c' := (17, [.ref 6, .int b], [.int 0], h)) rfl ?_
      refine qm_Rp.rt (v := (some (.int 0))) (h' := h) rfl ?_
      refine qm_Rp.go 2 (c' := (38, [.ref 0, .int b, .int y, .int x], [.int (-1)], h)) rfl ?_
      refine qm_Rp.rt (v := (some (.int (-1)))) (h' := h) rfl ?_
      exact k0 (fun z => by unfold jlC at z; omega)
    · refine qm_Rp.go 2 (c' := (17, [.ref 6, .int b], [.int 1], h)) rfl ?_
      refine qm_Rp.rt (v := (some (.int 1))) (h' := h) rfl ?_
      refine qm_Rp.go 2 (c' := (12, [.ref 0, .int b, .int y, .int x], [.ref 0], h)) rfl ?_
      refine hp_getr rfl (hH.1 0 (16, 10) rfl) rfl (hH.2 0 4 (some 28) rfl) ?_
      refine qm_Rp.go 2 (c' := (17, [.ref 0, .int b, .int y, .int x], [.int x, .int y, .ref 28], h)) rfl ?_
      refine hp_inv (o := 28) (r := []) (as := [.ref 28, .int y, .int x]) rfl rfl (hH.1 28 (9, 8) rfl) rfl rfl rfl ?_
      refine qm_Rp.go 2 (c' := (2, [.ref 28, .int y, .int x], [.int y, .ref 28], h)) rfl ?_
      refine hp_inv (o := 28) (r := []) (as := [.ref 28, .int y]) rfl rfl (hH.1 28 (9, 8) rfl) rfl rfl rfl ?_
      refine qm_Rp.go 1 (c' := (1, [.ref 28, .int y], [.int y], h)) rfl ?_
      refine hp_zlt (ix := y.toInt) rfl rfl (fun z3 => ?_) (fun z3 => ?_)
      · refine qm_Rp.go 1 (c' := (20, [.ref 28, .int y], [.int 0], h)) rfl ?_
        refine qm_Rp.rt (v := (some (.int 0))) (h' := h) rfl ?_
        refine qm_Rp.go 2 (c' := (22, [.ref 28, .int y, .int x], [.int 0], h)) rfl ?_
        refine qm_Rp.rt (v := (some (.int 0))) (h' := h) rfl ?_
        refine qm_Rp.go 2 (c' := (38, [.ref 0, .int b, .int y, .int x], [.int (-1)], h)) rfl ?_
        refine qm_Rp.rt (v := (some (.int (-1)))) (h' := h) rfl ?_
        exact k0 (fun z => by unfold jlC at z; omega)
      · refine qm_Rp.go 2 (c' := (6, [.ref 28, .int y], [.ref 28, .int y], h)) rfl ?_
        refine hp_getr rfl (hH.1 28 (9, 8) rfl) rfl hT ?_
        refine qm_Rp.go 0 (c' := (9, [.ref 28, .int y], [.ref 29, .int y], h)) rfl ?_
        refine hp_geti (v := B) rfl (hH.1 29 (11, 16) rfl) rfl q_B ?_
        refine qm_Rp.go 0 (c' := (12, [.ref 28, .int y], [.int B, .int y], h)) rfl ?_
        refine hp_cge (ix := y.toInt) (iy := B.toInt) rfl rfl rfl (fun z4 => ?_) (fun z4 => ?_)
        · refine qm_Rp.go 1 (c' := (20, [.ref 28, .int y], [.int 0], h)) rfl ?_
          refine qm_Rp.rt (v := (some (.int 0))) (h' := h) rfl ?_
          refine qm_Rp.go 2 (c' := (22, [.ref 28, .int y, .int x], [.int 0], h)) rfl ?_
          refine qm_Rp.rt (v := (some (.int 0))) (h' := h) rfl ?_
          refine qm_Rp.go 2 (c' := (38, [.ref 0, .int b, .int y, .int x], [.int (-1)], h)) rfl ?_
          refine qm_Rp.rt (v := (some (.int (-1)))) (h' := h) rfl ?_
          exact k0 (fun z => by unfold jlC at z; omega)
        · refine qm_Rp.go 2 (c' := (20, [.ref 28, .int y], [.int 1], h)) rfl ?_
          refine qm_Rp.rt (v := (some (.int 1))) (h' := h) rfl ?_
          refine qm_Rp.go 2 (c' := (9, [.ref 28, .int y, .int x], [.int x], h)) rfl ?_
          refine hp_zlt (ix := x.toInt) rfl rfl (fun z5 => ?_) (fun z5 => ?_)
          · refine qm_Rp.go 1 (c' := (22, [.ref 28, .int y, .int x], [.int 0], h)) rfl ?_
            refine qm_Rp.rt (v := (some (.int 0))) (h' := h) rfl ?_
            refine qm_Rp.go 2 (c' := (38, [.ref 0, .int b, .int y, .int x], [.int (-1)], h)) rfl ?_
            refine qm_Rp.rt (v := (some (.int (-1)))) (h' := h) rfl ?_
            exact k0 (fun z => by unfold jlC at z; omega)
          · refine qm_Rp.go 2 (c' := (14, [.ref 28, .int y, .int x], [.int 4, .int x], h)) rfl ?_
            refine hp_cge (ix := x.toInt) (iy := 4) rfl rfl rfl (fun z6 => ?_) (fun z6 => ?_)
            · refine qm_Rp.go 1 (c' := (22, [.ref 28, .int y, .int x], [.int 0], h)) rfl ?_
              refine qm_Rp.rt (v := (some (.int 0))) (h' := h) rfl ?_
              refine qm_Rp.go 2 (c' := (38, [.ref 0, .int b, .int y, .int x], [.int (-1)], h)) rfl ?_
              refine qm_Rp.rt (v := (some (.int (-1)))) (h' := h) rfl ?_
              exact k0 (fun z => by unfold jlC at z; omega)
            · refine qm_Rp.go 2 (c' := (22, [.ref 28, .int y, .int x], [.int 1], h)) rfl ?_
              refine qm_Rp.rt (v := (some (.int 1))) (h' := h) rfl ?_
              refine qm_Rp.go 2 (c' := (24, [.ref 0, .int b, .int y, .int x], [.ref 0], h)) rfl ?_
              refine hp_getr rfl (hH.1 0 (16, 10) rfl) rfl (hH.2 0 7 (some 51) rfl) ?_
              refine qm_Rp.go 4 (c' := (31, [.ref 0, .int b, .int y, .int x], [.int (-1), .int x, .int y, .int b, .ref 51], h)) rfl ?_
              refine hp_inv (o := 51) (r := []) (as := [.ref 51, .int b, .int y, .int x, .int (-1)]) rfl rfl (hH.1 51 (14, 13) rfl) rfl rfl rfl ?_
              refine qm_Rp.go 1 (c' := (1, [.ref 51, .int b, .int y, .int x, .int (-1), .float 0], [.ref 51], h)) rfl ?_
              refine hp_geti (v := n) rfl (hH.1 51 (14, 13) rfl) rfl q_n ?_
              refine qm_Rp.go 1 (c' := (6, [.ref 51, .int b, .int y, .int x, .int (-1), .float 0], [.int 40, .int n], h)) rfl ?_
              refine hp_clt (ix := n.toInt) (iy := 40) rfl rfl rfl (fun z7 => ?_) (fun z7 => ?_)
              · refine qm_Rp.go 1 (c' := (12, [.ref 51, .int b, .int y, .int x, .int (-1), .float 0], [.ref 51], h)) rfl ?_
                refine hp_getr rfl (hH.1 51 (14, 13) rfl) rfl (hH.2 51 1 (some 52) rfl) ?_
                refine qm_Rp.go 1 (c' := (16, [.ref 51, .int b, .int y, .int x, .int (-1), .float 0], [.ref 51, .ref 52], h)) rfl ?_
                refine hp_geti (v := n) rfl (hH.1 51 (14, 13) rfl) rfl q_n ?_
                refine qm_Rp.go 0 (c' := (19, [.ref 51, .int b, .int y, .int x, .int (-1), .float 0], [.int n, .ref 52], h)) rfl ?_
                refine hp_aal rfl (hH.1 52 (4, 40) rfl) (row_ref hH (by omega)) (fun ia_7 ib_7 => ?_)
                refine qm_Rp.go 4 (c' := (26, [.ref 51, .int b, .int y, .int x, .int (-1), .ref (53 + n.toInt.toNat)], [.int b, .int 0, .ref (53 + n.toInt.toNat)], h)) rfl ?_
                refine hp_ias rfl (row_sh hH (by omega)) (fun ia_8 ib_8 => ?_)
                refine qm_Rp.go 3 (c' := (31, [.ref 51, .int b, .int y, .int x, .int (-1), .ref (53 + n.toInt.toNat)], [.int y, .int 1, .ref (53 + n.toInt.toNat)], (h.1, qm_up h.2.1 (53 + n.toInt.toNat) 0 b, h.2.2.1, h.2.2.2))) rfl ?_
                refine hp_ias rfl (row_sh hH (by omega)) (fun ia_9 ib_9 => ?_)
                refine qm_Rp.go 3 (c' := (36, [.ref 51, .int b, .int y, .int x, .int (-1), .ref (53 + n.toInt.toNat)], [.int x, .int 2, .ref (53 + n.toInt.toNat)], (h.1, qm_up (qm_up h.2.1 (53 + n.toInt.toNat) 0 b) (53 + n.toInt.toNat) 1 y, h.2.2.1, h.2.2.2))) rfl ?_
                refine hp_ias rfl (row_sh hH (by omega)) (fun ia_10 ib_10 => ?_)
                refine qm_Rp.go 3 (c' := (42, [.ref 51, .int b, .int y, .int x, .int (-1), .ref (53 + n.toInt.toNat)], [.int (-1), .int 3, .ref (53 + n.toInt.toNat)], (h.1, qm_up (qm_up (qm_up h.2.1 (53 + n.toInt.toNat) 0 b) (53 + n.toInt.toNat) 1 y) (53 + n.toInt.toNat) 2 x, h.2.2.1, h.2.2.2))) rfl ?_
                refine hp_ias rfl (row_sh hH (by omega)) (fun ia_11 ib_11 => ?_)
                refine qm_Rp.go 3 (c' := (47, [.ref 51, .int b, .int y, .int x, .int (-1), .ref (53 + n.toInt.toNat)], [.int (-1), .int 4, .ref (53 + n.toInt.toNat)], (h.1, qm_up (qm_up (qm_up (qm_up h.2.1 (53 + n.toInt.toNat) 0 b) (53 + n.toInt.toNat) 1 y) (53 + n.toInt.toNat) 2 x) (53 + n.toInt.toNat) 3 (-1), h.2.2.1, h.2.2.2))) rfl ?_
                refine hp_ias rfl (row_sh hH (by omega)) (fun ia_12 ib_12 => ?_)
                refine qm_Rp.go 3 (c' := (53, [.ref 51, .int b, .int y, .int x, .int (-1), .ref (53 + n.toInt.toNat)], [.int (-100), .int 5, .ref (53 + n.toInt.toNat)], (h.1, qm_up (qm_up (qm_up (qm_up (qm_up h.2.1 (53 + n.toInt.toNat) 0 b) (53 + n.toInt.toNat) 1 y) (53 + n.toInt.toNat) 2 x) (53 + n.toInt.toNat) 3 (-1)) (53 + n.toInt.toNat) 4 (-1), h.2.2.1, h.2.2.2))) rfl ?_
                refine hp_ias rfl (row_sh hH (by omega)) (fun ia_13 ib_13 => ?_)
                refine qm_Rp.go 3 (c' := (60, [.ref 51, .int b, .int y, .int x, .int (-1), .ref (53 + n.toInt.toNat)], [.int (-100), .int 6, .ref (53 + n.toInt.toNat)], (h.1, qm_up (qm_up (qm_up (qm_up (qm_up (qm_up h.2.1 (53 + n.toInt.toNat) 0 b) (53 + n.toInt.toNat) 1 y) (53 + n.toInt.toNat) 2 x) (53 + n.toInt.toNat) 3 (-1)) (53 + n.toInt.toNat) 4 (-1)) (53 + n.toInt.toNat) 5 (-100), h.2.2.1, h.2.2.2))) rfl ?_
                refine hp_ias rfl (row_sh hH (by omega)) (fun ia_14 ib_14 => ?_)
                refine qm_Rp.go 3 (c' := (67, [.ref 51, .int b, .int y, .int x, .int (-1), .ref (53 + n.toInt.toNat)], [.int (-100), .int 7, .ref (53 + n.toInt.toNat)], (h.1, qm_up (qm_up (qm_up (qm_up (qm_up (qm_up (qm_up h.2.1 (53 + n.toInt.toNat) 0 b) (53 + n.toInt.toNat) 1 y) (53 + n.toInt.toNat) 2 x) (53 + n.toInt.toNat) 3 (-1)) (53 + n.toInt.toNat) 4 (-1)) (53 + n.toInt.toNat) 5 (-100)) (53 + n.toInt.toNat) 6 (-100), h.2.2.1, h.2.2.2))) rfl ?_
                refine hp_ias rfl (row_sh hH (by omega)) (fun ia_15 ib_15 => ?_)
                refine qm_Rp.go 2 (c' := (70, [.ref 51, .int b, .int y, .int x, .int (-1), .ref (53 + n.toInt.toNat)], [.ref 51, .ref 51], (h.1, qm_up (qm_up (qm_up (qm_up (qm_up (qm_up (qm_up (qm_up h.2.1 (53 + n.toInt.toNat) 0 b) (53 + n.toInt.toNat) 1 y) (53 + n.toInt.toNat) 2 x) (53 + n.toInt.toNat) 3 (-1)) (53 + n.toInt.toNat) 4 (-1)) (53 + n.toInt.toNat) 5 (-100)) (53 + n.toInt.toNat) 6 (-100)) (53 + n.toInt.toNat) 7 (-100), h.2.2.1, h.2.2.2))) rfl ?_
                refine hp_geti (v := n) rfl (hH.1 51 (14, 13) rfl) rfl (show (qm_up (qm_up (qm_up (qm_up (qm_up (qm_up (qm_up (qm_up h.2.1 (53 + n.toInt.toNat) 0 b) (53 + n.toInt.toNat) 1 y) (53 + n.toInt.toNat) 2 x) (53 + n.toInt.toNat) 3 (-1)) (53 + n.toInt.toNat) 4 (-1)) (53 + n.toInt.toNat) 5 (-100)) (53 + n.toInt.toNat) 6 (-100)) (53 + n.toInt.toNat) 7 (-100)) 51 2 = _ from ((hk_ot (row_ne (by omega) (by decide)).2).trans ((hk_ot (row_ne (by omega) (by decide)).2).trans ((hk_ot (row_ne (by omega) (by decide)).2).trans ((hk_ot (row_ne (by omega) (by decide)).2).trans ((hk_ot (row_ne (by omega) (by decide)).2).trans ((hk_ot (row_ne (by omega) (by decide)).2).trans ((hk_ot (row_ne (by omega) (by decide)).2).trans ((hk_ot (row_ne (by omega) (by decide)).2).trans q_n))))))))) ?_
                refine qm_Rp.go 2 (c' := (75, [.ref 51, .int b, .int y, .int x, .int (-1), .ref (53 + n.toInt.toNat)], [.int (n + 1), .ref 51], (h.1, qm_up (qm_up (qm_up (qm_up (qm_up (qm_up (qm_up (qm_up h.2.1 (53 + n.toInt.toNat) 0 b) (53 + n.toInt.toNat) 1 y) (53 + n.toInt.toNat) 2 x) (53 + n.toInt.toNat) 3 (-1)) (53 + n.toInt.toNat) 4 (-1)) (53 + n.toInt.toNat) 5 (-100)) (53 + n.toInt.toNat) 6 (-100)) (53 + n.toInt.toNat) 7 (-100), h.2.2.1, h.2.2.2))) rfl ?_
                obtain ⟨v17, q_v17, e_v17⟩ := hk_add (x := n) (y := 1) (a := n.toInt) (b := 1) rfl rfl (by omega) (by omega)
                rw [q_v17]
                refine hp_puti rfl (hH.1 51 (14, 13) rfl) rfl ?_
                refine qm_Rp.go 1 (c' := (79, [.ref 51, .int b, .int y, .int x, .int (-1), .ref (53 + n.toInt.toNat)], [.ref 51], (h.1, qm_up (qm_up (qm_up (qm_up (qm_up (qm_up (qm_up (qm_up (qm_up h.2.1 (53 + n.toInt.toNat) 0 b) (53 + n.toInt.toNat) 1 y) (53 + n.toInt.toNat) 2 x) (53 + n.toInt.toNat) 3 (-1)) (53 + n.toInt.toNat) 4 (-1)) (53 + n.toInt.toNat) 5 (-100)) (53 + n.toInt.toNat) 6 (-100)) (53 + n.toInt.toNat) 7 (-100)) 51 2 v17, h.2.2.1, h.2.2.2))) rfl ?_
                refine hp_geti (v := v17) rfl (hH.1 51 (14, 13) rfl) rfl (show (qm_up (qm_up (qm_up (qm_up (qm_up (qm_up (qm_up (qm_up (qm_up h.2.1 (53 + n.toInt.toNat) 0 b) (53 + n.toInt.toNat) 1 y) (53 + n.toInt.toNat) 2 x) (53 + n.toInt.toNat) 3 (-1)) (53 + n.toInt.toNat) 4 (-1)) (53 + n.toInt.toNat) 5 (-100)) (53 + n.toInt.toNat) 6 (-100)) (53 + n.toInt.toNat) 7 (-100)) 51 2 v17) 51 2 = _ from (hk_same)) ?_
                refine qm_Rp.go 2 (c' := (84, [.ref 51, .int b, .int y, .int x, .int (-1), .ref (53 + n.toInt.toNat)], [.int (v17 - 1)], (h.1, qm_up (qm_up (qm_up (qm_up (qm_up (qm_up (qm_up (qm_up (qm_up h.2.1 (53 + n.toInt.toNat) 0 b) (53 + n.toInt.toNat) 1 y) (53 + n.toInt.toNat) 2 x) (53 + n.toInt.toNat) 3 (-1)) (53 + n.toInt.toNat) 4 (-1)) (53 + n.toInt.toNat) 5 (-100)) (53 + n.toInt.toNat) 6 (-100)) (53 + n.toInt.toNat) 7 (-100)) 51 2 v17, h.2.2.1, h.2.2.2))) rfl ?_
                obtain ⟨v18, q_v18, e_v18⟩ := hk_sub (x := v17) (y := 1) (a := v17.toInt) (b := 1) rfl rfl (by omega) (by omega)
                rw [q_v18]
                refine qm_Rp.rt (v := (some (.int v18))) (h' := (h.1, qm_up (qm_up (qm_up (qm_up (qm_up (qm_up (qm_up (qm_up (qm_up h.2.1 (53 + n.toInt.toNat) 0 b) (53 + n.toInt.toNat) 1 y) (53 + n.toInt.toNat) 2 x) (53 + n.toInt.toNat) 3 (-1)) (53 + n.toInt.toNat) 4 (-1)) (53 + n.toInt.toNat) 5 (-100)) (53 + n.toInt.toNat) 6 (-100)) (53 + n.toInt.toNat) 7 (-100)) 51 2 v17, h.2.2.1, h.2.2.2)) rfl ?_
                refine qm_Rp.go 1 (c' := (38, [.ref 0, .int b, .int y, .int x], [.int v18], (h.1, qm_up (qm_up (qm_up (qm_up (qm_up (qm_up (qm_up (qm_up (qm_up h.2.1 (53 + n.toInt.toNat) 0 b) (53 + n.toInt.toNat) 1 y) (53 + n.toInt.toNat) 2 x) (53 + n.toInt.toNat) 3 (-1)) (53 + n.toInt.toNat) 4 (-1)) (53 + n.toInt.toNat) 5 (-100)) (53 + n.toInt.toNat) 6 (-100)) (53 + n.toInt.toNat) 7 (-100)) 51 2 v17, h.2.2.1, h.2.2.2))) rfl ?_
                refine qm_Rp.rt (v := (some (.int v18))) (h' := (h.1, qm_up (qm_up (qm_up (qm_up (qm_up (qm_up (qm_up (qm_up (qm_up h.2.1 (53 + n.toInt.toNat) 0 b) (53 + n.toInt.toNat) 1 y) (53 + n.toInt.toNat) 2 x) (53 + n.toInt.toNat) 3 (-1)) (53 + n.toInt.toNat) 4 (-1)) (53 + n.toInt.toNat) 5 (-100)) (53 + n.toInt.toNat) 6 (-100)) (53 + n.toInt.toNat) 7 (-100)) 51 2 v17, h.2.2.1, h.2.2.2)) rfl ?_
                have er : v18 = n := hk_eqi.mpr (by omega)
                rw [er]
                exact k1 ⟨by omega, ⟨by omega, by omega⟩, ⟨by omega, by omega⟩, by omega, by omega⟩ v17 (by omega)
              · refine qm_Rp.go 1 (c' := (10, [.ref 51, .int b, .int y, .int x, .int (-1), .float 0], [.int (-1)], h)) rfl ?_
                refine qm_Rp.rt (v := (some (.int (-1)))) (h' := h) rfl ?_
                refine qm_Rp.go 1 (c' := (38, [.ref 0, .int b, .int y, .int x], [.int (-1)], h)) rfl ?_
                refine qm_Rp.rt (v := (some (.int (-1)))) (h' := h) rfl ?_
                exact k0 (fun z => by unfold jlC at z; omega)
theorem px_rjl0 {X : Option (Nat × (Nat → Int32))} {Z : Option Value → qm_H → Prop} {h : qm_H} {fu : Nat} (hH : hk_H h) (q_s : h.2.1 118 18 = 0) {n nb B b y x : Int32} (q_n : h.2.1 118 75 = n) (q_nb : h.2.1 118 44 = nb) (q_B : h.2.1 127 0 = B) (b_n : 0 ≤ n.toInt ∧ n.toInt ≤ 40) (b_nb : 0 ≤ nb.toInt ∧ nb.toInt ≤ 30) (b_B : 2 ≤ B.toInt ∧ B.toInt ≤ 5) (k0 : ¬ jlC n.toInt nb.toInt B.toInt b.toInt y.toInt x.toInt → Z (some (.int (-1))) h) (k1 : jlC n.toInt nb.toInt B.toInt b.toInt y.toInt x.toInt → ∀ n2 : Int32, n2.toInt = n.toInt + 1 → Z (some (.int n)) (h.1, adR h.2.1 n.toInt.toNat 0 b y x n2, h.2.2.1, h.2.2.2)) : qm_Rp fu X cd_358 (qm_ent 4 [.ref 118, .int b, .int y, .int x] h) Z := by
  refine qm_Rp.go 0 (c' := (0, [.ref 118, .int b, .int y, .int x], [], h)) rfl ?_
  have kz0 : (0 : Int32).toInt = 0 := rfl
  have kz1 : (1 : Int32).toInt = 1 := rfl
  have kz2 : (2 : Int32).toInt = 2 := rfl
  have kz3 : (3 : Int32).toInt = 3 := rfl
  have kz4 : (4 : Int32).toInt = 4 := rfl
  have kz5 : (5 : Int32).toInt = 5 := rfl
  have kz6 : (6 : Int32).toInt = 6 := rfl
  have kz7 : (7 : Int32).toInt = 7 := rfl
  have kz8 : (8 : Int32).toInt = 8 := rfl
  have kz9 : (9 : Int32).toInt = 9 := rfl
  have kzm1 : ((-1) : Int32).toInt = (-1) := rfl
  have kzm2 : ((-2) : Int32).toInt = (-2) := rfl
  have kzm3 : ((-3) : Int32).toInt = (-3) := rfl
  refine qm_Rp.go 1 (c' := (1, [.ref 118, .int b, .int y, .int x], [.ref 118], h)) rfl ?_
  refine hp_geti (v := n) rfl (hH.1 118 (17, 105) rfl) rfl q_n ?_
  refine qm_Rp.go 1 (c' := (6, [.ref 118, .int b, .int y, .int x], [.int 40, .int n], h)) rfl ?_
  refine hp_ceq (ix := n.toInt) (iy := 40) rfl rfl rfl (fun z1 => ?_) (fun z1 => ?_)
  · refine qm_Rp.go 2 (c' := (44, [.ref 118, .int b, .int y, .int x], [.int (-1)], h)) rfl ?_
    refine qm_Rp.rt (v := (some (.int (-1)))) (h' := h) rfl ?_
    exact k0 (fun z => by unfold jlC at z; omega)
  · refine qm_Rp.go 2 (c' := (11, [.ref 118, .int b, .int y, .int x], [.int b, .ref 118], h)) rfl ?_
    refine hp_inv (o := 118) (r := []) (as := [.ref 118, .int b]) rfl rfl (hH.1 118 (17, 105) rfl) rfl rfl rfl ?_
    refine qm_Rp.go 3 (c' := (3, [.ref 118, .int b], [.ref 118, .int 0, .int b], h)) rfl ?_
    refine hp_geti (v := nb) rfl (hH.1 118 (17, 105) rfl) rfl q_nb ?_
    refine qm_Rp.go 2 (c' := (8, [.ref 118, .int b], [.int (nb - 1), .int 0, .int b], h)) rfl ?_
    obtain ⟨v2, q_v2, e_v2⟩ := hk_sub (x := nb) (y := 1) (a := nb.toInt) (b := 1) rfl rfl (by omega) (by omega)
    rw [q_v2]
    refine qm_Rp.call (j := 270) (as := [.int b, .int 0, .int v2]) (c' := (11, [.ref 118, .int b], [], h)) rfl rfl ?_
    refine qm_Rp.go 2 (c' := (2, [.int b, .int 0, .int v2], [.int 0, .int b], h)) rfl ?_
    refine hp_clt (ix := b.toInt) (iy := 0) rfl rfl rfl (fun z3 => ?_) (fun z3 => ?_)
    · refine qm_Rp.go 1 (c' := (15, [.int b, .int 0, .int v2], [.int 0], h)) rfl ?_
      refine qm_Rp.rt (v := (some (.int 0))) (h' := h) rfl ?_
      refine qm_Rp.go 0 (c' := (11, [.ref 118, .int b], [.int 0], h)) rfl ?_
      refine qm_Rp.rt (v := (some (.int 0))) (h' := h) rfl ?_
      refine qm_Rp.go 3 (c' := (44, [.ref 118, .int b, .int y, .int x], [.int (-1)], h)) rfl ?_
      refine qm_Rp.rt (v := (some (.int (-1)))) (h' := h) rfl ?_
      exact k0 (fun z => by unfold jlC at z; omega)
    · refine qm_Rp.go 2 (c' := (7, [.int b, .int 0, .int v2], [.int v2, .int b], h)) rfl ?_
      refine hp_cgt (ix := b.toInt) (iy := v2.toInt) rfl rfl rfl (fun z4 => ?_) (fun z4 => ?_)
      · refine qm_Rp.go 1 (c' := (15, [.int b, .int 0, .int v2], [.int 0], h)) rfl ?_
        refine qm_Rp.rt (v := (some (.int 0))) (h' := h) rfl ?_
        refine qm_Rp.go 0 (c' := (11, [.ref 118, .int b], [.int 0], h)) rfl ?_
        refine qm_Rp.rt (v := (some (.int 0))) (h' := h) rfl ?_
        refine qm_Rp.go 3 (c' := (44, [.ref 118, .int b, .int y, .int x], [.int (-1)], h)) rfl ?_
        refine qm_Rp.rt (v := (some (.int (-1)))) (h' := h) rfl ?_
        exact k0 (fun z => by unfold jlC at z; omega)
      · refine qm_Rp.go 2 (c' := (15, [.int b, .int 0, .int v2], [.int 1], h)) rfl ?_
        refine qm_Rp.rt (v := (some (.int 1))) (h' := h) rfl ?_
        refine qm_Rp.go 0 (c' := (11, [.ref 118, .int b], [.int 1], h)) rfl ?_
        refine qm_Rp.rt (v := (some (.int 1))) (h' := h) rfl ?_
        refine qm_Rp.go 3 (c' := (19, [.ref 118, .int b, .int y, .int x], [.int y, .ref 118], h)) rfl ?_
        refine hp_inv (o := 118) (r := []) (as := [.ref 118, .int y]) rfl rfl (hH.1 118 (17, 105) rfl) rfl rfl rfl ?_
        refine qm_Rp.go 3 (c' := (3, [.ref 118, .int y], [.ref 118, .int 0, .int y], h)) rfl ?_
        refine hp_getr rfl (hH.1 118 (17, 105) rfl) rfl (hH.2 118 22 (some 127) rfl) ?_
        refine qm_Rp.go 1 (c' := (7, [.ref 118, .int y], [.ref 118, .ref 127, .int 0, .int y], h)) rfl ?_
        refine hp_geti (v := 0) rfl (hH.1 118 (17, 105) rfl) rfl q_s ?_
        refine qm_Rp.go 0 (c' := (10, [.ref 118, .int y], [.int 0, .ref 127, .int 0, .int y], h)) rfl ?_
        refine hp_ial (v := B) rfl (hH.1 127 (0, 2) rfl) q_B (fun ia_4 ib_4 => ?_)
        refine qm_Rp.go 2 (c' := (13, [.ref 118, .int y], [.int (B - 1), .int 0, .int y], h)) rfl ?_
        obtain ⟨v6, q_v6, e_v6⟩ := hk_sub (x := B) (y := 1) (a := B.toInt) (b := 1) rfl rfl (by omega) (by omega)
        rw [q_v6]
        refine qm_Rp.call (j := 270) (as := [.int y, .int 0, .int v6]) (c' := (16, [.ref 118, .int y], [], h)) rfl rfl ?_
        refine qm_Rp.go 2 (c' := (2, [.int y, .int 0, .int v6], [.int 0, .int y], h)) rfl ?_
        refine hp_clt (ix := y.toInt) (iy := 0) rfl rfl rfl (fun z7 => ?_) (fun z7 => ?_)
        · refine qm_Rp.go 1 (c' := (15, [.int y, .int 0, .int v6], [.int 0], h)) rfl ?_
          refine qm_Rp.rt (v := (some (.int 0))) (h' := h) rfl ?_
          refine qm_Rp.go 0 (c' := (16, [.ref 118, .int y], [.int 0], h)) rfl ?_
          refine qm_Rp.rt (v := (some (.int 0))) (h' := h) rfl ?_
          refine qm_Rp.go 3 (c' := (44, [.ref 118, .int b, .int y, .int x], [.int (-1)], h)) rfl ?_
          refine qm_Rp.rt (v := (some (.int (-1)))) (h' := h) rfl ?_
          exact k0 (fun z => by unfold jlC at z; omega)
        · refine qm_Rp.go 2 (c' := (7, [.int y, .int 0, .int v6], [.int v6, .int y], h)) rfl ?_
          refine hp_cgt (ix := y.toInt) (iy := v6.toInt) rfl rfl rfl (fun z8 => ?_) (fun z8 => ?_)
          · refine qm_Rp.go 1 (c' := (15, [.int y, .int 0, .int v6], [.int 0], h)) rfl ?_
            refine qm_Rp.rt (v := (some (.int 0))) (h' := h) rfl ?_
            refine qm_Rp.go 0 (c' := (16, [.ref 118, .int y], [.int 0], h)) rfl ?_
            refine qm_Rp.rt (v := (some (.int 0))) (h' := h) rfl ?_
            refine qm_Rp.go 3 (c' := (44, [.ref 118, .int b, .int y, .int x], [.int (-1)], h)) rfl ?_
            refine qm_Rp.rt (v := (some (.int (-1)))) (h' := h) rfl ?_
            exact k0 (fun z => by unfold jlC at z; omega)
          · refine qm_Rp.go 2 (c' := (15, [.int y, .int 0, .int v6], [.int 1], h)) rfl ?_
            refine qm_Rp.rt (v := (some (.int 1))) (h' := h) rfl ?_
            refine qm_Rp.go 0 (c' := (16, [.ref 118, .int y], [.int 1], h)) rfl ?_
            refine qm_Rp.rt (v := (some (.int 1))) (h' := h) rfl ?_
            refine qm_Rp.go 2 (c' := (26, [.ref 118, .int b, .int y, .int x], [.int x], h)) rfl ?_
            refine qm_Rp.call (j := 278) (as := [.int x]) (c' := (29, [.ref 118, .int b, .int y, .int x], [], h)) rfl rfl ?_
            refine qm_Rp.go 3 (c' := (3, [.int x], [.int 3, .int 0, .int x], h)) rfl ?_
            refine qm_Rp.call (j := 270) (as := [.int x, .int 0, .int 3]) (c' := (6, [.int x], [], h)) rfl rfl ?_
            refine qm_Rp.go 2 (c' := (2, [.int x, .int 0, .int 3], [.int 0, .int x], h)) rfl ?_
            refine hp_clt (ix := x.toInt) (iy := 0) rfl rfl rfl (fun z9 => ?_) (fun z9 => ?_)
            · refine qm_Rp.go 1 (c' := (15, [.int x, .int 0, .int 3], [.int 0], h)) rfl ?_
              refine qm_Rp.rt (v := (some (.int 0))) (h' := h) rfl ?_
              refine qm_Rp.go 0 (c' := (6, [.int x], [.int 0], h)) rfl ?_
              refine qm_Rp.rt (v := (some (.int 0))) (h' := h) rfl ?_
              refine qm_Rp.go 3 (c' := (44, [.ref 118, .int b, .int y, .int x], [.int (-1)], h)) rfl ?_
              refine qm_Rp.rt (v := (some (.int (-1)))) (h' := h) rfl ?_
              exact k0 (fun z => by unfold jlC at z; omega)
            · refine qm_Rp.go 2 (c' := (7, [.int x, .int 0, .int 3], [.int 3, .int x], h)) rfl ?_
              refine hp_cgt (ix := x.toInt) (iy := 3) rfl rfl rfl (fun z10 => ?_) (fun z10 => ?_)
              · refine qm_Rp.go 1 (c' := (15, [.int x, .int 0, .int 3], [.int 0], h)) rfl ?_
                refine qm_Rp.rt (v := (some (.int 0))) (h' := h) rfl ?_
                refine qm_Rp.go 0 (c' := (6, [.int x], [.int 0], h)) rfl ?_
                refine qm_Rp.rt (v := (some (.int 0))) (h' := h) rfl ?_
                refine qm_Rp.go 3 (c' := (44, [.ref 118, .int b, .int y, .int x], [.int (-1)], h)) rfl ?_
                refine qm_Rp.rt (v := (some (.int (-1)))) (h' := h) rfl ?_
                exact k0 (fun z => by unfold jlC at z; omega)
              · refine qm_Rp.go 2 (c' := (15, [.int x, .int 0, .int 3], [.int 1], h)) rfl ?_
                refine qm_Rp.rt (v := (some (.int 1))) (h' := h) rfl ?_
                refine qm_Rp.go 0 (c' := (6, [.int x], [.int 1], h)) rfl ?_
                refine qm_Rp.rt (v := (some (.int 1))) (h' := h) rfl ?_
                refine qm_Rp.go 6 (c' := (41, [.ref 118, .int b, .int y, .int x], [.int x, .int y, .int b, .int 0, .ref 118], h)) rfl ?_
                refine hp_inv (o := 118) (r := []) (as := [.ref 118, .int 0, .int b, .int y, .int x]) rfl rfl (hH.1 118 (17, 105) rfl) rfl rfl rfl ?_
                refine qm_Rp.go 1 (c' := (1, [.ref 118, .int 0, .int b, .int y, .int x], [.ref 118], h)) rfl ?_
                refine hp_getr rfl (hH.1 118 (17, 105) rfl) rfl (hH.2 118 76 (some 168) rfl) ?_
                refine qm_Rp.go 1 (c' := (5, [.ref 118, .int 0, .int b, .int y, .int x], [.ref 118, .ref 168], h)) rfl ?_
                refine hp_geti (v := n) rfl (hH.1 118 (17, 105) rfl) rfl q_n ?_
                refine qm_Rp.go 1 (c' := (9, [.ref 118, .int 0, .int b, .int y, .int x], [.int 0, .int n, .ref 168], h)) rfl ?_
                refine hp_ias rfl (hH.1 168 (0, 40) rfl) (fun ia_10 ib_10 => ?_)
                refine qm_Rp.go 1 (c' := (11, [.ref 118, .int 0, .int b, .int y, .int x], [.ref 118], (h.1, qm_up h.2.1 168 n.toInt.toNat 0, h.2.2.1, h.2.2.2))) rfl ?_
                refine hp_getr rfl (hH.1 118 (17, 105) rfl) rfl (hH.2 118 77 (some 169) rfl) ?_
                refine qm_Rp.go 1 (c' := (15, [.ref 118, .int 0, .int b, .int y, .int x], [.ref 118, .ref 169], (h.1, qm_up h.2.1 168 n.toInt.toNat 0, h.2.2.1, h.2.2.2))) rfl ?_
                refine hp_geti (v := n) rfl (hH.1 118 (17, 105) rfl) rfl (show (qm_up h.2.1 168 n.toInt.toNat 0) 118 75 = _ from ((hk_ot rfl).trans q_n)) ?_
                refine qm_Rp.go 1 (c' := (19, [.ref 118, .int 0, .int b, .int y, .int x], [.int b, .int n, .ref 169], (h.1, qm_up h.2.1 168 n.toInt.toNat 0, h.2.2.1, h.2.2.2))) rfl ?_
                refine hp_ias rfl (hH.1 169 (0, 40) rfl) (fun ia_11 ib_11 => ?_)
                refine qm_Rp.go 1 (c' := (21, [.ref 118, .int 0, .int b, .int y, .int x], [.ref 118], (h.1, qm_up (qm_up h.2.1 168 n.toInt.toNat 0) 169 n.toInt.toNat b, h.2.2.1, h.2.2.2))) rfl ?_
                refine hp_getr rfl (hH.1 118 (17, 105) rfl) rfl (hH.2 118 78 (some 170) rfl) ?_
                refine qm_Rp.go 1 (c' := (25, [.ref 118, .int 0, .int b, .int y, .int x], [.ref 118, .ref 170], (h.1, qm_up (qm_up h.2.1 168 n.toInt.toNat 0) 169 n.toInt.toNat b, h.2.2.1, h.2.2.2))) rfl ?_
                refine hp_geti (v := n) rfl (hH.1 118 (17, 105) rfl) rfl (show (qm_up (qm_up h.2.1 168 n.toInt.toNat 0) 169 n.toInt.toNat b) 118 75 = _ from ((hk_ot rfl).trans ((hk_ot rfl).trans q_n))) ?_
                refine qm_Rp.go 1 (c' := (29, [.ref 118, .int 0, .int b, .int y, .int x], [.int y, .int n, .ref 170], (h.1, qm_up (qm_up h.2.1 168 n.toInt.toNat 0) 169 n.toInt.toNat b, h.2.2.1, h.2.2.2))) rfl ?_
                refine hp_ias rfl (hH.1 170 (0, 40) rfl) (fun ia_12 ib_12 => ?_)
                refine qm_Rp.go 1 (c' := (31, [.ref 118, .int 0, .int b, .int y, .int x], [.ref 118], (h.1, qm_up (qm_up (qm_up h.2.1 168 n.toInt.toNat 0) 169 n.toInt.toNat b) 170 n.toInt.toNat y, h.2.2.1, h.2.2.2))) rfl ?_
                refine hp_getr rfl (hH.1 118 (17, 105) rfl) rfl (hH.2 118 79 (some 171) rfl) ?_
                refine qm_Rp.go 1 (c' := (35, [.ref 118, .int 0, .int b, .int y, .int x], [.ref 118, .ref 171], (h.1, qm_up (qm_up (qm_up h.2.1 168 n.toInt.toNat 0) 169 n.toInt.toNat b) 170 n.toInt.toNat y, h.2.2.1, h.2.2.2))) rfl ?_
                refine hp_geti (v := n) rfl (hH.1 118 (17, 105) rfl) rfl (show (qm_up (qm_up (qm_up h.2.1 168 n.toInt.toNat 0) 169 n.toInt.toNat b) 170 n.toInt.toNat y) 118 75 = _ from ((hk_ot rfl).trans ((hk_ot rfl).trans ((hk_ot rfl).trans q_n)))) ?_
                refine qm_Rp.go 1 (c' := (40, [.ref 118, .int 0, .int b, .int y, .int x], [.int x, .int n, .ref 171], (h.1, qm_up (qm_up (qm_up h.2.1 168 n.toInt.toNat 0) 169 n.toInt.toNat b) 170 n.toInt.toNat y, h.2.2.1, h.2.2.2))) rfl ?_
                refine hp_ias rfl (hH.1 171 (0, 40) rfl) (fun ia_13 ib_13 => ?_)
                refine qm_Rp.go 1 (c' := (42, [.ref 118, .int 0, .int b, .int y, .int x], [.ref 118], (h.1, qm_up (qm_up (qm_up (qm_up h.2.1 168 n.toInt.toNat 0) 169 n.toInt.toNat b) 170 n.toInt.toNat y) 171 n.toInt.toNat x, h.2.2.1, h.2.2.2))) rfl ?_
                refine hp_getr rfl (hH.1 118 (17, 105) rfl) rfl (hH.2 118 80 (some 172) rfl) ?_
                refine qm_Rp.go 1 (c' := (46, [.ref 118, .int 0, .int b, .int y, .int x], [.ref 118, .ref 172], (h.1, qm_up (qm_up (qm_up (qm_up h.2.1 168 n.toInt.toNat 0) 169 n.toInt.toNat b) 170 n.toInt.toNat y) 171 n.toInt.toNat x, h.2.2.1, h.2.2.2))) rfl ?_
                refine hp_geti (v := n) rfl (hH.1 118 (17, 105) rfl) rfl (show (qm_up (qm_up (qm_up (qm_up h.2.1 168 n.toInt.toNat 0) 169 n.toInt.toNat b) 170 n.toInt.toNat y) 171 n.toInt.toNat x) 118 75 = _ from ((hk_ot rfl).trans ((hk_ot rfl).trans ((hk_ot rfl).trans ((hk_ot rfl).trans q_n))))) ?_
                refine qm_Rp.go 1 (c' := (50, [.ref 118, .int 0, .int b, .int y, .int x], [.int 0, .int n, .ref 172], (h.1, qm_up (qm_up (qm_up (qm_up h.2.1 168 n.toInt.toNat 0) 169 n.toInt.toNat b) 170 n.toInt.toNat y) 171 n.toInt.toNat x, h.2.2.1, h.2.2.2))) rfl ?_
                refine hp_ias rfl (hH.1 172 (0, 40) rfl) (fun ia_14 ib_14 => ?_)
                refine qm_Rp.go 2 (c' := (53, [.ref 118, .int 0, .int b, .int y, .int x], [.ref 118, .ref 118], (h.1, qm_up (qm_up (qm_up (qm_up (qm_up h.2.1 168 n.toInt.toNat 0) 169 n.toInt.toNat b) 170 n.toInt.toNat y) 171 n.toInt.toNat x) 172 n.toInt.toNat 0, h.2.2.1, h.2.2.2))) rfl ?_
                refine hp_geti (v := n) rfl (hH.1 118 (17, 105) rfl) rfl (show (qm_up (qm_up (qm_up (qm_up (qm_up h.2.1 168 n.toInt.toNat 0) 169 n.toInt.toNat b) 170 n.toInt.toNat y) 171 n.toInt.toNat x) 172 n.toInt.toNat 0) 118 75 = _ from ((hk_ot rfl).trans ((hk_ot rfl).trans ((hk_ot rfl).trans ((hk_ot rfl).trans ((hk_ot rfl).trans q_n)))))) ?_
                refine qm_Rp.go 2 (c' := (58, [.ref 118, .int 0, .int b, .int y, .int x], [.int (n + 1), .ref 118], (h.1, qm_up (qm_up (qm_up (qm_up (qm_up h.2.1 168 n.toInt.toNat 0) 169 n.toInt.toNat b) 170 n.toInt.toNat y) 171 n.toInt.toNat x) 172 n.toInt.toNat 0, h.2.2.1, h.2.2.2))) rfl ?_
                obtain ⟨v16, q_v16, e_v16⟩ := hk_add (x := n) (y := 1) (a := n.toInt) (b := 1) rfl rfl (by omega) (by omega)
                rw [q_v16]
                refine hp_puti rfl (hH.1 118 (17, 105) rfl) rfl ?_
                refine qm_Rp.go 1 (c' := (62, [.ref 118, .int 0, .int b, .int y, .int x], [.ref 118], (h.1, qm_up (qm_up (qm_up (qm_up (qm_up (qm_up h.2.1 168 n.toInt.toNat 0) 169 n.toInt.toNat b) 170 n.toInt.toNat y) 171 n.toInt.toNat x) 172 n.toInt.toNat 0) 118 75 v16, h.2.2.1, h.2.2.2))) rfl ?_
                refine hp_geti (v := v16) rfl (hH.1 118 (17, 105) rfl) rfl (show (qm_up (qm_up (qm_up (qm_up (qm_up (qm_up h.2.1 168 n.toInt.toNat 0) 169 n.toInt.toNat b) 170 n.toInt.toNat y) 171 n.toInt.toNat x) 172 n.toInt.toNat 0) 118 75 v16) 118 75 = _ from (hk_same)) ?_
                refine qm_Rp.go 2 (c' := (67, [.ref 118, .int 0, .int b, .int y, .int x], [.int (v16 - 1)], (h.1, qm_up (qm_up (qm_up (qm_up (qm_up (qm_up h.2.1 168 n.toInt.toNat 0) 169 n.toInt.toNat b) 170 n.toInt.toNat y) 171 n.toInt.toNat x) 172 n.toInt.toNat 0) 118 75 v16, h.2.2.1, h.2.2.2))) rfl ?_
                obtain ⟨v17, q_v17, e_v17⟩ := hk_sub (x := v16) (y := 1) (a := v16.toInt) (b := 1) rfl rfl (by omega) (by omega)
                rw [q_v17]
                refine qm_Rp.rt (v := (some (.int v17))) (h' := (h.1, qm_up (qm_up (qm_up (qm_up (qm_up (qm_up h.2.1 168 n.toInt.toNat 0) 169 n.toInt.toNat b) 170 n.toInt.toNat y) 171 n.toInt.toNat x) 172 n.toInt.toNat 0) 118 75 v16, h.2.2.1, h.2.2.2)) rfl ?_
                refine qm_Rp.go 0 (c' := (44, [.ref 118, .int b, .int y, .int x], [.int v17], (h.1, qm_up (qm_up (qm_up (qm_up (qm_up (qm_up h.2.1 168 n.toInt.toNat 0) 169 n.toInt.toNat b) 170 n.toInt.toNat y) 171 n.toInt.toNat x) 172 n.toInt.toNat 0) 118 75 v16, h.2.2.1, h.2.2.2))) rfl ?_
                refine qm_Rp.rt (v := (some (.int v17))) (h' := (h.1, qm_up (qm_up (qm_up (qm_up (qm_up (qm_up h.2.1 168 n.toInt.toNat 0) 169 n.toInt.toNat b) 170 n.toInt.toNat y) 171 n.toInt.toNat x) 172 n.toInt.toNat 0) 118 75 v16, h.2.2.1, h.2.2.2)) rfl ?_
                have er : v17 = n := hk_eqi.mpr (by omega)
                rw [er]
                exact k1 ⟨by omega, ⟨by omega, by omega⟩, ⟨by omega, by omega⟩, by omega, by omega⟩ v16 (by omega)
theorem px_cjl111 {X : Option (Nat × (Nat → Int32))} {Z : Option Value → qm_H → Prop} {h : qm_H} {fu : Nat} (hH : hk_H h) (hT : h.2.2.2 28 2 = some 111) {n nb B b y x : Int32} (q_n : h.2.1 51 2 = n) (q_nb : h.2.1 6 0 = nb) (q_B : h.2.1 111 0 = B) (b_n : 0 ≤ n.toInt ∧ n.toInt ≤ 40) (b_nb : 0 ≤ nb.toInt ∧ nb.toInt ≤ 30) (b_B : 2 ≤ B.toInt ∧ B.toInt ≤ 5) (k0 : ¬ jlC n.toInt nb.toInt B.toInt b.toInt y.toInt x.toInt → Z (some (.int (-1))) h) (k1 : jlC n.toInt nb.toInt B.toInt b.toInt y.toInt x.toInt → ∀ n2 : Int32, n2.toInt = n.toInt + 1 → Z (some (.int n)) (h.1, adC h.2.1 n.toInt.toNat b y x (-1) n2, h.2.2.1, h.2.2.2)) : qm_Rp fu X cd_198 (qm_ent 4 [.ref 0, .int b, .int y, .int x] h) Z := by
  refine qm_Rp.go 0 (c' := (0, [.ref 0, .int b, .int y, .int x], [], h)) rfl ?_
  have kz0 : (0 : Int32).toInt = 0 := rfl
  have kz1 : (1 : Int32).toInt = 1 := rfl
  have kz2 : (2 : Int32).toInt = 2 := rfl
  have kz3 : (3 : Int32).toInt = 3 := rfl
  have kz4 : (4 : Int32).toInt = 4 := rfl
  have kz5 : (5 : Int32).toInt = 5 := rfl
  have kz6 : (6 : Int32).toInt = 6 := rfl
  have kz7 : (7 : Int32).toInt = 7 := rfl
  have kz8 : (8 : Int32).toInt = 8 := rfl
  have kz9 : (9 : Int32).toInt = 9 := rfl
  have kzm1 : ((-1) : Int32).toInt = (-1) := rfl
  have kzm2 : ((-2) : Int32).toInt = (-2) := rfl
  have kzm3 : ((-3) : Int32).toInt = (-3) := rfl
  refine qm_Rp.go 1 (c' := (1, [.ref 0, .int b, .int y, .int x], [.ref 0], h)) rfl ?_
  refine hp_getr rfl (hH.1 0 (16, 10) rfl) rfl (hH.2 0 2 (some 6) rfl) ?_
  refine qm_Rp.go 1 (c' := (5, [.ref 0, .int b, .int y, .int x], [.int b, .ref 6], h)) rfl ?_
  refine hp_inv (o := 6) (r := []) (as := [.ref 6, .int b]) rfl rfl (hH.1 6 (6, 9) rfl) rfl rfl rfl ?_
  refine qm_Rp.go 1 (c' := (1, [.ref 6, .int b], [.int b], h)) rfl ?_
  refine hp_zlt (ix := b.toInt) rfl rfl (fun z1 => ?_) (fun z1 => ?_)
  · refine qm_Rp.go 1 (c' := (17, [.ref 6, .int b], [.int 0], h)) rfl ?_
    refine qm_Rp.rt (v := (some (.int 0))) (h' := h) rfl ?_
    refine qm_Rp.go 2 (c' := (38, [.ref 0, .int b, .int y, .int x], [.int (-1)], h)) rfl ?_
    refine qm_Rp.rt (v := (some (.int (-1)))) (h' := h) rfl ?_
    exact k0 (fun z => by unfold jlC at z; omega)
  · refine qm_Rp.go 2 (c' := (6, [.ref 6, .int b], [.ref 6, .int b], h)) rfl ?_
    refine hp_geti (v := nb) rfl (hH.1 6 (6, 9) rfl) rfl q_nb ?_
    refine qm_Rp.go 0 (c' := (9, [.ref 6, .int b], [.int nb, .int b], h)) rfl ?_
    refine hp_cge (ix := b.toInt) (iy := nb.toInt) rfl rfl rfl (fun z2 => ?_) (fun z2 => ?_)
    · refine qm_Rp.go 1 (c' := (17, [.ref 6, .int b], [.int 0], h)) rfl ?_
      refine qm_Rp.rt (v := (some (.int 0))) (h' := h) rfl ?_
      refine qm_Rp.go 2 (c' := (38, [.ref 0, .int b, .int y, .int x], [.int (-1)], h)) rfl ?_
      refine qm_Rp.rt (v := (some (.int (-1)))) (h' := h) rfl ?_
      exact k0 (fun z => by unfold jlC at z; omega)
    · refine qm_Rp.go 2 (c' := (17, [.ref 6, .int b], [.int 1], h)) rfl ?_
      refine qm_Rp.rt (v := (some (.int 1))) (h' := h) rfl ?_
      refine qm_Rp.go 2 (c' := (12, [.ref 0, .int b, .int y, .int x], [.ref 0], h)) rfl ?_
      refine hp_getr rfl (hH.1 0 (16, 10) rfl) rfl (hH.2 0 4 (some 28) rfl) ?_
      refine qm_Rp.go 2 (c' := (17, [.ref 0, .int b, .int y, .int x], [.int x, .int y, .ref 28], h)) rfl ?_
      refine hp_inv (o := 28) (r := []) (as := [.ref 28, .int y, .int x]) rfl rfl (hH.1 28 (9, 8) rfl) rfl rfl rfl ?_
      refine qm_Rp.go 2 (c' := (2, [.ref 28, .int y, .int x], [.int y, .ref 28], h)) rfl ?_
      refine hp_inv (o := 28) (r := []) (as := [.ref 28, .int y]) rfl rfl (hH.1 28 (9, 8) rfl) rfl rfl rfl ?_
      refine qm_Rp.go 1 (c' := (1, [.ref 28, .int y], [.int y], h)) rfl ?_
      refine hp_zlt (ix := y.toInt) rfl rfl (fun z3 => ?_) (fun z3 => ?_)
      · refine qm_Rp.go 1 (c' := (20, [.ref 28, .int y], [.int 0], h)) rfl ?_
        refine qm_Rp.rt (v := (some (.int 0))) (h' := h) rfl ?_
        refine qm_Rp.go 2 (c' := (22, [.ref 28, .int y, .int x], [.int 0], h)) rfl ?_
        refine qm_Rp.rt (v := (some (.int 0))) (h' := h) rfl ?_
        refine qm_Rp.go 2 (c' := (38, [.ref 0, .int b, .int y, .int x], [.int (-1)], h)) rfl ?_
        refine qm_Rp.rt (v := (some (.int (-1)))) (h' := h) rfl ?_
        exact k0 (fun z => by unfold jlC at z; omega)
      · refine qm_Rp.go 2 (c' := (6, [.ref 28, .int y], [.ref 28, .int y], h)) rfl ?_
        refine hp_getr rfl (hH.1 28 (9, 8) rfl) rfl hT ?_
        refine qm_Rp.go 0 (c' := (9, [.ref 28, .int y], [.ref 111, .int y], h)) rfl ?_
        refine hp_geti (v := B) rfl (hH.1 111 (11, 16) rfl) rfl q_B ?_
        refine qm_Rp.go 0 (c' := (12, [.ref 28, .int y], [.int B, .int y], h)) rfl ?_
        refine hp_cge (ix := y.toInt) (iy := B.toInt) rfl rfl rfl (fun z4 => ?_) (fun z4 => ?_)
        · refine qm_Rp.go 1 (c' := (20, [.ref 28, .int y], [.int 0], h)) rfl ?_
          refine qm_Rp.rt (v := (some (.int 0))) (h' := h) rfl ?_
          refine qm_Rp.go 2 (c' := (22, [.ref 28, .int y, .int x], [.int 0], h)) rfl ?_
          refine qm_Rp.rt (v := (some (.int 0))) (h' := h) rfl ?_
          refine qm_Rp.go 2 (c' := (38, [.ref 0, .int b, .int y, .int x], [.int (-1)], h)) rfl ?_
          refine qm_Rp.rt (v := (some (.int (-1)))) (h' := h) rfl ?_
          exact k0 (fun z => by unfold jlC at z; omega)
        · refine qm_Rp.go 2 (c' := (20, [.ref 28, .int y], [.int 1], h)) rfl ?_
          refine qm_Rp.rt (v := (some (.int 1))) (h' := h) rfl ?_
          refine qm_Rp.go 2 (c' := (9, [.ref 28, .int y, .int x], [.int x], h)) rfl ?_
          refine hp_zlt (ix := x.toInt) rfl rfl (fun z5 => ?_) (fun z5 => ?_)
          · refine qm_Rp.go 1 (c' := (22, [.ref 28, .int y, .int x], [.int 0], h)) rfl ?_
            refine qm_Rp.rt (v := (some (.int 0))) (h' := h) rfl ?_
            refine qm_Rp.go 2 (c' := (38, [.ref 0, .int b, .int y, .int x], [.int (-1)], h)) rfl ?_
            refine qm_Rp.rt (v := (some (.int (-1)))) (h' := h) rfl ?_
            exact k0 (fun z => by unfold jlC at z; omega)
          · refine qm_Rp.go 2 (c' := (14, [.ref 28, .int y, .int x], [.int 4, .int x], h)) rfl ?_
            refine hp_cge (ix := x.toInt) (iy := 4) rfl rfl rfl (fun z6 => ?_) (fun z6 => ?_)
            · refine qm_Rp.go 1 (c' := (22, [.ref 28, .int y, .int x], [.int 0], h)) rfl ?_
              refine qm_Rp.rt (v := (some (.int 0))) (h' := h) rfl ?_
              refine qm_Rp.go 2 (c' := (38, [.ref 0, .int b, .int y, .int x], [.int (-1)], h)) rfl ?_
              refine qm_Rp.rt (v := (some (.int (-1)))) (h' := h) rfl ?_
              exact k0 (fun z => by unfold jlC at z; omega)
            · refine qm_Rp.go 2 (c' := (22, [.ref 28, .int y, .int x], [.int 1], h)) rfl ?_
              refine qm_Rp.rt (v := (some (.int 1))) (h' := h) rfl ?_
              refine qm_Rp.go 2 (c' := (24, [.ref 0, .int b, .int y, .int x], [.ref 0], h)) rfl ?_
              refine hp_getr rfl (hH.1 0 (16, 10) rfl) rfl (hH.2 0 7 (some 51) rfl) ?_
              refine qm_Rp.go 4 (c' := (31, [.ref 0, .int b, .int y, .int x], [.int (-1), .int x, .int y, .int b, .ref 51], h)) rfl ?_
              refine hp_inv (o := 51) (r := []) (as := [.ref 51, .int b, .int y, .int x, .int (-1)]) rfl rfl (hH.1 51 (14, 13) rfl) rfl rfl rfl ?_
              refine qm_Rp.go 1 (c' := (1, [.ref 51, .int b, .int y, .int x, .int (-1), .float 0], [.ref 51], h)) rfl ?_
              refine hp_geti (v := n) rfl (hH.1 51 (14, 13) rfl) rfl q_n ?_
              refine qm_Rp.go 1 (c' := (6, [.ref 51, .int b, .int y, .int x, .int (-1), .float 0], [.int 40, .int n], h)) rfl ?_
              refine hp_clt (ix := n.toInt) (iy := 40) rfl rfl rfl (fun z7 => ?_) (fun z7 => ?_)
              · refine qm_Rp.go 1 (c' := (12, [.ref 51, .int b, .int y, .int x, .int (-1), .float 0], [.ref 51], h)) rfl ?_
                refine hp_getr rfl (hH.1 51 (14, 13) rfl) rfl (hH.2 51 1 (some 52) rfl) ?_
                refine qm_Rp.go 1 (c' := (16, [.ref 51, .int b, .int y, .int x, .int (-1), .float 0], [.ref 51, .ref 52], h)) rfl ?_
                refine hp_geti (v := n) rfl (hH.1 51 (14, 13) rfl) rfl q_n ?_
                refine qm_Rp.go 0 (c' := (19, [.ref 51, .int b, .int y, .int x, .int (-1), .float 0], [.int n, .ref 52], h)) rfl ?_
                refine hp_aal rfl (hH.1 52 (4, 40) rfl) (row_ref hH (by omega)) (fun ia_7 ib_7 => ?_)
                refine qm_Rp.go 4 (c' := (26, [.ref 51, .int b, .int y, .int x, .int (-1), .ref (53 + n.toInt.toNat)], [.int b, .int 0, .ref (53 + n.toInt.toNat)], h)) rfl ?_
                refine hp_ias rfl (row_sh hH (by omega)) (fun ia_8 ib_8 => ?_)
                refine qm_Rp.go 3 (c' := (31, [.ref 51, .int b, .int y, .int x, .int (-1), .ref (53 + n.toInt.toNat)], [.int y, .int 1, .ref (53 + n.toInt.toNat)], (h.1, qm_up h.2.1 (53 + n.toInt.toNat) 0 b, h.2.2.1, h.2.2.2))) rfl ?_
                refine hp_ias rfl (row_sh hH (by omega)) (fun ia_9 ib_9 => ?_)
                refine qm_Rp.go 3 (c' := (36, [.ref 51, .int b, .int y, .int x, .int (-1), .ref (53 + n.toInt.toNat)], [.int x, .int 2, .ref (53 + n.toInt.toNat)], (h.1, qm_up (qm_up h.2.1 (53 + n.toInt.toNat) 0 b) (53 + n.toInt.toNat) 1 y, h.2.2.1, h.2.2.2))) rfl ?_
                refine hp_ias rfl (row_sh hH (by omega)) (fun ia_10 ib_10 => ?_)
                refine qm_Rp.go 3 (c' := (42, [.ref 51, .int b, .int y, .int x, .int (-1), .ref (53 + n.toInt.toNat)], [.int (-1), .int 3, .ref (53 + n.toInt.toNat)], (h.1, qm_up (qm_up (qm_up h.2.1 (53 + n.toInt.toNat) 0 b) (53 + n.toInt.toNat) 1 y) (53 + n.toInt.toNat) 2 x, h.2.2.1, h.2.2.2))) rfl ?_
                refine hp_ias rfl (row_sh hH (by omega)) (fun ia_11 ib_11 => ?_)
                refine qm_Rp.go 3 (c' := (47, [.ref 51, .int b, .int y, .int x, .int (-1), .ref (53 + n.toInt.toNat)], [.int (-1), .int 4, .ref (53 + n.toInt.toNat)], (h.1, qm_up (qm_up (qm_up (qm_up h.2.1 (53 + n.toInt.toNat) 0 b) (53 + n.toInt.toNat) 1 y) (53 + n.toInt.toNat) 2 x) (53 + n.toInt.toNat) 3 (-1), h.2.2.1, h.2.2.2))) rfl ?_
                refine hp_ias rfl (row_sh hH (by omega)) (fun ia_12 ib_12 => ?_)
                refine qm_Rp.go 3 (c' := (53, [.ref 51, .int b, .int y, .int x, .int (-1), .ref (53 + n.toInt.toNat)], [.int (-100), .int 5, .ref (53 + n.toInt.toNat)], (h.1, qm_up (qm_up (qm_up (qm_up (qm_up h.2.1 (53 + n.toInt.toNat) 0 b) (53 + n.toInt.toNat) 1 y) (53 + n.toInt.toNat) 2 x) (53 + n.toInt.toNat) 3 (-1)) (53 + n.toInt.toNat) 4 (-1), h.2.2.1, h.2.2.2))) rfl ?_
                refine hp_ias rfl (row_sh hH (by omega)) (fun ia_13 ib_13 => ?_)
                refine qm_Rp.go 3 (c' := (60, [.ref 51, .int b, .int y, .int x, .int (-1), .ref (53 + n.toInt.toNat)], [.int (-100), .int 6, .ref (53 + n.toInt.toNat)], (h.1, qm_up (qm_up (qm_up (qm_up (qm_up (qm_up h.2.1 (53 + n.toInt.toNat) 0 b) (53 + n.toInt.toNat) 1 y) (53 + n.toInt.toNat) 2 x) (53 + n.toInt.toNat) 3 (-1)) (53 + n.toInt.toNat) 4 (-1)) (53 + n.toInt.toNat) 5 (-100), h.2.2.1, h.2.2.2))) rfl ?_
                refine hp_ias rfl (row_sh hH (by omega)) (fun ia_14 ib_14 => ?_)
                refine qm_Rp.go 3 (c' := (67, [.ref 51, .int b, .int y, .int x, .int (-1), .ref (53 + n.toInt.toNat)], [.int (-100), .int 7, .ref (53 + n.toInt.toNat)], (h.1, qm_up (qm_up (qm_up (qm_up (qm_up (qm_up (qm_up h.2.1 (53 + n.toInt.toNat) 0 b) (53 + n.toInt.toNat) 1 y) (53 + n.toInt.toNat) 2 x) (53 + n.toInt.toNat) 3 (-1)) (53 + n.toInt.toNat) 4 (-1)) (53 + n.toInt.toNat) 5 (-100)) (53 + n.toInt.toNat) 6 (-100), h.2.2.1, h.2.2.2))) rfl ?_
                refine hp_ias rfl (row_sh hH (by omega)) (fun ia_15 ib_15 => ?_)
                refine qm_Rp.go 2 (c' := (70, [.ref 51, .int b, .int y, .int x, .int (-1), .ref (53 + n.toInt.toNat)], [.ref 51, .ref 51], (h.1, qm_up (qm_up (qm_up (qm_up (qm_up (qm_up (qm_up (qm_up h.2.1 (53 + n.toInt.toNat) 0 b) (53 + n.toInt.toNat) 1 y) (53 + n.toInt.toNat) 2 x) (53 + n.toInt.toNat) 3 (-1)) (53 + n.toInt.toNat) 4 (-1)) (53 + n.toInt.toNat) 5 (-100)) (53 + n.toInt.toNat) 6 (-100)) (53 + n.toInt.toNat) 7 (-100), h.2.2.1, h.2.2.2))) rfl ?_
                refine hp_geti (v := n) rfl (hH.1 51 (14, 13) rfl) rfl (show (qm_up (qm_up (qm_up (qm_up (qm_up (qm_up (qm_up (qm_up h.2.1 (53 + n.toInt.toNat) 0 b) (53 + n.toInt.toNat) 1 y) (53 + n.toInt.toNat) 2 x) (53 + n.toInt.toNat) 3 (-1)) (53 + n.toInt.toNat) 4 (-1)) (53 + n.toInt.toNat) 5 (-100)) (53 + n.toInt.toNat) 6 (-100)) (53 + n.toInt.toNat) 7 (-100)) 51 2 = _ from ((hk_ot (row_ne (by omega) (by decide)).2).trans ((hk_ot (row_ne (by omega) (by decide)).2).trans ((hk_ot (row_ne (by omega) (by decide)).2).trans ((hk_ot (row_ne (by omega) (by decide)).2).trans ((hk_ot (row_ne (by omega) (by decide)).2).trans ((hk_ot (row_ne (by omega) (by decide)).2).trans ((hk_ot (row_ne (by omega) (by decide)).2).trans ((hk_ot (row_ne (by omega) (by decide)).2).trans q_n))))))))) ?_
                refine qm_Rp.go 2 (c' := (75, [.ref 51, .int b, .int y, .int x, .int (-1), .ref (53 + n.toInt.toNat)], [.int (n + 1), .ref 51], (h.1, qm_up (qm_up (qm_up (qm_up (qm_up (qm_up (qm_up (qm_up h.2.1 (53 + n.toInt.toNat) 0 b) (53 + n.toInt.toNat) 1 y) (53 + n.toInt.toNat) 2 x) (53 + n.toInt.toNat) 3 (-1)) (53 + n.toInt.toNat) 4 (-1)) (53 + n.toInt.toNat) 5 (-100)) (53 + n.toInt.toNat) 6 (-100)) (53 + n.toInt.toNat) 7 (-100), h.2.2.1, h.2.2.2))) rfl ?_
                obtain ⟨v17, q_v17, e_v17⟩ := hk_add (x := n) (y := 1) (a := n.toInt) (b := 1) rfl rfl (by omega) (by omega)
                rw [q_v17]
                refine hp_puti rfl (hH.1 51 (14, 13) rfl) rfl ?_
                refine qm_Rp.go 1 (c' := (79, [.ref 51, .int b, .int y, .int x, .int (-1), .ref (53 + n.toInt.toNat)], [.ref 51], (h.1, qm_up (qm_up (qm_up (qm_up (qm_up (qm_up (qm_up (qm_up (qm_up h.2.1 (53 + n.toInt.toNat) 0 b) (53 + n.toInt.toNat) 1 y) (53 + n.toInt.toNat) 2 x) (53 + n.toInt.toNat) 3 (-1)) (53 + n.toInt.toNat) 4 (-1)) (53 + n.toInt.toNat) 5 (-100)) (53 + n.toInt.toNat) 6 (-100)) (53 + n.toInt.toNat) 7 (-100)) 51 2 v17, h.2.2.1, h.2.2.2))) rfl ?_
                refine hp_geti (v := v17) rfl (hH.1 51 (14, 13) rfl) rfl (show (qm_up (qm_up (qm_up (qm_up (qm_up (qm_up (qm_up (qm_up (qm_up h.2.1 (53 + n.toInt.toNat) 0 b) (53 + n.toInt.toNat) 1 y) (53 + n.toInt.toNat) 2 x) (53 + n.toInt.toNat) 3 (-1)) (53 + n.toInt.toNat) 4 (-1)) (53 + n.toInt.toNat) 5 (-100)) (53 + n.toInt.toNat) 6 (-100)) (53 + n.toInt.toNat) 7 (-100)) 51 2 v17) 51 2 = _ from (hk_same)) ?_
                refine qm_Rp.go 2 (c' := (84, [.ref 51, .int b, .int y, .int x, .int (-1), .ref (53 + n.toInt.toNat)], [.int (v17 - 1)], (h.1, qm_up (qm_up (qm_up (qm_up (qm_up (qm_up (qm_up (qm_up (qm_up h.2.1 (53 + n.toInt.toNat) 0 b) (53 + n.toInt.toNat) 1 y) (53 + n.toInt.toNat) 2 x) (53 + n.toInt.toNat) 3 (-1)) (53 + n.toInt.toNat) 4 (-1)) (53 + n.toInt.toNat) 5 (-100)) (53 + n.toInt.toNat) 6 (-100)) (53 + n.toInt.toNat) 7 (-100)) 51 2 v17, h.2.2.1, h.2.2.2))) rfl ?_
                obtain ⟨v18, q_v18, e_v18⟩ := hk_sub (x := v17) (y := 1) (a := v17.toInt) (b := 1) rfl rfl (by omega) (by omega)
                rw [q_v18]
                refine qm_Rp.rt (v := (some (.int v18))) (h' := (h.1, qm_up (qm_up (qm_up (qm_up (qm_up (qm_up (qm_up (qm_up (qm_up h.2.1 (53 + n.toInt.toNat) 0 b) (53 + n.toInt.toNat) 1 y) (53 + n.toInt.toNat) 2 x) (53 + n.toInt.toNat) 3 (-1)) (53 + n.toInt.toNat) 4 (-1)) (53 + n.toInt.toNat) 5 (-100)) (53 + n.toInt.toNat) 6 (-100)) (53 + n.toInt.toNat) 7 (-100)) 51 2 v17, h.2.2.1, h.2.2.2)) rfl ?_
                refine qm_Rp.go 1 (c' := (38, [.ref 0, .int b, .int y, .int x], [.int v18], (h.1, qm_up (qm_up (qm_up (qm_up (qm_up (qm_up (qm_up (qm_up (qm_up h.2.1 (53 + n.toInt.toNat) 0 b) (53 + n.toInt.toNat) 1 y) (53 + n.toInt.toNat) 2 x) (53 + n.toInt.toNat) 3 (-1)) (53 + n.toInt.toNat) 4 (-1)) (53 + n.toInt.toNat) 5 (-100)) (53 + n.toInt.toNat) 6 (-100)) (53 + n.toInt.toNat) 7 (-100)) 51 2 v17, h.2.2.1, h.2.2.2))) rfl ?_
                refine qm_Rp.rt (v := (some (.int v18))) (h' := (h.1, qm_up (qm_up (qm_up (qm_up (qm_up (qm_up (qm_up (qm_up (qm_up h.2.1 (53 + n.toInt.toNat) 0 b) (53 + n.toInt.toNat) 1 y) (53 + n.toInt.toNat) 2 x) (53 + n.toInt.toNat) 3 (-1)) (53 + n.toInt.toNat) 4 (-1)) (53 + n.toInt.toNat) 5 (-100)) (53 + n.toInt.toNat) 6 (-100)) (53 + n.toInt.toNat) 7 (-100)) 51 2 v17, h.2.2.1, h.2.2.2)) rfl ?_
                have er : v18 = n := hk_eqi.mpr (by omega)
                rw [er]
                exact k1 ⟨by omega, ⟨by omega, by omega⟩, ⟨by omega, by omega⟩, by omega, by omega⟩ v17 (by omega)
              · refine qm_Rp.go 1 (c' := (10, [.ref 51, .int b, .int y, .int x, .int (-1), .float 0], [.int (-1)], h)) rfl ?_
                refine qm_Rp.rt (v := (some (.int (-1)))) (h' := h) rfl ?_
                refine qm_Rp.go 1 (c' := (38, [.ref 0, .int b, .int y, .int x], [.int (-1)], h)) rfl ?_
                refine qm_Rp.rt (v := (some (.int (-1)))) (h' := h) rfl ?_
                exact k0 (fun z => by unfold jlC at z; omega)
theorem px_rjl1 {X : Option (Nat × (Nat → Int32))} {Z : Option Value → qm_H → Prop} {h : qm_H} {fu : Nat} (hH : hk_H h) (q_s : h.2.1 118 18 = 1) {n nb B b y x : Int32} (q_n : h.2.1 118 75 = n) (q_nb : h.2.1 118 44 = nb) (q_B : h.2.1 127 1 = B) (b_n : 0 ≤ n.toInt ∧ n.toInt ≤ 40) (b_nb : 0 ≤ nb.toInt ∧ nb.toInt ≤ 30) (b_B : 2 ≤ B.toInt ∧ B.toInt ≤ 5) (k0 : ¬ jlC n.toInt nb.toInt B.toInt b.toInt y.toInt x.toInt → Z (some (.int (-1))) h) (k1 : jlC n.toInt nb.toInt B.toInt b.toInt y.toInt x.toInt → ∀ n2 : Int32, n2.toInt = n.toInt + 1 → Z (some (.int n)) (h.1, adR h.2.1 n.toInt.toNat 0 b y x n2, h.2.2.1, h.2.2.2)) : qm_Rp fu X cd_358 (qm_ent 4 [.ref 118, .int b, .int y, .int x] h) Z := by
  refine qm_Rp.go 0 (c' := (0, [.ref 118, .int b, .int y, .int x], [], h)) rfl ?_
  have kz0 : (0 : Int32).toInt = 0 := rfl
  have kz1 : (1 : Int32).toInt = 1 := rfl
  have kz2 : (2 : Int32).toInt = 2 := rfl
  have kz3 : (3 : Int32).toInt = 3 := rfl
  have kz4 : (4 : Int32).toInt = 4 := rfl
  have kz5 : (5 : Int32).toInt = 5 := rfl
  have kz6 : (6 : Int32).toInt = 6 := rfl
  have kz7 : (7 : Int32).toInt = 7 := rfl
  have kz8 : (8 : Int32).toInt = 8 := rfl
  have kz9 : (9 : Int32).toInt = 9 := rfl
  have kzm1 : ((-1) : Int32).toInt = (-1) := rfl
  have kzm2 : ((-2) : Int32).toInt = (-2) := rfl
  have kzm3 : ((-3) : Int32).toInt = (-3) := rfl
  refine qm_Rp.go 1 (c' := (1, [.ref 118, .int b, .int y, .int x], [.ref 118], h)) rfl ?_
  refine hp_geti (v := n) rfl (hH.1 118 (17, 105) rfl) rfl q_n ?_
  refine qm_Rp.go 1 (c' := (6, [.ref 118, .int b, .int y, .int x], [.int 40, .int n], h)) rfl ?_
  refine hp_ceq (ix := n.toInt) (iy := 40) rfl rfl rfl (fun z1 => ?_) (fun z1 => ?_)
  · refine qm_Rp.go 2 (c' := (44, [.ref 118, .int b, .int y, .int x], [.int (-1)], h)) rfl ?_
    refine qm_Rp.rt (v := (some (.int (-1)))) (h' := h) rfl ?_
    exact k0 (fun z => by unfold jlC at z; omega)
  · refine qm_Rp.go 2 (c' := (11, [.ref 118, .int b, .int y, .int x], [.int b, .ref 118], h)) rfl ?_
    refine hp_inv (o := 118) (r := []) (as := [.ref 118, .int b]) rfl rfl (hH.1 118 (17, 105) rfl) rfl rfl rfl ?_
    refine qm_Rp.go 3 (c' := (3, [.ref 118, .int b], [.ref 118, .int 0, .int b], h)) rfl ?_
    refine hp_geti (v := nb) rfl (hH.1 118 (17, 105) rfl) rfl q_nb ?_
    refine qm_Rp.go 2 (c' := (8, [.ref 118, .int b], [.int (nb - 1), .int 0, .int b], h)) rfl ?_
    obtain ⟨v2, q_v2, e_v2⟩ := hk_sub (x := nb) (y := 1) (a := nb.toInt) (b := 1) rfl rfl (by omega) (by omega)
    rw [q_v2]
    refine qm_Rp.call (j := 270) (as := [.int b, .int 0, .int v2]) (c' := (11, [.ref 118, .int b], [], h)) rfl rfl ?_
    refine qm_Rp.go 2 (c' := (2, [.int b, .int 0, .int v2], [.int 0, .int b], h)) rfl ?_
    refine hp_clt (ix := b.toInt) (iy := 0) rfl rfl rfl (fun z3 => ?_) (fun z3 => ?_)
    · refine qm_Rp.go 1 (c' := (15, [.int b, .int 0, .int v2], [.int 0], h)) rfl ?_
      refine qm_Rp.rt (v := (some (.int 0))) (h' := h) rfl ?_
      refine qm_Rp.go 0 (c' := (11, [.ref 118, .int b], [.int 0], h)) rfl ?_
      refine qm_Rp.rt (v := (some (.int 0))) (h' := h) rfl ?_
      refine qm_Rp.go 3 (c' := (44, [.ref 118, .int b, .int y, .int x], [.int (-1)], h)) rfl ?_
      refine qm_Rp.rt (v := (some (.int (-1)))) (h' := h) rfl ?_
      exact k0 (fun z => by unfold jlC at z; omega)
    · refine qm_Rp.go 2 (c' := (7, [.int b, .int 0, .int v2], [.int v2, .int b], h)) rfl ?_
      refine hp_cgt (ix := b.toInt) (iy := v2.toInt) rfl rfl rfl (fun z4 => ?_) (fun z4 => ?_)
      · refine qm_Rp.go 1 (c' := (15, [.int b, .int 0, .int v2], [.int 0], h)) rfl ?_
        refine qm_Rp.rt (v := (some (.int 0))) (h' := h) rfl ?_
        refine qm_Rp.go 0 (c' := (11, [.ref 118, .int b], [.int 0], h)) rfl ?_
        refine qm_Rp.rt (v := (some (.int 0))) (h' := h) rfl ?_
        refine qm_Rp.go 3 (c' := (44, [.ref 118, .int b, .int y, .int x], [.int (-1)], h)) rfl ?_
        refine qm_Rp.rt (v := (some (.int (-1)))) (h' := h) rfl ?_
        exact k0 (fun z => by unfold jlC at z; omega)
      · refine qm_Rp.go 2 (c' := (15, [.int b, .int 0, .int v2], [.int 1], h)) rfl ?_
        refine qm_Rp.rt (v := (some (.int 1))) (h' := h) rfl ?_
        refine qm_Rp.go 0 (c' := (11, [.ref 118, .int b], [.int 1], h)) rfl ?_
        refine qm_Rp.rt (v := (some (.int 1))) (h' := h) rfl ?_
        refine qm_Rp.go 3 (c' := (19, [.ref 118, .int b, .int y, .int x], [.int y, .ref 118], h)) rfl ?_
        refine hp_inv (o := 118) (r := []) (as := [.ref 118, .int y]) rfl rfl (hH.1 118 (17, 105) rfl) rfl rfl rfl ?_
        refine qm_Rp.go 3 (c' := (3, [.ref 118, .int y], [.ref 118, .int 0, .int y], h)) rfl ?_
        refine hp_getr rfl (hH.1 118 (17, 105) rfl) rfl (hH.2 118 22 (some 127) rfl) ?_
        refine qm_Rp.go 1 (c' := (7, [.ref 118, .int y], [.ref 118, .ref 127, .int 0, .int y], h)) rfl ?_
        refine hp_geti (v := 1) rfl (hH.1 118 (17, 105) rfl) rfl q_s ?_
        refine qm_Rp.go 0 (c' := (10, [.ref 118, .int y], [.int 1, .ref 127, .int 0, .int y], h)) rfl ?_
        refine hp_ial (v := B) rfl (hH.1 127 (0, 2) rfl) q_B (fun ia_4 ib_4 => ?_)
        refine qm_Rp.go 2 (c' := (13, [.ref 118, .int y], [.int (B - 1), .int 0, .int y], h)) rfl ?_
        obtain ⟨v6, q_v6, e_v6⟩ := hk_sub (x := B) (y := 1) (a := B.toInt) (b := 1) rfl rfl (by omega) (by omega)
        rw [q_v6]
        refine qm_Rp.call (j := 270) (as := [.int y, .int 0, .int v6]) (c' := (16, [.ref 118, .int y], [], h)) rfl rfl ?_
        refine qm_Rp.go 2 (c' := (2, [.int y, .int 0, .int v6], [.int 0, .int y], h)) rfl ?_
        refine hp_clt (ix := y.toInt) (iy := 0) rfl rfl rfl (fun z7 => ?_) (fun z7 => ?_)
        · refine qm_Rp.go 1 (c' := (15, [.int y, .int 0, .int v6], [.int 0], h)) rfl ?_
          refine qm_Rp.rt (v := (some (.int 0))) (h' := h) rfl ?_
          refine qm_Rp.go 0 (c' := (16, [.ref 118, .int y], [.int 0], h)) rfl ?_
          refine qm_Rp.rt (v := (some (.int 0))) (h' := h) rfl ?_
          refine qm_Rp.go 3 (c' := (44, [.ref 118, .int b, .int y, .int x], [.int (-1)], h)) rfl ?_
          refine qm_Rp.rt (v := (some (.int (-1)))) (h' := h) rfl ?_
          exact k0 (fun z => by unfold jlC at z; omega)
        · refine qm_Rp.go 2 (c' := (7, [.int y, .int 0, .int v6], [.int v6, .int y], h)) rfl ?_
          refine hp_cgt (ix := y.toInt) (iy := v6.toInt) rfl rfl rfl (fun z8 => ?_) (fun z8 => ?_)
          · refine qm_Rp.go 1 (c' := (15, [.int y, .int 0, .int v6], [.int 0], h)) rfl ?_
            refine qm_Rp.rt (v := (some (.int 0))) (h' := h) rfl ?_
            refine qm_Rp.go 0 (c' := (16, [.ref 118, .int y], [.int 0], h)) rfl ?_
            refine qm_Rp.rt (v := (some (.int 0))) (h' := h) rfl ?_
            refine qm_Rp.go 3 (c' := (44, [.ref 118, .int b, .int y, .int x], [.int (-1)], h)) rfl ?_
            refine qm_Rp.rt (v := (some (.int (-1)))) (h' := h) rfl ?_
            exact k0 (fun z => by unfold jlC at z; omega)
          · refine qm_Rp.go 2 (c' := (15, [.int y, .int 0, .int v6], [.int 1], h)) rfl ?_
            refine qm_Rp.rt (v := (some (.int 1))) (h' := h) rfl ?_
            refine qm_Rp.go 0 (c' := (16, [.ref 118, .int y], [.int 1], h)) rfl ?_
            refine qm_Rp.rt (v := (some (.int 1))) (h' := h) rfl ?_
            refine qm_Rp.go 2 (c' := (26, [.ref 118, .int b, .int y, .int x], [.int x], h)) rfl ?_
            refine qm_Rp.call (j := 278) (as := [.int x]) (c' := (29, [.ref 118, .int b, .int y, .int x], [], h)) rfl rfl ?_
            refine qm_Rp.go 3 (c' := (3, [.int x], [.int 3, .int 0, .int x], h)) rfl ?_
            refine qm_Rp.call (j := 270) (as := [.int x, .int 0, .int 3]) (c' := (6, [.int x], [], h)) rfl rfl ?_
            refine qm_Rp.go 2 (c' := (2, [.int x, .int 0, .int 3], [.int 0, .int x], h)) rfl ?_
            refine hp_clt (ix := x.toInt) (iy := 0) rfl rfl rfl (fun z9 => ?_) (fun z9 => ?_)
            · refine qm_Rp.go 1 (c' := (15, [.int x, .int 0, .int 3], [.int 0], h)) rfl ?_
              refine qm_Rp.rt (v := (some (.int 0))) (h' := h) rfl ?_
              refine qm_Rp.go 0 (c' := (6, [.int x], [.int 0], h)) rfl ?_
              refine qm_Rp.rt (v := (some (.int 0))) (h' := h) rfl ?_
              refine qm_Rp.go 3 (c' := (44, [.ref 118, .int b, .int y, .int x], [.int (-1)], h)) rfl ?_
              refine qm_Rp.rt (v := (some (.int (-1)))) (h' := h) rfl ?_
              exact k0 (fun z => by unfold jlC at z; omega)
            · refine qm_Rp.go 2 (c' := (7, [.int x, .int 0, .int 3], [.int 3, .int x], h)) rfl ?_
              refine hp_cgt (ix := x.toInt) (iy := 3) rfl rfl rfl (fun z10 => ?_) (fun z10 => ?_)
              · refine qm_Rp.go 1 (c' := (15, [.int x, .int 0, .int 3], [.int 0], h)) rfl ?_
                refine qm_Rp.rt (v := (some (.int 0))) (h' := h) rfl ?_
                refine qm_Rp.go 0 (c' := (6, [.int x], [.int 0], h)) rfl ?_
                refine qm_Rp.rt (v := (some (.int 0))) (h' := h) rfl ?_
                refine qm_Rp.go 3 (c' := (44, [.ref 118, .int b, .int y, .int x], [.int (-1)], h)) rfl ?_
                refine qm_Rp.rt (v := (some (.int (-1)))) (h' := h) rfl ?_
                exact k0 (fun z => by unfold jlC at z; omega)
              · refine qm_Rp.go 2 (c' := (15, [.int x, .int 0, .int 3], [.int 1], h)) rfl ?_
                refine qm_Rp.rt (v := (some (.int 1))) (h' := h) rfl ?_
                refine qm_Rp.go 0 (c' := (6, [.int x], [.int 1], h)) rfl ?_
                refine qm_Rp.rt (v := (some (.int 1))) (h' := h) rfl ?_
                refine qm_Rp.go 6 (c' := (41, [.ref 118, .int b, .int y, .int x], [.int x, .int y, .int b, .int 0, .ref 118], h)) rfl ?_
                refine hp_inv (o := 118) (r := []) (as := [.ref 118, .int 0, .int b, .int y, .int x]) rfl rfl (hH.1 118 (17, 105) rfl) rfl rfl rfl ?_
                refine qm_Rp.go 1 (c' := (1, [.ref 118, .int 0, .int b, .int y, .int x], [.ref 118], h)) rfl ?_
                refine hp_getr rfl (hH.1 118 (17, 105) rfl) rfl (hH.2 118 76 (some 168) rfl) ?_
                refine qm_Rp.go 1 (c' := (5, [.ref 118, .int 0, .int b, .int y, .int x], [.ref 118, .ref 168], h)) rfl ?_
                refine hp_geti (v := n) rfl (hH.1 118 (17, 105) rfl) rfl q_n ?_
                refine qm_Rp.go 1 (c' := (9, [.ref 118, .int 0, .int b, .int y, .int x], [.int 0, .int n, .ref 168], h)) rfl ?_
                refine hp_ias rfl (hH.1 168 (0, 40) rfl) (fun ia_10 ib_10 => ?_)
                refine qm_Rp.go 1 (c' := (11, [.ref 118, .int 0, .int b, .int y, .int x], [.ref 118], (h.1, qm_up h.2.1 168 n.toInt.toNat 0, h.2.2.1, h.2.2.2))) rfl ?_
                refine hp_getr rfl (hH.1 118 (17, 105) rfl) rfl (hH.2 118 77 (some 169) rfl) ?_
                refine qm_Rp.go 1 (c' := (15, [.ref 118, .int 0, .int b, .int y, .int x], [.ref 118, .ref 169], (h.1, qm_up h.2.1 168 n.toInt.toNat 0, h.2.2.1, h.2.2.2))) rfl ?_
                refine hp_geti (v := n) rfl (hH.1 118 (17, 105) rfl) rfl (show (qm_up h.2.1 168 n.toInt.toNat 0) 118 75 = _ from ((hk_ot rfl).trans q_n)) ?_
                refine qm_Rp.go 1 (c' := (19, [.ref 118, .int 0, .int b, .int y, .int x], [.int b, .int n, .ref 169], (h.1, qm_up h.2.1 168 n.toInt.toNat 0, h.2.2.1, h.2.2.2))) rfl ?_
                refine hp_ias rfl (hH.1 169 (0, 40) rfl) (fun ia_11 ib_11 => ?_)
                refine qm_Rp.go 1 (c' := (21, [.ref 118, .int 0, .int b, .int y, .int x], [.ref 118], (h.1, qm_up (qm_up h.2.1 168 n.toInt.toNat 0) 169 n.toInt.toNat b, h.2.2.1, h.2.2.2))) rfl ?_
                refine hp_getr rfl (hH.1 118 (17, 105) rfl) rfl (hH.2 118 78 (some 170) rfl) ?_
                refine qm_Rp.go 1 (c' := (25, [.ref 118, .int 0, .int b, .int y, .int x], [.ref 118, .ref 170], (h.1, qm_up (qm_up h.2.1 168 n.toInt.toNat 0) 169 n.toInt.toNat b, h.2.2.1, h.2.2.2))) rfl ?_
                refine hp_geti (v := n) rfl (hH.1 118 (17, 105) rfl) rfl (show (qm_up (qm_up h.2.1 168 n.toInt.toNat 0) 169 n.toInt.toNat b) 118 75 = _ from ((hk_ot rfl).trans ((hk_ot rfl).trans q_n))) ?_
                refine qm_Rp.go 1 (c' := (29, [.ref 118, .int 0, .int b, .int y, .int x], [.int y, .int n, .ref 170], (h.1, qm_up (qm_up h.2.1 168 n.toInt.toNat 0) 169 n.toInt.toNat b, h.2.2.1, h.2.2.2))) rfl ?_
                refine hp_ias rfl (hH.1 170 (0, 40) rfl) (fun ia_12 ib_12 => ?_)
                refine qm_Rp.go 1 (c' := (31, [.ref 118, .int 0, .int b, .int y, .int x], [.ref 118], (h.1, qm_up (qm_up (qm_up h.2.1 168 n.toInt.toNat 0) 169 n.toInt.toNat b) 170 n.toInt.toNat y, h.2.2.1, h.2.2.2))) rfl ?_
                refine hp_getr rfl (hH.1 118 (17, 105) rfl) rfl (hH.2 118 79 (some 171) rfl) ?_
                refine qm_Rp.go 1 (c' := (35, [.ref 118, .int 0, .int b, .int y, .int x], [.ref 118, .ref 171], (h.1, qm_up (qm_up (qm_up h.2.1 168 n.toInt.toNat 0) 169 n.toInt.toNat b) 170 n.toInt.toNat y, h.2.2.1, h.2.2.2))) rfl ?_
                refine hp_geti (v := n) rfl (hH.1 118 (17, 105) rfl) rfl (show (qm_up (qm_up (qm_up h.2.1 168 n.toInt.toNat 0) 169 n.toInt.toNat b) 170 n.toInt.toNat y) 118 75 = _ from ((hk_ot rfl).trans ((hk_ot rfl).trans ((hk_ot rfl).trans q_n)))) ?_
                refine qm_Rp.go 1 (c' := (40, [.ref 118, .int 0, .int b, .int y, .int x], [.int x, .int n, .ref 171], (h.1, qm_up (qm_up (qm_up h.2.1 168 n.toInt.toNat 0) 169 n.toInt.toNat b) 170 n.toInt.toNat y, h.2.2.1, h.2.2.2))) rfl ?_
                refine hp_ias rfl (hH.1 171 (0, 40) rfl) (fun ia_13 ib_13 => ?_)
                refine qm_Rp.go 1 (c' := (42, [.ref 118, .int 0, .int b, .int y, .int x], [.ref 118], (h.1, qm_up (qm_up (qm_up (qm_up h.2.1 168 n.toInt.toNat 0) 169 n.toInt.toNat b) 170 n.toInt.toNat y) 171 n.toInt.toNat x, h.2.2.1, h.2.2.2))) rfl ?_
                refine hp_getr rfl (hH.1 118 (17, 105) rfl) rfl (hH.2 118 80 (some 172) rfl) ?_
                refine qm_Rp.go 1 (c' := (46, [.ref 118, .int 0, .int b, .int y, .int x], [.ref 118, .ref 172], (h.1, qm_up (qm_up (qm_up (qm_up h.2.1 168 n.toInt.toNat 0) 169 n.toInt.toNat b) 170 n.toInt.toNat y) 171 n.toInt.toNat x, h.2.2.1, h.2.2.2))) rfl ?_
                refine hp_geti (v := n) rfl (hH.1 118 (17, 105) rfl) rfl (show (qm_up (qm_up (qm_up (qm_up h.2.1 168 n.toInt.toNat 0) 169 n.toInt.toNat b) 170 n.toInt.toNat y) 171 n.toInt.toNat x) 118 75 = _ from ((hk_ot rfl).trans ((hk_ot rfl).trans ((hk_ot rfl).trans ((hk_ot rfl).trans q_n))))) ?_
                refine qm_Rp.go 1 (c' := (50, [.ref 118, .int 0, .int b, .int y, .int x], [.int 0, .int n, .ref 172], (h.1, qm_up (qm_up (qm_up (qm_up h.2.1 168 n.toInt.toNat 0) 169 n.toInt.toNat b) 170 n.toInt.toNat y) 171 n.toInt.toNat x, h.2.2.1, h.2.2.2))) rfl ?_
                refine hp_ias rfl (hH.1 172 (0, 40) rfl) (fun ia_14 ib_14 => ?_)
                refine qm_Rp.go 2 (c' := (53, [.ref 118, .int 0, .int b, .int y, .int x], [.ref 118, .ref 118], (h.1, qm_up (qm_up (qm_up (qm_up (qm_up h.2.1 168 n.toInt.toNat 0) 169 n.toInt.toNat b) 170 n.toInt.toNat y) 171 n.toInt.toNat x) 172 n.toInt.toNat 0, h.2.2.1, h.2.2.2))) rfl ?_
                refine hp_geti (v := n) rfl (hH.1 118 (17, 105) rfl) rfl (show (qm_up (qm_up (qm_up (qm_up (qm_up h.2.1 168 n.toInt.toNat 0) 169 n.toInt.toNat b) 170 n.toInt.toNat y) 171 n.toInt.toNat x) 172 n.toInt.toNat 0) 118 75 = _ from ((hk_ot rfl).trans ((hk_ot rfl).trans ((hk_ot rfl).trans ((hk_ot rfl).trans ((hk_ot rfl).trans q_n)))))) ?_
                refine qm_Rp.go 2 (c' := (58, [.ref 118, .int 0, .int b, .int y, .int x], [.int (n + 1), .ref 118], (h.1, qm_up (qm_up (qm_up (qm_up (qm_up h.2.1 168 n.toInt.toNat 0) 169 n.toInt.toNat b) 170 n.toInt.toNat y) 171 n.toInt.toNat x) 172 n.toInt.toNat 0, h.2.2.1, h.2.2.2))) rfl ?_
                obtain ⟨v16, q_v16, e_v16⟩ := hk_add (x := n) (y := 1) (a := n.toInt) (b := 1) rfl rfl (by omega) (by omega)
                rw [q_v16]
                refine hp_puti rfl (hH.1 118 (17, 105) rfl) rfl ?_
                refine qm_Rp.go 1 (c' := (62, [.ref 118, .int 0, .int b, .int y, .int x], [.ref 118], (h.1, qm_up (qm_up (qm_up (qm_up (qm_up (qm_up h.2.1 168 n.toInt.toNat 0) 169 n.toInt.toNat b) 170 n.toInt.toNat y) 171 n.toInt.toNat x) 172 n.toInt.toNat 0) 118 75 v16, h.2.2.1, h.2.2.2))) rfl ?_
                refine hp_geti (v := v16) rfl (hH.1 118 (17, 105) rfl) rfl (show (qm_up (qm_up (qm_up (qm_up (qm_up (qm_up h.2.1 168 n.toInt.toNat 0) 169 n.toInt.toNat b) 170 n.toInt.toNat y) 171 n.toInt.toNat x) 172 n.toInt.toNat 0) 118 75 v16) 118 75 = _ from (hk_same)) ?_
                refine qm_Rp.go 2 (c' := (67, [.ref 118, .int 0, .int b, .int y, .int x], [.int (v16 - 1)], (h.1, qm_up (qm_up (qm_up (qm_up (qm_up (qm_up h.2.1 168 n.toInt.toNat 0) 169 n.toInt.toNat b) 170 n.toInt.toNat y) 171 n.toInt.toNat x) 172 n.toInt.toNat 0) 118 75 v16, h.2.2.1, h.2.2.2))) rfl ?_
                obtain ⟨v17, q_v17, e_v17⟩ := hk_sub (x := v16) (y := 1) (a := v16.toInt) (b := 1) rfl rfl (by omega) (by omega)
                rw [q_v17]
                refine qm_Rp.rt (v := (some (.int v17))) (h' := (h.1, qm_up (qm_up (qm_up (qm_up (qm_up (qm_up h.2.1 168 n.toInt.toNat 0) 169 n.toInt.toNat b) 170 n.toInt.toNat y) 171 n.toInt.toNat x) 172 n.toInt.toNat 0) 118 75 v16, h.2.2.1, h.2.2.2)) rfl ?_
                refine qm_Rp.go 0 (c' := (44, [.ref 118, .int b, .int y, .int x], [.int v17], (h.1, qm_up (qm_up (qm_up (qm_up (qm_up (qm_up h.2.1 168 n.toInt.toNat 0) 169 n.toInt.toNat b) 170 n.toInt.toNat y) 171 n.toInt.toNat x) 172 n.toInt.toNat 0) 118 75 v16, h.2.2.1, h.2.2.2))) rfl ?_
                refine qm_Rp.rt (v := (some (.int v17))) (h' := (h.1, qm_up (qm_up (qm_up (qm_up (qm_up (qm_up h.2.1 168 n.toInt.toNat 0) 169 n.toInt.toNat b) 170 n.toInt.toNat y) 171 n.toInt.toNat x) 172 n.toInt.toNat 0) 118 75 v16, h.2.2.1, h.2.2.2)) rfl ?_
                have er : v17 = n := hk_eqi.mpr (by omega)
                rw [er]
                exact k1 ⟨by omega, ⟨by omega, by omega⟩, ⟨by omega, by omega⟩, by omega, by omega⟩ v16 (by omega)
theorem px_cju29 {X : Option (Nat × (Nat → Int32))} {Z : Option Value → qm_H → Prop} {h : qm_H} {fu : Nat} (hH : hk_H h) (hT : h.2.2.2 28 2 = some 29) {n nb B y x g : Int32} (q_n : h.2.1 51 2 = n) (q_nb : h.2.1 6 0 = nb) (q_B : h.2.1 29 0 = B) (b_n : 0 ≤ n.toInt ∧ n.toInt ≤ 40) (b_nb : 0 ≤ nb.toInt ∧ nb.toInt ≤ 30) (b_B : 2 ≤ B.toInt ∧ B.toInt ≤ 5) (k0 : ¬ juC n.toInt B.toInt y.toInt x.toInt g.toInt → Z (some (.int (-1))) h) (k1 : juC n.toInt B.toInt y.toInt x.toInt g.toInt → ∀ n2 : Int32, n2.toInt = n.toInt + 1 → Z (some (.int n)) (h.1, adC h.2.1 n.toInt.toNat (-1) y x g n2, h.2.2.1, h.2.2.2)) : qm_Rp fu X cd_200 (qm_ent 4 [.ref 0, .int y, .int x, .int g] h) Z := by
  refine qm_Rp.go 0 (c' := (0, [.ref 0, .int y, .int x, .int g], [], h)) rfl ?_
  have kz0 : (0 : Int32).toInt = 0 := rfl
  have kz1 : (1 : Int32).toInt = 1 := rfl
  have kz2 : (2 : Int32).toInt = 2 := rfl
  have kz3 : (3 : Int32).toInt = 3 := rfl
  have kz4 : (4 : Int32).toInt = 4 := rfl
  have kz5 : (5 : Int32).toInt = 5 := rfl
  have kz6 : (6 : Int32).toInt = 6 := rfl
  have kz7 : (7 : Int32).toInt = 7 := rfl
  have kz8 : (8 : Int32).toInt = 8 := rfl
  have kz9 : (9 : Int32).toInt = 9 := rfl
  have kzm1 : ((-1) : Int32).toInt = (-1) := rfl
  have kzm2 : ((-2) : Int32).toInt = (-2) := rfl
  have kzm3 : ((-3) : Int32).toInt = (-3) := rfl
  refine qm_Rp.go 1 (c' := (1, [.ref 0, .int y, .int x, .int g], [.ref 0], h)) rfl ?_
  refine hp_getr rfl (hH.1 0 (16, 10) rfl) rfl (hH.2 0 4 (some 28) rfl) ?_
  refine qm_Rp.go 2 (c' := (6, [.ref 0, .int y, .int x, .int g], [.int x, .int y, .ref 28], h)) rfl ?_
  refine hp_inv (o := 28) (r := []) (as := [.ref 28, .int y, .int x]) rfl rfl (hH.1 28 (9, 8) rfl) rfl rfl rfl ?_
  refine qm_Rp.go 2 (c' := (2, [.ref 28, .int y, .int x], [.int y, .ref 28], h)) rfl ?_
  refine hp_inv (o := 28) (r := []) (as := [.ref 28, .int y]) rfl rfl (hH.1 28 (9, 8) rfl) rfl rfl rfl ?_
  refine qm_Rp.go 1 (c' := (1, [.ref 28, .int y], [.int y], h)) rfl ?_
  refine hp_zlt (ix := y.toInt) rfl rfl (fun z1 => ?_) (fun z1 => ?_)
  · refine qm_Rp.go 1 (c' := (20, [.ref 28, .int y], [.int 0], h)) rfl ?_
    refine qm_Rp.rt (v := (some (.int 0))) (h' := h) rfl ?_
    refine qm_Rp.go 2 (c' := (22, [.ref 28, .int y, .int x], [.int 0], h)) rfl ?_
    refine qm_Rp.rt (v := (some (.int 0))) (h' := h) rfl ?_
    refine qm_Rp.go 2 (c' := (34, [.ref 0, .int y, .int x, .int g], [.int (-1)], h)) rfl ?_
    refine qm_Rp.rt (v := (some (.int (-1)))) (h' := h) rfl ?_
    exact k0 (fun z => by unfold juC at z; omega)
  · refine qm_Rp.go 2 (c' := (6, [.ref 28, .int y], [.ref 28, .int y], h)) rfl ?_
    refine hp_getr rfl (hH.1 28 (9, 8) rfl) rfl hT ?_
    refine qm_Rp.go 0 (c' := (9, [.ref 28, .int y], [.ref 29, .int y], h)) rfl ?_
    refine hp_geti (v := B) rfl (hH.1 29 (11, 16) rfl) rfl q_B ?_
    refine qm_Rp.go 0 (c' := (12, [.ref 28, .int y], [.int B, .int y], h)) rfl ?_
    refine hp_cge (ix := y.toInt) (iy := B.toInt) rfl rfl rfl (fun z2 => ?_) (fun z2 => ?_)
    · refine qm_Rp.go 1 (c' := (20, [.ref 28, .int y], [.int 0], h)) rfl ?_
      refine qm_Rp.rt (v := (some (.int 0))) (h' := h) rfl ?_
      refine qm_Rp.go 2 (c' := (22, [.ref 28, .int y, .int x], [.int 0], h)) rfl ?_
      refine qm_Rp.rt (v := (some (.int 0))) (h' := h) rfl ?_
      refine qm_Rp.go 2 (c' := (34, [.ref 0, .int y, .int x, .int g], [.int (-1)], h)) rfl ?_
      refine qm_Rp.rt (v := (some (.int (-1)))) (h' := h) rfl ?_
      exact k0 (fun z => by unfold juC at z; omega)
    · refine qm_Rp.go 2 (c' := (20, [.ref 28, .int y], [.int 1], h)) rfl ?_
      refine qm_Rp.rt (v := (some (.int 1))) (h' := h) rfl ?_
      refine qm_Rp.go 2 (c' := (9, [.ref 28, .int y, .int x], [.int x], h)) rfl ?_
      refine hp_zlt (ix := x.toInt) rfl rfl (fun z3 => ?_) (fun z3 => ?_)
      · refine qm_Rp.go 1 (c' := (22, [.ref 28, .int y, .int x], [.int 0], h)) rfl ?_
        refine qm_Rp.rt (v := (some (.int 0))) (h' := h) rfl ?_
        refine qm_Rp.go 2 (c' := (34, [.ref 0, .int y, .int x, .int g], [.int (-1)], h)) rfl ?_
        refine qm_Rp.rt (v := (some (.int (-1)))) (h' := h) rfl ?_
        exact k0 (fun z => by unfold juC at z; omega)
      · refine qm_Rp.go 2 (c' := (14, [.ref 28, .int y, .int x], [.int 4, .int x], h)) rfl ?_
        refine hp_cge (ix := x.toInt) (iy := 4) rfl rfl rfl (fun z4 => ?_) (fun z4 => ?_)
        · refine qm_Rp.go 1 (c' := (22, [.ref 28, .int y, .int x], [.int 0], h)) rfl ?_
          refine qm_Rp.rt (v := (some (.int 0))) (h' := h) rfl ?_
          refine qm_Rp.go 2 (c' := (34, [.ref 0, .int y, .int x, .int g], [.int (-1)], h)) rfl ?_
          refine qm_Rp.rt (v := (some (.int (-1)))) (h' := h) rfl ?_
          exact k0 (fun z => by unfold juC at z; omega)
        · refine qm_Rp.go 2 (c' := (22, [.ref 28, .int y, .int x], [.int 1], h)) rfl ?_
          refine qm_Rp.rt (v := (some (.int 1))) (h' := h) rfl ?_
          refine qm_Rp.go 2 (c' := (13, [.ref 0, .int y, .int x, .int g], [.int g], h)) rfl ?_
          refine qm_Rp.call (j := 103) (as := [.int g]) (c' := (16, [.ref 0, .int y, .int x, .int g], [], h)) rfl rfl ?_
          refine qm_Rp.go 2 (c' := (2, [.int g], [.int (-1), .int g], h)) rfl ?_
          refine hp_clt (ix := g.toInt) (iy := (-1)) rfl rfl rfl (fun z5 => ?_) (fun z5 => ?_)
          · refine qm_Rp.go 1 (c' := (15, [.int g], [.int 0], h)) rfl ?_
            refine qm_Rp.rt (v := (some (.int 0))) (h' := h) rfl ?_
            refine qm_Rp.go 2 (c' := (34, [.ref 0, .int y, .int x, .int g], [.int (-1)], h)) rfl ?_
            refine qm_Rp.rt (v := (some (.int (-1)))) (h' := h) rfl ?_
            exact k0 (fun z => by unfold juC at z; omega)
          · refine qm_Rp.go 2 (c' := (7, [.int g], [.int 4, .int g], h)) rfl ?_
            refine hp_cge (ix := g.toInt) (iy := 4) rfl rfl rfl (fun z6 => ?_) (fun z6 => ?_)
            · refine qm_Rp.go 1 (c' := (15, [.int g], [.int 0], h)) rfl ?_
              refine qm_Rp.rt (v := (some (.int 0))) (h' := h) rfl ?_
              refine qm_Rp.go 2 (c' := (34, [.ref 0, .int y, .int x, .int g], [.int (-1)], h)) rfl ?_
              refine qm_Rp.rt (v := (some (.int (-1)))) (h' := h) rfl ?_
              exact k0 (fun z => by unfold juC at z; omega)
            · refine qm_Rp.go 2 (c' := (15, [.int g], [.int 1], h)) rfl ?_
              refine qm_Rp.rt (v := (some (.int 1))) (h' := h) rfl ?_
              refine qm_Rp.go 2 (c' := (20, [.ref 0, .int y, .int x, .int g], [.ref 0], h)) rfl ?_
              refine hp_getr rfl (hH.1 0 (16, 10) rfl) rfl (hH.2 0 7 (some 51) rfl) ?_
              refine qm_Rp.go 4 (c' := (27, [.ref 0, .int y, .int x, .int g], [.int g, .int x, .int y, .int (-1), .ref 51], h)) rfl ?_
              refine hp_inv (o := 51) (r := []) (as := [.ref 51, .int (-1), .int y, .int x, .int g]) rfl rfl (hH.1 51 (14, 13) rfl) rfl rfl rfl ?_
              refine qm_Rp.go 1 (c' := (1, [.ref 51, .int (-1), .int y, .int x, .int g, .float 0], [.ref 51], h)) rfl ?_
              refine hp_geti (v := n) rfl (hH.1 51 (14, 13) rfl) rfl q_n ?_
              refine qm_Rp.go 1 (c' := (6, [.ref 51, .int (-1), .int y, .int x, .int g, .float 0], [.int 40, .int n], h)) rfl ?_
              refine hp_clt (ix := n.toInt) (iy := 40) rfl rfl rfl (fun z7 => ?_) (fun z7 => ?_)
              · refine qm_Rp.go 1 (c' := (12, [.ref 51, .int (-1), .int y, .int x, .int g, .float 0], [.ref 51], h)) rfl ?_
                refine hp_getr rfl (hH.1 51 (14, 13) rfl) rfl (hH.2 51 1 (some 52) rfl) ?_
                refine qm_Rp.go 1 (c' := (16, [.ref 51, .int (-1), .int y, .int x, .int g, .float 0], [.ref 51, .ref 52], h)) rfl ?_
                refine hp_geti (v := n) rfl (hH.1 51 (14, 13) rfl) rfl q_n ?_
                refine qm_Rp.go 0 (c' := (19, [.ref 51, .int (-1), .int y, .int x, .int g, .float 0], [.int n, .ref 52], h)) rfl ?_
                refine hp_aal rfl (hH.1 52 (4, 40) rfl) (row_ref hH (by omega)) (fun ia_7 ib_7 => ?_)
                refine qm_Rp.go 4 (c' := (26, [.ref 51, .int (-1), .int y, .int x, .int g, .ref (53 + n.toInt.toNat)], [.int (-1), .int 0, .ref (53 + n.toInt.toNat)], h)) rfl ?_
                refine hp_ias rfl (row_sh hH (by omega)) (fun ia_8 ib_8 => ?_)
                refine qm_Rp.go 3 (c' := (31, [.ref 51, .int (-1), .int y, .int x, .int g, .ref (53 + n.toInt.toNat)], [.int y, .int 1, .ref (53 + n.toInt.toNat)], (h.1, qm_up h.2.1 (53 + n.toInt.toNat) 0 (-1), h.2.2.1, h.2.2.2))) rfl ?_
                refine hp_ias rfl (row_sh hH (by omega)) (fun ia_9 ib_9 => ?_)
                refine qm_Rp.go 3 (c' := (36, [.ref 51, .int (-1), .int y, .int x, .int g, .ref (53 + n.toInt.toNat)], [.int x, .int 2, .ref (53 + n.toInt.toNat)], (h.1, qm_up (qm_up h.2.1 (53 + n.toInt.toNat) 0 (-1)) (53 + n.toInt.toNat) 1 y, h.2.2.1, h.2.2.2))) rfl ?_
                refine hp_ias rfl (row_sh hH (by omega)) (fun ia_10 ib_10 => ?_)
                refine qm_Rp.go 3 (c' := (42, [.ref 51, .int (-1), .int y, .int x, .int g, .ref (53 + n.toInt.toNat)], [.int g, .int 3, .ref (53 + n.toInt.toNat)], (h.1, qm_up (qm_up (qm_up h.2.1 (53 + n.toInt.toNat) 0 (-1)) (53 + n.toInt.toNat) 1 y) (53 + n.toInt.toNat) 2 x, h.2.2.1, h.2.2.2))) rfl ?_
                refine hp_ias rfl (row_sh hH (by omega)) (fun ia_11 ib_11 => ?_)
                refine qm_Rp.go 3 (c' := (47, [.ref 51, .int (-1), .int y, .int x, .int g, .ref (53 + n.toInt.toNat)], [.int (-1), .int 4, .ref (53 + n.toInt.toNat)], (h.1, qm_up (qm_up (qm_up (qm_up h.2.1 (53 + n.toInt.toNat) 0 (-1)) (53 + n.toInt.toNat) 1 y) (53 + n.toInt.toNat) 2 x) (53 + n.toInt.toNat) 3 g, h.2.2.1, h.2.2.2))) rfl ?_
                refine hp_ias rfl (row_sh hH (by omega)) (fun ia_12 ib_12 => ?_)
                refine qm_Rp.go 3 (c' := (53, [.ref 51, .int (-1), .int y, .int x, .int g, .ref (53 + n.toInt.toNat)], [.int (-100), .int 5, .ref (53 + n.toInt.toNat)], (h.1, qm_up (qm_up (qm_up (qm_up (qm_up h.2.1 (53 + n.toInt.toNat) 0 (-1)) (53 + n.toInt.toNat) 1 y) (53 + n.toInt.toNat) 2 x) (53 + n.toInt.toNat) 3 g) (53 + n.toInt.toNat) 4 (-1), h.2.2.1, h.2.2.2))) rfl ?_
                refine hp_ias rfl (row_sh hH (by omega)) (fun ia_13 ib_13 => ?_)
                refine qm_Rp.go 3 (c' := (60, [.ref 51, .int (-1), .int y, .int x, .int g, .ref (53 + n.toInt.toNat)], [.int (-100), .int 6, .ref (53 + n.toInt.toNat)], (h.1, qm_up (qm_up (qm_up (qm_up (qm_up (qm_up h.2.1 (53 + n.toInt.toNat) 0 (-1)) (53 + n.toInt.toNat) 1 y) (53 + n.toInt.toNat) 2 x) (53 + n.toInt.toNat) 3 g) (53 + n.toInt.toNat) 4 (-1)) (53 + n.toInt.toNat) 5 (-100), h.2.2.1, h.2.2.2))) rfl ?_
                refine hp_ias rfl (row_sh hH (by omega)) (fun ia_14 ib_14 => ?_)
                refine qm_Rp.go 3 (c' := (67, [.ref 51, .int (-1), .int y, .int x, .int g, .ref (53 + n.toInt.toNat)], [.int (-100), .int 7, .ref (53 + n.toInt.toNat)], (h.1, qm_up (qm_up (qm_up (qm_up (qm_up (qm_up (qm_up h.2.1 (53 + n.toInt.toNat) 0 (-1)) (53 + n.toInt.toNat) 1 y) (53 + n.toInt.toNat) 2 x) (53 + n.toInt.toNat) 3 g) (53 + n.toInt.toNat) 4 (-1)) (53 + n.toInt.toNat) 5 (-100)) (53 + n.toInt.toNat) 6 (-100), h.2.2.1, h.2.2.2))) rfl ?_
                refine hp_ias rfl (row_sh hH (by omega)) (fun ia_15 ib_15 => ?_)
                refine qm_Rp.go 2 (c' := (70, [.ref 51, .int (-1), .int y, .int x, .int g, .ref (53 + n.toInt.toNat)], [.ref 51, .ref 51], (h.1, qm_up (qm_up (qm_up (qm_up (qm_up (qm_up (qm_up (qm_up h.2.1 (53 + n.toInt.toNat) 0 (-1)) (53 + n.toInt.toNat) 1 y) (53 + n.toInt.toNat) 2 x) (53 + n.toInt.toNat) 3 g) (53 + n.toInt.toNat) 4 (-1)) (53 + n.toInt.toNat) 5 (-100)) (53 + n.toInt.toNat) 6 (-100)) (53 + n.toInt.toNat) 7 (-100), h.2.2.1, h.2.2.2))) rfl ?_
                refine hp_geti (v := n) rfl (hH.1 51 (14, 13) rfl) rfl (show (qm_up (qm_up (qm_up (qm_up (qm_up (qm_up (qm_up (qm_up h.2.1 (53 + n.toInt.toNat) 0 (-1)) (53 + n.toInt.toNat) 1 y) (53 + n.toInt.toNat) 2 x) (53 + n.toInt.toNat) 3 g) (53 + n.toInt.toNat) 4 (-1)) (53 + n.toInt.toNat) 5 (-100)) (53 + n.toInt.toNat) 6 (-100)) (53 + n.toInt.toNat) 7 (-100)) 51 2 = _ from ((hk_ot (row_ne (by omega) (by decide)).2).trans ((hk_ot (row_ne (by omega) (by decide)).2).trans ((hk_ot (row_ne (by omega) (by decide)).2).trans ((hk_ot (row_ne (by omega) (by decide)).2).trans ((hk_ot (row_ne (by omega) (by decide)).2).trans ((hk_ot (row_ne (by omega) (by decide)).2).trans ((hk_ot (row_ne (by omega) (by decide)).2).trans ((hk_ot (row_ne (by omega) (by decide)).2).trans q_n))))))))) ?_
                refine qm_Rp.go 2 (c' := (75, [.ref 51, .int (-1), .int y, .int x, .int g, .ref (53 + n.toInt.toNat)], [.int (n + 1), .ref 51], (h.1, qm_up (qm_up (qm_up (qm_up (qm_up (qm_up (qm_up (qm_up h.2.1 (53 + n.toInt.toNat) 0 (-1)) (53 + n.toInt.toNat) 1 y) (53 + n.toInt.toNat) 2 x) (53 + n.toInt.toNat) 3 g) (53 + n.toInt.toNat) 4 (-1)) (53 + n.toInt.toNat) 5 (-100)) (53 + n.toInt.toNat) 6 (-100)) (53 + n.toInt.toNat) 7 (-100), h.2.2.1, h.2.2.2))) rfl ?_
                obtain ⟨v17, q_v17, e_v17⟩ := hk_add (x := n) (y := 1) (a := n.toInt) (b := 1) rfl rfl (by omega) (by omega)
                rw [q_v17]
                refine hp_puti rfl (hH.1 51 (14, 13) rfl) rfl ?_
                refine qm_Rp.go 1 (c' := (79, [.ref 51, .int (-1), .int y, .int x, .int g, .ref (53 + n.toInt.toNat)], [.ref 51], (h.1, qm_up (qm_up (qm_up (qm_up (qm_up (qm_up (qm_up (qm_up (qm_up h.2.1 (53 + n.toInt.toNat) 0 (-1)) (53 + n.toInt.toNat) 1 y) (53 + n.toInt.toNat) 2 x) (53 + n.toInt.toNat) 3 g) (53 + n.toInt.toNat) 4 (-1)) (53 + n.toInt.toNat) 5 (-100)) (53 + n.toInt.toNat) 6 (-100)) (53 + n.toInt.toNat) 7 (-100)) 51 2 v17, h.2.2.1, h.2.2.2))) rfl ?_
                refine hp_geti (v := v17) rfl (hH.1 51 (14, 13) rfl) rfl (show (qm_up (qm_up (qm_up (qm_up (qm_up (qm_up (qm_up (qm_up (qm_up h.2.1 (53 + n.toInt.toNat) 0 (-1)) (53 + n.toInt.toNat) 1 y) (53 + n.toInt.toNat) 2 x) (53 + n.toInt.toNat) 3 g) (53 + n.toInt.toNat) 4 (-1)) (53 + n.toInt.toNat) 5 (-100)) (53 + n.toInt.toNat) 6 (-100)) (53 + n.toInt.toNat) 7 (-100)) 51 2 v17) 51 2 = _ from (hk_same)) ?_
                refine qm_Rp.go 2 (c' := (84, [.ref 51, .int (-1), .int y, .int x, .int g, .ref (53 + n.toInt.toNat)], [.int (v17 - 1)], (h.1, qm_up (qm_up (qm_up (qm_up (qm_up (qm_up (qm_up (qm_up (qm_up h.2.1 (53 + n.toInt.toNat) 0 (-1)) (53 + n.toInt.toNat) 1 y) (53 + n.toInt.toNat) 2 x) (53 + n.toInt.toNat) 3 g) (53 + n.toInt.toNat) 4 (-1)) (53 + n.toInt.toNat) 5 (-100)) (53 + n.toInt.toNat) 6 (-100)) (53 + n.toInt.toNat) 7 (-100)) 51 2 v17, h.2.2.1, h.2.2.2))) rfl ?_
                obtain ⟨v18, q_v18, e_v18⟩ := hk_sub (x := v17) (y := 1) (a := v17.toInt) (b := 1) rfl rfl (by omega) (by omega)
                rw [q_v18]
                refine qm_Rp.rt (v := (some (.int v18))) (h' := (h.1, qm_up (qm_up (qm_up (qm_up (qm_up (qm_up (qm_up (qm_up (qm_up h.2.1 (53 + n.toInt.toNat) 0 (-1)) (53 + n.toInt.toNat) 1 y) (53 + n.toInt.toNat) 2 x) (53 + n.toInt.toNat) 3 g) (53 + n.toInt.toNat) 4 (-1)) (53 + n.toInt.toNat) 5 (-100)) (53 + n.toInt.toNat) 6 (-100)) (53 + n.toInt.toNat) 7 (-100)) 51 2 v17, h.2.2.1, h.2.2.2)) rfl ?_
                refine qm_Rp.go 1 (c' := (34, [.ref 0, .int y, .int x, .int g], [.int v18], (h.1, qm_up (qm_up (qm_up (qm_up (qm_up (qm_up (qm_up (qm_up (qm_up h.2.1 (53 + n.toInt.toNat) 0 (-1)) (53 + n.toInt.toNat) 1 y) (53 + n.toInt.toNat) 2 x) (53 + n.toInt.toNat) 3 g) (53 + n.toInt.toNat) 4 (-1)) (53 + n.toInt.toNat) 5 (-100)) (53 + n.toInt.toNat) 6 (-100)) (53 + n.toInt.toNat) 7 (-100)) 51 2 v17, h.2.2.1, h.2.2.2))) rfl ?_
                refine qm_Rp.rt (v := (some (.int v18))) (h' := (h.1, qm_up (qm_up (qm_up (qm_up (qm_up (qm_up (qm_up (qm_up (qm_up h.2.1 (53 + n.toInt.toNat) 0 (-1)) (53 + n.toInt.toNat) 1 y) (53 + n.toInt.toNat) 2 x) (53 + n.toInt.toNat) 3 g) (53 + n.toInt.toNat) 4 (-1)) (53 + n.toInt.toNat) 5 (-100)) (53 + n.toInt.toNat) 6 (-100)) (53 + n.toInt.toNat) 7 (-100)) 51 2 v17, h.2.2.1, h.2.2.2)) rfl ?_
                have er : v18 = n := hk_eqi.mpr (by omega)
                rw [er]
                exact k1 ⟨by omega, ⟨by omega, by omega⟩, ⟨by omega, by omega⟩, by omega, by omega⟩ v17 (by omega)
              · refine qm_Rp.go 1 (c' := (10, [.ref 51, .int (-1), .int y, .int x, .int g, .float 0], [.int (-1)], h)) rfl ?_
                refine qm_Rp.rt (v := (some (.int (-1)))) (h' := h) rfl ?_
                refine qm_Rp.go 1 (c' := (34, [.ref 0, .int y, .int x, .int g], [.int (-1)], h)) rfl ?_
                refine qm_Rp.rt (v := (some (.int (-1)))) (h' := h) rfl ?_
                exact k0 (fun z => by unfold juC at z; omega)
theorem px_rju0 {X : Option (Nat × (Nat → Int32))} {Z : Option Value → qm_H → Prop} {h : qm_H} {fu : Nat} (hH : hk_H h) (q_s : h.2.1 118 18 = 0) {n nb B y x g : Int32} (q_n : h.2.1 118 75 = n) (q_nb : h.2.1 118 44 = nb) (q_B : h.2.1 127 0 = B) (b_n : 0 ≤ n.toInt ∧ n.toInt ≤ 40) (b_nb : 0 ≤ nb.toInt ∧ nb.toInt ≤ 30) (b_B : 2 ≤ B.toInt ∧ B.toInt ≤ 5) (k0 : ¬ juC n.toInt B.toInt y.toInt x.toInt g.toInt → Z (some (.int (-1))) h) (k1 : juC n.toInt B.toInt y.toInt x.toInt g.toInt → ∀ n2 : Int32, n2.toInt = n.toInt + 1 → Z (some (.int n)) (h.1, adR h.2.1 n.toInt.toNat 1 g y x n2, h.2.2.1, h.2.2.2)) : qm_Rp fu X cd_360 (qm_ent 4 [.ref 118, .int y, .int x, .int g] h) Z := by
  refine qm_Rp.go 0 (c' := (0, [.ref 118, .int y, .int x, .int g], [], h)) rfl ?_
  have kz0 : (0 : Int32).toInt = 0 := rfl
  have kz1 : (1 : Int32).toInt = 1 := rfl
  have kz2 : (2 : Int32).toInt = 2 := rfl
  have kz3 : (3 : Int32).toInt = 3 := rfl
  have kz4 : (4 : Int32).toInt = 4 := rfl
  have kz5 : (5 : Int32).toInt = 5 := rfl
  have kz6 : (6 : Int32).toInt = 6 := rfl
  have kz7 : (7 : Int32).toInt = 7 := rfl
  have kz8 : (8 : Int32).toInt = 8 := rfl
  have kz9 : (9 : Int32).toInt = 9 := rfl
  have kzm1 : ((-1) : Int32).toInt = (-1) := rfl
  have kzm2 : ((-2) : Int32).toInt = (-2) := rfl
  have kzm3 : ((-3) : Int32).toInt = (-3) := rfl
  refine qm_Rp.go 1 (c' := (1, [.ref 118, .int y, .int x, .int g], [.ref 118], h)) rfl ?_
  refine hp_geti (v := n) rfl (hH.1 118 (17, 105) rfl) rfl q_n ?_
  refine qm_Rp.go 1 (c' := (6, [.ref 118, .int y, .int x, .int g], [.int 40, .int n], h)) rfl ?_
  refine hp_ceq (ix := n.toInt) (iy := 40) rfl rfl rfl (fun z1 => ?_) (fun z1 => ?_)
  · refine qm_Rp.go 2 (c' := (48, [.ref 118, .int y, .int x, .int g], [.int (-1)], h)) rfl ?_
    refine qm_Rp.rt (v := (some (.int (-1)))) (h' := h) rfl ?_
    exact k0 (fun z => by unfold juC at z; omega)
  · refine qm_Rp.go 2 (c' := (11, [.ref 118, .int y, .int x, .int g], [.int y, .ref 118], h)) rfl ?_
    refine hp_inv (o := 118) (r := []) (as := [.ref 118, .int y]) rfl rfl (hH.1 118 (17, 105) rfl) rfl rfl rfl ?_
    refine qm_Rp.go 3 (c' := (3, [.ref 118, .int y], [.ref 118, .int 0, .int y], h)) rfl ?_
    refine hp_getr rfl (hH.1 118 (17, 105) rfl) rfl (hH.2 118 22 (some 127) rfl) ?_
    refine qm_Rp.go 1 (c' := (7, [.ref 118, .int y], [.ref 118, .ref 127, .int 0, .int y], h)) rfl ?_
    refine hp_geti (v := 0) rfl (hH.1 118 (17, 105) rfl) rfl q_s ?_
    refine qm_Rp.go 0 (c' := (10, [.ref 118, .int y], [.int 0, .ref 127, .int 0, .int y], h)) rfl ?_
    refine hp_ial (v := B) rfl (hH.1 127 (0, 2) rfl) q_B (fun ia_1 ib_1 => ?_)
    refine qm_Rp.go 2 (c' := (13, [.ref 118, .int y], [.int (B - 1), .int 0, .int y], h)) rfl ?_
    obtain ⟨v3, q_v3, e_v3⟩ := hk_sub (x := B) (y := 1) (a := B.toInt) (b := 1) rfl rfl (by omega) (by omega)
    rw [q_v3]
    refine qm_Rp.call (j := 270) (as := [.int y, .int 0, .int v3]) (c' := (16, [.ref 118, .int y], [], h)) rfl rfl ?_
    refine qm_Rp.go 2 (c' := (2, [.int y, .int 0, .int v3], [.int 0, .int y], h)) rfl ?_
    refine hp_clt (ix := y.toInt) (iy := 0) rfl rfl rfl (fun z4 => ?_) (fun z4 => ?_)
    · refine qm_Rp.go 1 (c' := (15, [.int y, .int 0, .int v3], [.int 0], h)) rfl ?_
      refine qm_Rp.rt (v := (some (.int 0))) (h' := h) rfl ?_
      refine qm_Rp.go 0 (c' := (16, [.ref 118, .int y], [.int 0], h)) rfl ?_
      refine qm_Rp.rt (v := (some (.int 0))) (h' := h) rfl ?_
      refine qm_Rp.go 3 (c' := (48, [.ref 118, .int y, .int x, .int g], [.int (-1)], h)) rfl ?_
      refine qm_Rp.rt (v := (some (.int (-1)))) (h' := h) rfl ?_
      exact k0 (fun z => by unfold juC at z; omega)
    · refine qm_Rp.go 2 (c' := (7, [.int y, .int 0, .int v3], [.int v3, .int y], h)) rfl ?_
      refine hp_cgt (ix := y.toInt) (iy := v3.toInt) rfl rfl rfl (fun z5 => ?_) (fun z5 => ?_)
      · refine qm_Rp.go 1 (c' := (15, [.int y, .int 0, .int v3], [.int 0], h)) rfl ?_
        refine qm_Rp.rt (v := (some (.int 0))) (h' := h) rfl ?_
        refine qm_Rp.go 0 (c' := (16, [.ref 118, .int y], [.int 0], h)) rfl ?_
        refine qm_Rp.rt (v := (some (.int 0))) (h' := h) rfl ?_
        refine qm_Rp.go 3 (c' := (48, [.ref 118, .int y, .int x, .int g], [.int (-1)], h)) rfl ?_
        refine qm_Rp.rt (v := (some (.int (-1)))) (h' := h) rfl ?_
        exact k0 (fun z => by unfold juC at z; omega)
      · refine qm_Rp.go 2 (c' := (15, [.int y, .int 0, .int v3], [.int 1], h)) rfl ?_
        refine qm_Rp.rt (v := (some (.int 1))) (h' := h) rfl ?_
        refine qm_Rp.go 0 (c' := (16, [.ref 118, .int y], [.int 1], h)) rfl ?_
        refine qm_Rp.rt (v := (some (.int 1))) (h' := h) rfl ?_
        refine qm_Rp.go 2 (c' := (18, [.ref 118, .int y, .int x, .int g], [.int x], h)) rfl ?_
        refine qm_Rp.call (j := 278) (as := [.int x]) (c' := (21, [.ref 118, .int y, .int x, .int g], [], h)) rfl rfl ?_
        refine qm_Rp.go 3 (c' := (3, [.int x], [.int 3, .int 0, .int x], h)) rfl ?_
        refine qm_Rp.call (j := 270) (as := [.int x, .int 0, .int 3]) (c' := (6, [.int x], [], h)) rfl rfl ?_
        refine qm_Rp.go 2 (c' := (2, [.int x, .int 0, .int 3], [.int 0, .int x], h)) rfl ?_
        refine hp_clt (ix := x.toInt) (iy := 0) rfl rfl rfl (fun z6 => ?_) (fun z6 => ?_)
        · refine qm_Rp.go 1 (c' := (15, [.int x, .int 0, .int 3], [.int 0], h)) rfl ?_
          refine qm_Rp.rt (v := (some (.int 0))) (h' := h) rfl ?_
          refine qm_Rp.go 0 (c' := (6, [.int x], [.int 0], h)) rfl ?_
          refine qm_Rp.rt (v := (some (.int 0))) (h' := h) rfl ?_
          refine qm_Rp.go 3 (c' := (48, [.ref 118, .int y, .int x, .int g], [.int (-1)], h)) rfl ?_
          refine qm_Rp.rt (v := (some (.int (-1)))) (h' := h) rfl ?_
          exact k0 (fun z => by unfold juC at z; omega)
        · refine qm_Rp.go 2 (c' := (7, [.int x, .int 0, .int 3], [.int 3, .int x], h)) rfl ?_
          refine hp_cgt (ix := x.toInt) (iy := 3) rfl rfl rfl (fun z7 => ?_) (fun z7 => ?_)
          · refine qm_Rp.go 1 (c' := (15, [.int x, .int 0, .int 3], [.int 0], h)) rfl ?_
            refine qm_Rp.rt (v := (some (.int 0))) (h' := h) rfl ?_
            refine qm_Rp.go 0 (c' := (6, [.int x], [.int 0], h)) rfl ?_
            refine qm_Rp.rt (v := (some (.int 0))) (h' := h) rfl ?_
            refine qm_Rp.go 3 (c' := (48, [.ref 118, .int y, .int x, .int g], [.int (-1)], h)) rfl ?_
            refine qm_Rp.rt (v := (some (.int (-1)))) (h' := h) rfl ?_
            exact k0 (fun z => by unfold juC at z; omega)
          · refine qm_Rp.go 2 (c' := (15, [.int x, .int 0, .int 3], [.int 1], h)) rfl ?_
            refine qm_Rp.rt (v := (some (.int 1))) (h' := h) rfl ?_
            refine qm_Rp.go 0 (c' := (6, [.int x], [.int 1], h)) rfl ?_
            refine qm_Rp.rt (v := (some (.int 1))) (h' := h) rfl ?_
            refine qm_Rp.go 3 (c' := (26, [.ref 118, .int y, .int x, .int g], [.int (-1), .int g], h)) rfl ?_
            refine hp_ceq (ix := g.toInt) (iy := (-1)) rfl rfl rfl (fun z8 => ?_) (fun z8 => ?_)
            · refine qm_Rp.go 5 (c' := (45, [.ref 118, .int y, .int x, .int g], [.int x, .int y, .int g, .int 1, .ref 118], h)) rfl ?_
              refine hp_inv (o := 118) (r := []) (as := [.ref 118, .int 1, .int g, .int y, .int x]) rfl rfl (hH.1 118 (17, 105) rfl) rfl rfl rfl ?_
              refine qm_Rp.go 1 (c' := (1, [.ref 118, .int 1, .int g, .int y, .int x], [.ref 118], h)) rfl ?_
              refine hp_getr rfl (hH.1 118 (17, 105) rfl) rfl (hH.2 118 76 (some 168) rfl) ?_
              refine qm_Rp.go 1 (c' := (5, [.ref 118, .int 1, .int g, .int y, .int x], [.ref 118, .ref 168], h)) rfl ?_
              refine hp_geti (v := n) rfl (hH.1 118 (17, 105) rfl) rfl q_n ?_
              refine qm_Rp.go 1 (c' := (9, [.ref 118, .int 1, .int g, .int y, .int x], [.int 1, .int n, .ref 168], h)) rfl ?_
              refine hp_ias rfl (hH.1 168 (0, 40) rfl) (fun ia_8 ib_8 => ?_)
              refine qm_Rp.go 1 (c' := (11, [.ref 118, .int 1, .int g, .int y, .int x], [.ref 118], (h.1, qm_up h.2.1 168 n.toInt.toNat 1, h.2.2.1, h.2.2.2))) rfl ?_
              refine hp_getr rfl (hH.1 118 (17, 105) rfl) rfl (hH.2 118 77 (some 169) rfl) ?_
              refine qm_Rp.go 1 (c' := (15, [.ref 118, .int 1, .int g, .int y, .int x], [.ref 118, .ref 169], (h.1, qm_up h.2.1 168 n.toInt.toNat 1, h.2.2.1, h.2.2.2))) rfl ?_
              refine hp_geti (v := n) rfl (hH.1 118 (17, 105) rfl) rfl (show (qm_up h.2.1 168 n.toInt.toNat 1) 118 75 = _ from ((hk_ot rfl).trans q_n)) ?_
              refine qm_Rp.go 1 (c' := (19, [.ref 118, .int 1, .int g, .int y, .int x], [.int g, .int n, .ref 169], (h.1, qm_up h.2.1 168 n.toInt.toNat 1, h.2.2.1, h.2.2.2))) rfl ?_
              refine hp_ias rfl (hH.1 169 (0, 40) rfl) (fun ia_9 ib_9 => ?_)
              refine qm_Rp.go 1 (c' := (21, [.ref 118, .int 1, .int g, .int y, .int x], [.ref 118], (h.1, qm_up (qm_up h.2.1 168 n.toInt.toNat 1) 169 n.toInt.toNat g, h.2.2.1, h.2.2.2))) rfl ?_
              refine hp_getr rfl (hH.1 118 (17, 105) rfl) rfl (hH.2 118 78 (some 170) rfl) ?_
              refine qm_Rp.go 1 (c' := (25, [.ref 118, .int 1, .int g, .int y, .int x], [.ref 118, .ref 170], (h.1, qm_up (qm_up h.2.1 168 n.toInt.toNat 1) 169 n.toInt.toNat g, h.2.2.1, h.2.2.2))) rfl ?_
              refine hp_geti (v := n) rfl (hH.1 118 (17, 105) rfl) rfl (show (qm_up (qm_up h.2.1 168 n.toInt.toNat 1) 169 n.toInt.toNat g) 118 75 = _ from ((hk_ot rfl).trans ((hk_ot rfl).trans q_n))) ?_
              refine qm_Rp.go 1 (c' := (29, [.ref 118, .int 1, .int g, .int y, .int x], [.int y, .int n, .ref 170], (h.1, qm_up (qm_up h.2.1 168 n.toInt.toNat 1) 169 n.toInt.toNat g, h.2.2.1, h.2.2.2))) rfl ?_
              refine hp_ias rfl (hH.1 170 (0, 40) rfl) (fun ia_10 ib_10 => ?_)
              refine qm_Rp.go 1 (c' := (31, [.ref 118, .int 1, .int g, .int y, .int x], [.ref 118], (h.1, qm_up (qm_up (qm_up h.2.1 168 n.toInt.toNat 1) 169 n.toInt.toNat g) 170 n.toInt.toNat y, h.2.2.1, h.2.2.2))) rfl ?_
              refine hp_getr rfl (hH.1 118 (17, 105) rfl) rfl (hH.2 118 79 (some 171) rfl) ?_
              refine qm_Rp.go 1 (c' := (35, [.ref 118, .int 1, .int g, .int y, .int x], [.ref 118, .ref 171], (h.1, qm_up (qm_up (qm_up h.2.1 168 n.toInt.toNat 1) 169 n.toInt.toNat g) 170 n.toInt.toNat y, h.2.2.1, h.2.2.2))) rfl ?_
              refine hp_geti (v := n) rfl (hH.1 118 (17, 105) rfl) rfl (show (qm_up (qm_up (qm_up h.2.1 168 n.toInt.toNat 1) 169 n.toInt.toNat g) 170 n.toInt.toNat y) 118 75 = _ from ((hk_ot rfl).trans ((hk_ot rfl).trans ((hk_ot rfl).trans q_n)))) ?_
              refine qm_Rp.go 1 (c' := (40, [.ref 118, .int 1, .int g, .int y, .int x], [.int x, .int n, .ref 171], (h.1, qm_up (qm_up (qm_up h.2.1 168 n.toInt.toNat 1) 169 n.toInt.toNat g) 170 n.toInt.toNat y, h.2.2.1, h.2.2.2))) rfl ?_
              refine hp_ias rfl (hH.1 171 (0, 40) rfl) (fun ia_11 ib_11 => ?_)
              refine qm_Rp.go 1 (c' := (42, [.ref 118, .int 1, .int g, .int y, .int x], [.ref 118], (h.1, qm_up (qm_up (qm_up (qm_up h.2.1 168 n.toInt.toNat 1) 169 n.toInt.toNat g) 170 n.toInt.toNat y) 171 n.toInt.toNat x, h.2.2.1, h.2.2.2))) rfl ?_
              refine hp_getr rfl (hH.1 118 (17, 105) rfl) rfl (hH.2 118 80 (some 172) rfl) ?_
              refine qm_Rp.go 1 (c' := (46, [.ref 118, .int 1, .int g, .int y, .int x], [.ref 118, .ref 172], (h.1, qm_up (qm_up (qm_up (qm_up h.2.1 168 n.toInt.toNat 1) 169 n.toInt.toNat g) 170 n.toInt.toNat y) 171 n.toInt.toNat x, h.2.2.1, h.2.2.2))) rfl ?_
              refine hp_geti (v := n) rfl (hH.1 118 (17, 105) rfl) rfl (show (qm_up (qm_up (qm_up (qm_up h.2.1 168 n.toInt.toNat 1) 169 n.toInt.toNat g) 170 n.toInt.toNat y) 171 n.toInt.toNat x) 118 75 = _ from ((hk_ot rfl).trans ((hk_ot rfl).trans ((hk_ot rfl).trans ((hk_ot rfl).trans q_n))))) ?_
              refine qm_Rp.go 1 (c' := (50, [.ref 118, .int 1, .int g, .int y, .int x], [.int 0, .int n, .ref 172], (h.1, qm_up (qm_up (qm_up (qm_up h.2.1 168 n.toInt.toNat 1) 169 n.toInt.toNat g) 170 n.toInt.toNat y) 171 n.toInt.toNat x, h.2.2.1, h.2.2.2))) rfl ?_
              refine hp_ias rfl (hH.1 172 (0, 40) rfl) (fun ia_12 ib_12 => ?_)
              refine qm_Rp.go 2 (c' := (53, [.ref 118, .int 1, .int g, .int y, .int x], [.ref 118, .ref 118], (h.1, qm_up (qm_up (qm_up (qm_up (qm_up h.2.1 168 n.toInt.toNat 1) 169 n.toInt.toNat g) 170 n.toInt.toNat y) 171 n.toInt.toNat x) 172 n.toInt.toNat 0, h.2.2.1, h.2.2.2))) rfl ?_
              refine hp_geti (v := n) rfl (hH.1 118 (17, 105) rfl) rfl (show (qm_up (qm_up (qm_up (qm_up (qm_up h.2.1 168 n.toInt.toNat 1) 169 n.toInt.toNat g) 170 n.toInt.toNat y) 171 n.toInt.toNat x) 172 n.toInt.toNat 0) 118 75 = _ from ((hk_ot rfl).trans ((hk_ot rfl).trans ((hk_ot rfl).trans ((hk_ot rfl).trans ((hk_ot rfl).trans q_n)))))) ?_
              refine qm_Rp.go 2 (c' := (58, [.ref 118, .int 1, .int g, .int y, .int x], [.int (n + 1), .ref 118], (h.1, qm_up (qm_up (qm_up (qm_up (qm_up h.2.1 168 n.toInt.toNat 1) 169 n.toInt.toNat g) 170 n.toInt.toNat y) 171 n.toInt.toNat x) 172 n.toInt.toNat 0, h.2.2.1, h.2.2.2))) rfl ?_
              obtain ⟨v14, q_v14, e_v14⟩ := hk_add (x := n) (y := 1) (a := n.toInt) (b := 1) rfl rfl (by omega) (by omega)
              rw [q_v14]
              refine hp_puti rfl (hH.1 118 (17, 105) rfl) rfl ?_
              refine qm_Rp.go 1 (c' := (62, [.ref 118, .int 1, .int g, .int y, .int x], [.ref 118], (h.1, qm_up (qm_up (qm_up (qm_up (qm_up (qm_up h.2.1 168 n.toInt.toNat 1) 169 n.toInt.toNat g) 170 n.toInt.toNat y) 171 n.toInt.toNat x) 172 n.toInt.toNat 0) 118 75 v14, h.2.2.1, h.2.2.2))) rfl ?_
              refine hp_geti (v := v14) rfl (hH.1 118 (17, 105) rfl) rfl (show (qm_up (qm_up (qm_up (qm_up (qm_up (qm_up h.2.1 168 n.toInt.toNat 1) 169 n.toInt.toNat g) 170 n.toInt.toNat y) 171 n.toInt.toNat x) 172 n.toInt.toNat 0) 118 75 v14) 118 75 = _ from (hk_same)) ?_
              refine qm_Rp.go 2 (c' := (67, [.ref 118, .int 1, .int g, .int y, .int x], [.int (v14 - 1)], (h.1, qm_up (qm_up (qm_up (qm_up (qm_up (qm_up h.2.1 168 n.toInt.toNat 1) 169 n.toInt.toNat g) 170 n.toInt.toNat y) 171 n.toInt.toNat x) 172 n.toInt.toNat 0) 118 75 v14, h.2.2.1, h.2.2.2))) rfl ?_
              obtain ⟨v15, q_v15, e_v15⟩ := hk_sub (x := v14) (y := 1) (a := v14.toInt) (b := 1) rfl rfl (by omega) (by omega)
              rw [q_v15]
              refine qm_Rp.rt (v := (some (.int v15))) (h' := (h.1, qm_up (qm_up (qm_up (qm_up (qm_up (qm_up h.2.1 168 n.toInt.toNat 1) 169 n.toInt.toNat g) 170 n.toInt.toNat y) 171 n.toInt.toNat x) 172 n.toInt.toNat 0) 118 75 v14, h.2.2.1, h.2.2.2)) rfl ?_
              refine qm_Rp.go 0 (c' := (48, [.ref 118, .int y, .int x, .int g], [.int v15], (h.1, qm_up (qm_up (qm_up (qm_up (qm_up (qm_up h.2.1 168 n.toInt.toNat 1) 169 n.toInt.toNat g) 170 n.toInt.toNat y) 171 n.toInt.toNat x) 172 n.toInt.toNat 0) 118 75 v14, h.2.2.1, h.2.2.2))) rfl ?_
              refine qm_Rp.rt (v := (some (.int v15))) (h' := (h.1, qm_up (qm_up (qm_up (qm_up (qm_up (qm_up h.2.1 168 n.toInt.toNat 1) 169 n.toInt.toNat g) 170 n.toInt.toNat y) 171 n.toInt.toNat x) 172 n.toInt.toNat 0) 118 75 v14, h.2.2.1, h.2.2.2)) rfl ?_
              have er : v15 = n := hk_eqi.mpr (by omega)
              rw [er]
              exact k1 ⟨by omega, ⟨by omega, by omega⟩, ⟨by omega, by omega⟩, by omega, by omega⟩ v14 (by omega)
            · refine qm_Rp.go 1 (c' := (30, [.ref 118, .int y, .int x, .int g], [.int g], h)) rfl ?_
              refine qm_Rp.call (j := 278) (as := [.int g]) (c' := (33, [.ref 118, .int y, .int x, .int g], [], h)) rfl rfl ?_
              refine qm_Rp.go 3 (c' := (3, [.int g], [.int 3, .int 0, .int g], h)) rfl ?_
              refine qm_Rp.call (j := 270) (as := [.int g, .int 0, .int 3]) (c' := (6, [.int g], [], h)) rfl rfl ?_
              refine qm_Rp.go 2 (c' := (2, [.int g, .int 0, .int 3], [.int 0, .int g], h)) rfl ?_
              refine hp_clt (ix := g.toInt) (iy := 0) rfl rfl rfl (fun z16 => ?_) (fun z16 => ?_)
              · refine qm_Rp.go 1 (c' := (15, [.int g, .int 0, .int 3], [.int 0], h)) rfl ?_
                refine qm_Rp.rt (v := (some (.int 0))) (h' := h) rfl ?_
                refine qm_Rp.go 0 (c' := (6, [.int g], [.int 0], h)) rfl ?_
                refine qm_Rp.rt (v := (some (.int 0))) (h' := h) rfl ?_
                refine qm_Rp.go 3 (c' := (48, [.ref 118, .int y, .int x, .int g], [.int (-1)], h)) rfl ?_
                refine qm_Rp.rt (v := (some (.int (-1)))) (h' := h) rfl ?_
                exact k0 (fun z => by unfold juC at z; omega)
              · refine qm_Rp.go 2 (c' := (7, [.int g, .int 0, .int 3], [.int 3, .int g], h)) rfl ?_
                refine hp_cgt (ix := g.toInt) (iy := 3) rfl rfl rfl (fun z17 => ?_) (fun z17 => ?_)
                · refine qm_Rp.go 1 (c' := (15, [.int g, .int 0, .int 3], [.int 0], h)) rfl ?_
                  refine qm_Rp.rt (v := (some (.int 0))) (h' := h) rfl ?_
                  refine qm_Rp.go 0 (c' := (6, [.int g], [.int 0], h)) rfl ?_
                  refine qm_Rp.rt (v := (some (.int 0))) (h' := h) rfl ?_
                  refine qm_Rp.go 3 (c' := (48, [.ref 118, .int y, .int x, .int g], [.int (-1)], h)) rfl ?_
                  refine qm_Rp.rt (v := (some (.int (-1)))) (h' := h) rfl ?_
                  exact k0 (fun z => by unfold juC at z; omega)
                · refine qm_Rp.go 2 (c' := (15, [.int g, .int 0, .int 3], [.int 1], h)) rfl ?_
                  refine qm_Rp.rt (v := (some (.int 1))) (h' := h) rfl ?_
                  refine qm_Rp.go 0 (c' := (6, [.int g], [.int 1], h)) rfl ?_
                  refine qm_Rp.rt (v := (some (.int 1))) (h' := h) rfl ?_
                  refine qm_Rp.go 6 (c' := (45, [.ref 118, .int y, .int x, .int g], [.int x, .int y, .int g, .int 1, .ref 118], h)) rfl ?_
                  refine hp_inv (o := 118) (r := []) (as := [.ref 118, .int 1, .int g, .int y, .int x]) rfl rfl (hH.1 118 (17, 105) rfl) rfl rfl rfl ?_
                  refine qm_Rp.go 1 (c' := (1, [.ref 118, .int 1, .int g, .int y, .int x], [.ref 118], h)) rfl ?_
                  refine hp_getr rfl (hH.1 118 (17, 105) rfl) rfl (hH.2 118 76 (some 168) rfl) ?_
                  refine qm_Rp.go 1 (c' := (5, [.ref 118, .int 1, .int g, .int y, .int x], [.ref 118, .ref 168], h)) rfl ?_
                  refine hp_geti (v := n) rfl (hH.1 118 (17, 105) rfl) rfl q_n ?_
                  refine qm_Rp.go 1 (c' := (9, [.ref 118, .int 1, .int g, .int y, .int x], [.int 1, .int n, .ref 168], h)) rfl ?_
                  refine hp_ias rfl (hH.1 168 (0, 40) rfl) (fun ia_17 ib_17 => ?_)
                  refine qm_Rp.go 1 (c' := (11, [.ref 118, .int 1, .int g, .int y, .int x], [.ref 118], (h.1, qm_up h.2.1 168 n.toInt.toNat 1, h.2.2.1, h.2.2.2))) rfl ?_
                  refine hp_getr rfl (hH.1 118 (17, 105) rfl) rfl (hH.2 118 77 (some 169) rfl) ?_
                  refine qm_Rp.go 1 (c' := (15, [.ref 118, .int 1, .int g, .int y, .int x], [.ref 118, .ref 169], (h.1, qm_up h.2.1 168 n.toInt.toNat 1, h.2.2.1, h.2.2.2))) rfl ?_
                  refine hp_geti (v := n) rfl (hH.1 118 (17, 105) rfl) rfl (show (qm_up h.2.1 168 n.toInt.toNat 1) 118 75 = _ from ((hk_ot rfl).trans q_n)) ?_
                  refine qm_Rp.go 1 (c' := (19, [.ref 118, .int 1, .int g, .int y, .int x], [.int g, .int n, .ref 169], (h.1, qm_up h.2.1 168 n.toInt.toNat 1, h.2.2.1, h.2.2.2))) rfl ?_
                  refine hp_ias rfl (hH.1 169 (0, 40) rfl) (fun ia_18 ib_18 => ?_)
                  refine qm_Rp.go 1 (c' := (21, [.ref 118, .int 1, .int g, .int y, .int x], [.ref 118], (h.1, qm_up (qm_up h.2.1 168 n.toInt.toNat 1) 169 n.toInt.toNat g, h.2.2.1, h.2.2.2))) rfl ?_
                  refine hp_getr rfl (hH.1 118 (17, 105) rfl) rfl (hH.2 118 78 (some 170) rfl) ?_
                  refine qm_Rp.go 1 (c' := (25, [.ref 118, .int 1, .int g, .int y, .int x], [.ref 118, .ref 170], (h.1, qm_up (qm_up h.2.1 168 n.toInt.toNat 1) 169 n.toInt.toNat g, h.2.2.1, h.2.2.2))) rfl ?_
                  refine hp_geti (v := n) rfl (hH.1 118 (17, 105) rfl) rfl (show (qm_up (qm_up h.2.1 168 n.toInt.toNat 1) 169 n.toInt.toNat g) 118 75 = _ from ((hk_ot rfl).trans ((hk_ot rfl).trans q_n))) ?_
                  refine qm_Rp.go 1 (c' := (29, [.ref 118, .int 1, .int g, .int y, .int x], [.int y, .int n, .ref 170], (h.1, qm_up (qm_up h.2.1 168 n.toInt.toNat 1) 169 n.toInt.toNat g, h.2.2.1, h.2.2.2))) rfl ?_
                  refine hp_ias rfl (hH.1 170 (0, 40) rfl) (fun ia_19 ib_19 => ?_)
                  refine qm_Rp.go 1 (c' := (31, [.ref 118, .int 1, .int g, .int y, .int x], [.ref 118], (h.1, qm_up (qm_up (qm_up h.2.1 168 n.toInt.toNat 1) 169 n.toInt.toNat g) 170 n.toInt.toNat y, h.2.2.1, h.2.2.2))) rfl ?_
                  refine hp_getr rfl (hH.1 118 (17, 105) rfl) rfl (hH.2 118 79 (some 171) rfl) ?_
                  refine qm_Rp.go 1 (c' := (35, [.ref 118, .int 1, .int g, .int y, .int x], [.ref 118, .ref 171], (h.1, qm_up (qm_up (qm_up h.2.1 168 n.toInt.toNat 1) 169 n.toInt.toNat g) 170 n.toInt.toNat y, h.2.2.1, h.2.2.2))) rfl ?_
                  refine hp_geti (v := n) rfl (hH.1 118 (17, 105) rfl) rfl (show (qm_up (qm_up (qm_up h.2.1 168 n.toInt.toNat 1) 169 n.toInt.toNat g) 170 n.toInt.toNat y) 118 75 = _ from ((hk_ot rfl).trans ((hk_ot rfl).trans ((hk_ot rfl).trans q_n)))) ?_
                  refine qm_Rp.go 1 (c' := (40, [.ref 118, .int 1, .int g, .int y, .int x], [.int x, .int n, .ref 171], (h.1, qm_up (qm_up (qm_up h.2.1 168 n.toInt.toNat 1) 169 n.toInt.toNat g) 170 n.toInt.toNat y, h.2.2.1, h.2.2.2))) rfl ?_
                  refine hp_ias rfl (hH.1 171 (0, 40) rfl) (fun ia_20 ib_20 => ?_)
                  refine qm_Rp.go 1 (c' := (42, [.ref 118, .int 1, .int g, .int y, .int x], [.ref 118], (h.1, qm_up (qm_up (qm_up (qm_up h.2.1 168 n.toInt.toNat 1) 169 n.toInt.toNat g) 170 n.toInt.toNat y) 171 n.toInt.toNat x, h.2.2.1, h.2.2.2))) rfl ?_
                  refine hp_getr rfl (hH.1 118 (17, 105) rfl) rfl (hH.2 118 80 (some 172) rfl) ?_
                  refine qm_Rp.go 1 (c' := (46, [.ref 118, .int 1, .int g, .int y, .int x], [.ref 118, .ref 172], (h.1, qm_up (qm_up (qm_up (qm_up h.2.1 168 n.toInt.toNat 1) 169 n.toInt.toNat g) 170 n.toInt.toNat y) 171 n.toInt.toNat x, h.2.2.1, h.2.2.2))) rfl ?_
                  refine hp_geti (v := n) rfl (hH.1 118 (17, 105) rfl) rfl (show (qm_up (qm_up (qm_up (qm_up h.2.1 168 n.toInt.toNat 1) 169 n.toInt.toNat g) 170 n.toInt.toNat y) 171 n.toInt.toNat x) 118 75 = _ from ((hk_ot rfl).trans ((hk_ot rfl).trans ((hk_ot rfl).trans ((hk_ot rfl).trans q_n))))) ?_
                  refine qm_Rp.go 1 (c' := (50, [.ref 118, .int 1, .int g, .int y, .int x], [.int 0, .int n, .ref 172], (h.1, qm_up (qm_up (qm_up (qm_up h.2.1 168 n.toInt.toNat 1) 169 n.toInt.toNat g) 170 n.toInt.toNat y) 171 n.toInt.toNat x, h.2.2.1, h.2.2.2))) rfl ?_
                  refine hp_ias rfl (hH.1 172 (0, 40) rfl) (fun ia_21 ib_21 => ?_)
                  refine qm_Rp.go 2 (c' := (53, [.ref 118, .int 1, .int g, .int y, .int x], [.ref 118, .ref 118], (h.1, qm_up (qm_up (qm_up (qm_up (qm_up h.2.1 168 n.toInt.toNat 1) 169 n.toInt.toNat g) 170 n.toInt.toNat y) 171 n.toInt.toNat x) 172 n.toInt.toNat 0, h.2.2.1, h.2.2.2))) rfl ?_
                  refine hp_geti (v := n) rfl (hH.1 118 (17, 105) rfl) rfl (show (qm_up (qm_up (qm_up (qm_up (qm_up h.2.1 168 n.toInt.toNat 1) 169 n.toInt.toNat g) 170 n.toInt.toNat y) 171 n.toInt.toNat x) 172 n.toInt.toNat 0) 118 75 = _ from ((hk_ot rfl).trans ((hk_ot rfl).trans ((hk_ot rfl).trans ((hk_ot rfl).trans ((hk_ot rfl).trans q_n)))))) ?_
                  refine qm_Rp.go 2 (c' := (58, [.ref 118, .int 1, .int g, .int y, .int x], [.int (n + 1), .ref 118], (h.1, qm_up (qm_up (qm_up (qm_up (qm_up h.2.1 168 n.toInt.toNat 1) 169 n.toInt.toNat g) 170 n.toInt.toNat y) 171 n.toInt.toNat x) 172 n.toInt.toNat 0, h.2.2.1, h.2.2.2))) rfl ?_
                  obtain ⟨v23, q_v23, e_v23⟩ := hk_add (x := n) (y := 1) (a := n.toInt) (b := 1) rfl rfl (by omega) (by omega)
                  rw [q_v23]
                  refine hp_puti rfl (hH.1 118 (17, 105) rfl) rfl ?_
                  refine qm_Rp.go 1 (c' := (62, [.ref 118, .int 1, .int g, .int y, .int x], [.ref 118], (h.1, qm_up (qm_up (qm_up (qm_up (qm_up (qm_up h.2.1 168 n.toInt.toNat 1) 169 n.toInt.toNat g) 170 n.toInt.toNat y) 171 n.toInt.toNat x) 172 n.toInt.toNat 0) 118 75 v23, h.2.2.1, h.2.2.2))) rfl ?_
                  refine hp_geti (v := v23) rfl (hH.1 118 (17, 105) rfl) rfl (show (qm_up (qm_up (qm_up (qm_up (qm_up (qm_up h.2.1 168 n.toInt.toNat 1) 169 n.toInt.toNat g) 170 n.toInt.toNat y) 171 n.toInt.toNat x) 172 n.toInt.toNat 0) 118 75 v23) 118 75 = _ from (hk_same)) ?_
                  refine qm_Rp.go 2 (c' := (67, [.ref 118, .int 1, .int g, .int y, .int x], [.int (v23 - 1)], (h.1, qm_up (qm_up (qm_up (qm_up (qm_up (qm_up h.2.1 168 n.toInt.toNat 1) 169 n.toInt.toNat g) 170 n.toInt.toNat y) 171 n.toInt.toNat x) 172 n.toInt.toNat 0) 118 75 v23, h.2.2.1, h.2.2.2))) rfl ?_
                  obtain ⟨v24, q_v24, e_v24⟩ := hk_sub (x := v23) (y := 1) (a := v23.toInt) (b := 1) rfl rfl (by omega) (by omega)
                  rw [q_v24]
                  refine qm_Rp.rt (v := (some (.int v24))) (h' := (h.1, qm_up (qm_up (qm_up (qm_up (qm_up (qm_up h.2.1 168 n.toInt.toNat 1) 169 n.toInt.toNat g) 170 n.toInt.toNat y) 171 n.toInt.toNat x) 172 n.toInt.toNat 0) 118 75 v23, h.2.2.1, h.2.2.2)) rfl ?_
                  refine qm_Rp.go 0 (c' := (48, [.ref 118, .int y, .int x, .int g], [.int v24], (h.1, qm_up (qm_up (qm_up (qm_up (qm_up (qm_up h.2.1 168 n.toInt.toNat 1) 169 n.toInt.toNat g) 170 n.toInt.toNat y) 171 n.toInt.toNat x) 172 n.toInt.toNat 0) 118 75 v23, h.2.2.1, h.2.2.2))) rfl ?_
                  refine qm_Rp.rt (v := (some (.int v24))) (h' := (h.1, qm_up (qm_up (qm_up (qm_up (qm_up (qm_up h.2.1 168 n.toInt.toNat 1) 169 n.toInt.toNat g) 170 n.toInt.toNat y) 171 n.toInt.toNat x) 172 n.toInt.toNat 0) 118 75 v23, h.2.2.1, h.2.2.2)) rfl ?_
                  have er : v24 = n := hk_eqi.mpr (by omega)
                  rw [er]
                  exact k1 ⟨by omega, ⟨by omega, by omega⟩, ⟨by omega, by omega⟩, by omega, by omega⟩ v23 (by omega)
theorem px_cju111 {X : Option (Nat × (Nat → Int32))} {Z : Option Value → qm_H → Prop} {h : qm_H} {fu : Nat} (hH : hk_H h) (hT : h.2.2.2 28 2 = some 111) {n nb B y x g : Int32} (q_n : h.2.1 51 2 = n) (q_nb : h.2.1 6 0 = nb) (q_B : h.2.1 111 0 = B) (b_n : 0 ≤ n.toInt ∧ n.toInt ≤ 40) (b_nb : 0 ≤ nb.toInt ∧ nb.toInt ≤ 30) (b_B : 2 ≤ B.toInt ∧ B.toInt ≤ 5) (k0 : ¬ juC n.toInt B.toInt y.toInt x.toInt g.toInt → Z (some (.int (-1))) h) (k1 : juC n.toInt B.toInt y.toInt x.toInt g.toInt → ∀ n2 : Int32, n2.toInt = n.toInt + 1 → Z (some (.int n)) (h.1, adC h.2.1 n.toInt.toNat (-1) y x g n2, h.2.2.1, h.2.2.2)) : qm_Rp fu X cd_200 (qm_ent 4 [.ref 0, .int y, .int x, .int g] h) Z := by
  refine qm_Rp.go 0 (c' := (0, [.ref 0, .int y, .int x, .int g], [], h)) rfl ?_
  have kz0 : (0 : Int32).toInt = 0 := rfl
  have kz1 : (1 : Int32).toInt = 1 := rfl
  have kz2 : (2 : Int32).toInt = 2 := rfl
  have kz3 : (3 : Int32).toInt = 3 := rfl
  have kz4 : (4 : Int32).toInt = 4 := rfl
  have kz5 : (5 : Int32).toInt = 5 := rfl
  have kz6 : (6 : Int32).toInt = 6 := rfl
  have kz7 : (7 : Int32).toInt = 7 := rfl
  have kz8 : (8 : Int32).toInt = 8 := rfl
  have kz9 : (9 : Int32).toInt = 9 := rfl
  have kzm1 : ((-1) : Int32).toInt = (-1) := rfl
  have kzm2 : ((-2) : Int32).toInt = (-2) := rfl
  have kzm3 : ((-3) : Int32).toInt = (-3) := rfl
  refine qm_Rp.go 1 (c' := (1, [.ref 0, .int y, .int x, .int g], [.ref 0], h)) rfl ?_
  refine hp_getr rfl (hH.1 0 (16, 10) rfl) rfl (hH.2 0 4 (some 28) rfl) ?_
  refine qm_Rp.go 2 (c' := (6, [.ref 0, .int y, .int x, .int g], [.int x, .int y, .ref 28], h)) rfl ?_
  refine hp_inv (o := 28) (r := []) (as := [.ref 28, .int y, .int x]) rfl rfl (hH.1 28 (9, 8) rfl) rfl rfl rfl ?_
  refine qm_Rp.go 2 (c' := (2, [.ref 28, .int y, .int x], [.int y, .ref 28], h)) rfl ?_
  refine hp_inv (o := 28) (r := []) (as := [.ref 28, .int y]) rfl rfl (hH.1 28 (9, 8) rfl) rfl rfl rfl ?_
  refine qm_Rp.go 1 (c' := (1, [.ref 28, .int y], [.int y], h)) rfl ?_
  refine hp_zlt (ix := y.toInt) rfl rfl (fun z1 => ?_) (fun z1 => ?_)
  · refine qm_Rp.go 1 (c' := (20, [.ref 28, .int y], [.int 0], h)) rfl ?_
    refine qm_Rp.rt (v := (some (.int 0))) (h' := h) rfl ?_
    refine qm_Rp.go 2 (c' := (22, [.ref 28, .int y, .int x], [.int 0], h)) rfl ?_
    refine qm_Rp.rt (v := (some (.int 0))) (h' := h) rfl ?_
    refine qm_Rp.go 2 (c' := (34, [.ref 0, .int y, .int x, .int g], [.int (-1)], h)) rfl ?_
    refine qm_Rp.rt (v := (some (.int (-1)))) (h' := h) rfl ?_
    exact k0 (fun z => by unfold juC at z; omega)
  · refine qm_Rp.go 2 (c' := (6, [.ref 28, .int y], [.ref 28, .int y], h)) rfl ?_
    refine hp_getr rfl (hH.1 28 (9, 8) rfl) rfl hT ?_
    refine qm_Rp.go 0 (c' := (9, [.ref 28, .int y], [.ref 111, .int y], h)) rfl ?_
    refine hp_geti (v := B) rfl (hH.1 111 (11, 16) rfl) rfl q_B ?_
    refine qm_Rp.go 0 (c' := (12, [.ref 28, .int y], [.int B, .int y], h)) rfl ?_
    refine hp_cge (ix := y.toInt) (iy := B.toInt) rfl rfl rfl (fun z2 => ?_) (fun z2 => ?_)
    · refine qm_Rp.go 1 (c' := (20, [.ref 28, .int y], [.int 0], h)) rfl ?_
      refine qm_Rp.rt (v := (some (.int 0))) (h' := h) rfl ?_
      refine qm_Rp.go 2 (c' := (22, [.ref 28, .int y, .int x], [.int 0], h)) rfl ?_
      refine qm_Rp.rt (v := (some (.int 0))) (h' := h) rfl ?_
      refine qm_Rp.go 2 (c' := (34, [.ref 0, .int y, .int x, .int g], [.int (-1)], h)) rfl ?_
      refine qm_Rp.rt (v := (some (.int (-1)))) (h' := h) rfl ?_
      exact k0 (fun z => by unfold juC at z; omega)
    · refine qm_Rp.go 2 (c' := (20, [.ref 28, .int y], [.int 1], h)) rfl ?_
      refine qm_Rp.rt (v := (some (.int 1))) (h' := h) rfl ?_
      refine qm_Rp.go 2 (c' := (9, [.ref 28, .int y, .int x], [.int x], h)) rfl ?_
      refine hp_zlt (ix := x.toInt) rfl rfl (fun z3 => ?_) (fun z3 => ?_)
      · refine qm_Rp.go 1 (c' := (22, [.ref 28, .int y, .int x], [.int 0], h)) rfl ?_
        refine qm_Rp.rt (v := (some (.int 0))) (h' := h) rfl ?_
        refine qm_Rp.go 2 (c' := (34, [.ref 0, .int y, .int x, .int g], [.int (-1)], h)) rfl ?_
        refine qm_Rp.rt (v := (some (.int (-1)))) (h' := h) rfl ?_
        exact k0 (fun z => by unfold juC at z; omega)
      · refine qm_Rp.go 2 (c' := (14, [.ref 28, .int y, .int x], [.int 4, .int x], h)) rfl ?_
        refine hp_cge (ix := x.toInt) (iy := 4) rfl rfl rfl (fun z4 => ?_) (fun z4 => ?_)
        · refine qm_Rp.go 1 (c' := (22, [.ref 28, .int y, .int x], [.int 0], h)) rfl ?_
          refine qm_Rp.rt (v := (some (.int 0))) (h' := h) rfl ?_
          refine qm_Rp.go 2 (c' := (34, [.ref 0, .int y, .int x, .int g], [.int (-1)], h)) rfl ?_
          refine qm_Rp.rt (v := (some (.int (-1)))) (h' := h) rfl ?_
          exact k0 (fun z => by unfold juC at z; omega)
        · refine qm_Rp.go 2 (c' := (22, [.ref 28, .int y, .int x], [.int 1], h)) rfl ?_
          refine qm_Rp.rt (v := (some (.int 1))) (h' := h) rfl ?_
          refine qm_Rp.go 2 (c' := (13, [.ref 0, .int y, .int x, .int g], [.int g], h)) rfl ?_
          refine qm_Rp.call (j := 103) (as := [.int g]) (c' := (16, [.ref 0, .int y, .int x, .int g], [], h)) rfl rfl ?_
          refine qm_Rp.go 2 (c' := (2, [.int g], [.int (-1), .int g], h)) rfl ?_
          refine hp_clt (ix := g.toInt) (iy := (-1)) rfl rfl rfl (fun z5 => ?_) (fun z5 => ?_)
          · refine qm_Rp.go 1 (c' := (15, [.int g], [.int 0], h)) rfl ?_
            refine qm_Rp.rt (v := (some (.int 0))) (h' := h) rfl ?_
            refine qm_Rp.go 2 (c' := (34, [.ref 0, .int y, .int x, .int g], [.int (-1)], h)) rfl ?_
            refine qm_Rp.rt (v := (some (.int (-1)))) (h' := h) rfl ?_
            exact k0 (fun z => by unfold juC at z; omega)
          · refine qm_Rp.go 2 (c' := (7, [.int g], [.int 4, .int g], h)) rfl ?_
            refine hp_cge (ix := g.toInt) (iy := 4) rfl rfl rfl (fun z6 => ?_) (fun z6 => ?_)
            · refine qm_Rp.go 1 (c' := (15, [.int g], [.int 0], h)) rfl ?_
              refine qm_Rp.rt (v := (some (.int 0))) (h' := h) rfl ?_
              refine qm_Rp.go 2 (c' := (34, [.ref 0, .int y, .int x, .int g], [.int (-1)], h)) rfl ?_
              refine qm_Rp.rt (v := (some (.int (-1)))) (h' := h) rfl ?_
              exact k0 (fun z => by unfold juC at z; omega)
            · refine qm_Rp.go 2 (c' := (15, [.int g], [.int 1], h)) rfl ?_
              refine qm_Rp.rt (v := (some (.int 1))) (h' := h) rfl ?_
              refine qm_Rp.go 2 (c' := (20, [.ref 0, .int y, .int x, .int g], [.ref 0], h)) rfl ?_
              refine hp_getr rfl (hH.1 0 (16, 10) rfl) rfl (hH.2 0 7 (some 51) rfl) ?_
              refine qm_Rp.go 4 (c' := (27, [.ref 0, .int y, .int x, .int g], [.int g, .int x, .int y, .int (-1), .ref 51], h)) rfl ?_
              refine hp_inv (o := 51) (r := []) (as := [.ref 51, .int (-1), .int y, .int x, .int g]) rfl rfl (hH.1 51 (14, 13) rfl) rfl rfl rfl ?_
              refine qm_Rp.go 1 (c' := (1, [.ref 51, .int (-1), .int y, .int x, .int g, .float 0], [.ref 51], h)) rfl ?_
              refine hp_geti (v := n) rfl (hH.1 51 (14, 13) rfl) rfl q_n ?_
              refine qm_Rp.go 1 (c' := (6, [.ref 51, .int (-1), .int y, .int x, .int g, .float 0], [.int 40, .int n], h)) rfl ?_
              refine hp_clt (ix := n.toInt) (iy := 40) rfl rfl rfl (fun z7 => ?_) (fun z7 => ?_)
              · refine qm_Rp.go 1 (c' := (12, [.ref 51, .int (-1), .int y, .int x, .int g, .float 0], [.ref 51], h)) rfl ?_
                refine hp_getr rfl (hH.1 51 (14, 13) rfl) rfl (hH.2 51 1 (some 52) rfl) ?_
                refine qm_Rp.go 1 (c' := (16, [.ref 51, .int (-1), .int y, .int x, .int g, .float 0], [.ref 51, .ref 52], h)) rfl ?_
                refine hp_geti (v := n) rfl (hH.1 51 (14, 13) rfl) rfl q_n ?_
                refine qm_Rp.go 0 (c' := (19, [.ref 51, .int (-1), .int y, .int x, .int g, .float 0], [.int n, .ref 52], h)) rfl ?_
                refine hp_aal rfl (hH.1 52 (4, 40) rfl) (row_ref hH (by omega)) (fun ia_7 ib_7 => ?_)
                refine qm_Rp.go 4 (c' := (26, [.ref 51, .int (-1), .int y, .int x, .int g, .ref (53 + n.toInt.toNat)], [.int (-1), .int 0, .ref (53 + n.toInt.toNat)], h)) rfl ?_
                refine hp_ias rfl (row_sh hH (by omega)) (fun ia_8 ib_8 => ?_)
                refine qm_Rp.go 3 (c' := (31, [.ref 51, .int (-1), .int y, .int x, .int g, .ref (53 + n.toInt.toNat)], [.int y, .int 1, .ref (53 + n.toInt.toNat)], (h.1, qm_up h.2.1 (53 + n.toInt.toNat) 0 (-1), h.2.2.1, h.2.2.2))) rfl ?_
                refine hp_ias rfl (row_sh hH (by omega)) (fun ia_9 ib_9 => ?_)
                refine qm_Rp.go 3 (c' := (36, [.ref 51, .int (-1), .int y, .int x, .int g, .ref (53 + n.toInt.toNat)], [.int x, .int 2, .ref (53 + n.toInt.toNat)], (h.1, qm_up (qm_up h.2.1 (53 + n.toInt.toNat) 0 (-1)) (53 + n.toInt.toNat) 1 y, h.2.2.1, h.2.2.2))) rfl ?_
                refine hp_ias rfl (row_sh hH (by omega)) (fun ia_10 ib_10 => ?_)
                refine qm_Rp.go 3 (c' := (42, [.ref 51, .int (-1), .int y, .int x, .int g, .ref (53 + n.toInt.toNat)], [.int g, .int 3, .ref (53 + n.toInt.toNat)], (h.1, qm_up (qm_up (qm_up h.2.1 (53 + n.toInt.toNat) 0 (-1)) (53 + n.toInt.toNat) 1 y) (53 + n.toInt.toNat) 2 x, h.2.2.1, h.2.2.2))) rfl ?_
                refine hp_ias rfl (row_sh hH (by omega)) (fun ia_11 ib_11 => ?_)
                refine qm_Rp.go 3 (c' := (47, [.ref 51, .int (-1), .int y, .int x, .int g, .ref (53 + n.toInt.toNat)], [.int (-1), .int 4, .ref (53 + n.toInt.toNat)], (h.1, qm_up (qm_up (qm_up (qm_up h.2.1 (53 + n.toInt.toNat) 0 (-1)) (53 + n.toInt.toNat) 1 y) (53 + n.toInt.toNat) 2 x) (53 + n.toInt.toNat) 3 g, h.2.2.1, h.2.2.2))) rfl ?_
                refine hp_ias rfl (row_sh hH (by omega)) (fun ia_12 ib_12 => ?_)
                refine qm_Rp.go 3 (c' := (53, [.ref 51, .int (-1), .int y, .int x, .int g, .ref (53 + n.toInt.toNat)], [.int (-100), .int 5, .ref (53 + n.toInt.toNat)], (h.1, qm_up (qm_up (qm_up (qm_up (qm_up h.2.1 (53 + n.toInt.toNat) 0 (-1)) (53 + n.toInt.toNat) 1 y) (53 + n.toInt.toNat) 2 x) (53 + n.toInt.toNat) 3 g) (53 + n.toInt.toNat) 4 (-1), h.2.2.1, h.2.2.2))) rfl ?_
                refine hp_ias rfl (row_sh hH (by omega)) (fun ia_13 ib_13 => ?_)
                refine qm_Rp.go 3 (c' := (60, [.ref 51, .int (-1), .int y, .int x, .int g, .ref (53 + n.toInt.toNat)], [.int (-100), .int 6, .ref (53 + n.toInt.toNat)], (h.1, qm_up (qm_up (qm_up (qm_up (qm_up (qm_up h.2.1 (53 + n.toInt.toNat) 0 (-1)) (53 + n.toInt.toNat) 1 y) (53 + n.toInt.toNat) 2 x) (53 + n.toInt.toNat) 3 g) (53 + n.toInt.toNat) 4 (-1)) (53 + n.toInt.toNat) 5 (-100), h.2.2.1, h.2.2.2))) rfl ?_
                refine hp_ias rfl (row_sh hH (by omega)) (fun ia_14 ib_14 => ?_)
                refine qm_Rp.go 3 (c' := (67, [.ref 51, .int (-1), .int y, .int x, .int g, .ref (53 + n.toInt.toNat)], [.int (-100), .int 7, .ref (53 + n.toInt.toNat)], (h.1, qm_up (qm_up (qm_up (qm_up (qm_up (qm_up (qm_up h.2.1 (53 + n.toInt.toNat) 0 (-1)) (53 + n.toInt.toNat) 1 y) (53 + n.toInt.toNat) 2 x) (53 + n.toInt.toNat) 3 g) (53 + n.toInt.toNat) 4 (-1)) (53 + n.toInt.toNat) 5 (-100)) (53 + n.toInt.toNat) 6 (-100), h.2.2.1, h.2.2.2))) rfl ?_
                refine hp_ias rfl (row_sh hH (by omega)) (fun ia_15 ib_15 => ?_)
                refine qm_Rp.go 2 (c' := (70, [.ref 51, .int (-1), .int y, .int x, .int g, .ref (53 + n.toInt.toNat)], [.ref 51, .ref 51], (h.1, qm_up (qm_up (qm_up (qm_up (qm_up (qm_up (qm_up (qm_up h.2.1 (53 + n.toInt.toNat) 0 (-1)) (53 + n.toInt.toNat) 1 y) (53 + n.toInt.toNat) 2 x) (53 + n.toInt.toNat) 3 g) (53 + n.toInt.toNat) 4 (-1)) (53 + n.toInt.toNat) 5 (-100)) (53 + n.toInt.toNat) 6 (-100)) (53 + n.toInt.toNat) 7 (-100), h.2.2.1, h.2.2.2))) rfl ?_
                refine hp_geti (v := n) rfl (hH.1 51 (14, 13) rfl) rfl (show (qm_up (qm_up (qm_up (qm_up (qm_up (qm_up (qm_up (qm_up h.2.1 (53 + n.toInt.toNat) 0 (-1)) (53 + n.toInt.toNat) 1 y) (53 + n.toInt.toNat) 2 x) (53 + n.toInt.toNat) 3 g) (53 + n.toInt.toNat) 4 (-1)) (53 + n.toInt.toNat) 5 (-100)) (53 + n.toInt.toNat) 6 (-100)) (53 + n.toInt.toNat) 7 (-100)) 51 2 = _ from ((hk_ot (row_ne (by omega) (by decide)).2).trans ((hk_ot (row_ne (by omega) (by decide)).2).trans ((hk_ot (row_ne (by omega) (by decide)).2).trans ((hk_ot (row_ne (by omega) (by decide)).2).trans ((hk_ot (row_ne (by omega) (by decide)).2).trans ((hk_ot (row_ne (by omega) (by decide)).2).trans ((hk_ot (row_ne (by omega) (by decide)).2).trans ((hk_ot (row_ne (by omega) (by decide)).2).trans q_n))))))))) ?_
                refine qm_Rp.go 2 (c' := (75, [.ref 51, .int (-1), .int y, .int x, .int g, .ref (53 + n.toInt.toNat)], [.int (n + 1), .ref 51], (h.1, qm_up (qm_up (qm_up (qm_up (qm_up (qm_up (qm_up (qm_up h.2.1 (53 + n.toInt.toNat) 0 (-1)) (53 + n.toInt.toNat) 1 y) (53 + n.toInt.toNat) 2 x) (53 + n.toInt.toNat) 3 g) (53 + n.toInt.toNat) 4 (-1)) (53 + n.toInt.toNat) 5 (-100)) (53 + n.toInt.toNat) 6 (-100)) (53 + n.toInt.toNat) 7 (-100), h.2.2.1, h.2.2.2))) rfl ?_
                obtain ⟨v17, q_v17, e_v17⟩ := hk_add (x := n) (y := 1) (a := n.toInt) (b := 1) rfl rfl (by omega) (by omega)
                rw [q_v17]
                refine hp_puti rfl (hH.1 51 (14, 13) rfl) rfl ?_
                refine qm_Rp.go 1 (c' := (79, [.ref 51, .int (-1), .int y, .int x, .int g, .ref (53 + n.toInt.toNat)], [.ref 51], (h.1, qm_up (qm_up (qm_up (qm_up (qm_up (qm_up (qm_up (qm_up (qm_up h.2.1 (53 + n.toInt.toNat) 0 (-1)) (53 + n.toInt.toNat) 1 y) (53 + n.toInt.toNat) 2 x) (53 + n.toInt.toNat) 3 g) (53 + n.toInt.toNat) 4 (-1)) (53 + n.toInt.toNat) 5 (-100)) (53 + n.toInt.toNat) 6 (-100)) (53 + n.toInt.toNat) 7 (-100)) 51 2 v17, h.2.2.1, h.2.2.2))) rfl ?_
                refine hp_geti (v := v17) rfl (hH.1 51 (14, 13) rfl) rfl (show (qm_up (qm_up (qm_up (qm_up (qm_up (qm_up (qm_up (qm_up (qm_up h.2.1 (53 + n.toInt.toNat) 0 (-1)) (53 + n.toInt.toNat) 1 y) (53 + n.toInt.toNat) 2 x) (53 + n.toInt.toNat) 3 g) (53 + n.toInt.toNat) 4 (-1)) (53 + n.toInt.toNat) 5 (-100)) (53 + n.toInt.toNat) 6 (-100)) (53 + n.toInt.toNat) 7 (-100)) 51 2 v17) 51 2 = _ from (hk_same)) ?_
                refine qm_Rp.go 2 (c' := (84, [.ref 51, .int (-1), .int y, .int x, .int g, .ref (53 + n.toInt.toNat)], [.int (v17 - 1)], (h.1, qm_up (qm_up (qm_up (qm_up (qm_up (qm_up (qm_up (qm_up (qm_up h.2.1 (53 + n.toInt.toNat) 0 (-1)) (53 + n.toInt.toNat) 1 y) (53 + n.toInt.toNat) 2 x) (53 + n.toInt.toNat) 3 g) (53 + n.toInt.toNat) 4 (-1)) (53 + n.toInt.toNat) 5 (-100)) (53 + n.toInt.toNat) 6 (-100)) (53 + n.toInt.toNat) 7 (-100)) 51 2 v17, h.2.2.1, h.2.2.2))) rfl ?_
                obtain ⟨v18, q_v18, e_v18⟩ := hk_sub (x := v17) (y := 1) (a := v17.toInt) (b := 1) rfl rfl (by omega) (by omega)
                rw [q_v18]
                refine qm_Rp.rt (v := (some (.int v18))) (h' := (h.1, qm_up (qm_up (qm_up (qm_up (qm_up (qm_up (qm_up (qm_up (qm_up h.2.1 (53 + n.toInt.toNat) 0 (-1)) (53 + n.toInt.toNat) 1 y) (53 + n.toInt.toNat) 2 x) (53 + n.toInt.toNat) 3 g) (53 + n.toInt.toNat) 4 (-1)) (53 + n.toInt.toNat) 5 (-100)) (53 + n.toInt.toNat) 6 (-100)) (53 + n.toInt.toNat) 7 (-100)) 51 2 v17, h.2.2.1, h.2.2.2)) rfl ?_
                refine qm_Rp.go 1 (c' := (34, [.ref 0, .int y, .int x, .int g], [.int v18], (h.1, qm_up (qm_up (qm_up (qm_up (qm_up (qm_up (qm_up (qm_up (qm_up h.2.1 (53 + n.toInt.toNat) 0 (-1)) (53 + n.toInt.toNat) 1 y) (53 + n.toInt.toNat) 2 x) (53 + n.toInt.toNat) 3 g) (53 + n.toInt.toNat) 4 (-1)) (53 + n.toInt.toNat) 5 (-100)) (53 + n.toInt.toNat) 6 (-100)) (53 + n.toInt.toNat) 7 (-100)) 51 2 v17, h.2.2.1, h.2.2.2))) rfl ?_
                refine qm_Rp.rt (v := (some (.int v18))) (h' := (h.1, qm_up (qm_up (qm_up (qm_up (qm_up (qm_up (qm_up (qm_up (qm_up h.2.1 (53 + n.toInt.toNat) 0 (-1)) (53 + n.toInt.toNat) 1 y) (53 + n.toInt.toNat) 2 x) (53 + n.toInt.toNat) 3 g) (53 + n.toInt.toNat) 4 (-1)) (53 + n.toInt.toNat) 5 (-100)) (53 + n.toInt.toNat) 6 (-100)) (53 + n.toInt.toNat) 7 (-100)) 51 2 v17, h.2.2.1, h.2.2.2)) rfl ?_
                have er : v18 = n := hk_eqi.mpr (by omega)
                rw [er]
                exact k1 ⟨by omega, ⟨by omega, by omega⟩, ⟨by omega, by omega⟩, by omega, by omega⟩ v17 (by omega)
              · refine qm_Rp.go 1 (c' := (10, [.ref 51, .int (-1), .int y, .int x, .int g, .float 0], [.int (-1)], h)) rfl ?_
                refine qm_Rp.rt (v := (some (.int (-1)))) (h' := h) rfl ?_
                refine qm_Rp.go 1 (c' := (34, [.ref 0, .int y, .int x, .int g], [.int (-1)], h)) rfl ?_
                refine qm_Rp.rt (v := (some (.int (-1)))) (h' := h) rfl ?_
                exact k0 (fun z => by unfold juC at z; omega)
theorem px_rju1 {X : Option (Nat × (Nat → Int32))} {Z : Option Value → qm_H → Prop} {h : qm_H} {fu : Nat} (hH : hk_H h) (q_s : h.2.1 118 18 = 1) {n nb B y x g : Int32} (q_n : h.2.1 118 75 = n) (q_nb : h.2.1 118 44 = nb) (q_B : h.2.1 127 1 = B) (b_n : 0 ≤ n.toInt ∧ n.toInt ≤ 40) (b_nb : 0 ≤ nb.toInt ∧ nb.toInt ≤ 30) (b_B : 2 ≤ B.toInt ∧ B.toInt ≤ 5) (k0 : ¬ juC n.toInt B.toInt y.toInt x.toInt g.toInt → Z (some (.int (-1))) h) (k1 : juC n.toInt B.toInt y.toInt x.toInt g.toInt → ∀ n2 : Int32, n2.toInt = n.toInt + 1 → Z (some (.int n)) (h.1, adR h.2.1 n.toInt.toNat 1 g y x n2, h.2.2.1, h.2.2.2)) : qm_Rp fu X cd_360 (qm_ent 4 [.ref 118, .int y, .int x, .int g] h) Z := by
  refine qm_Rp.go 0 (c' := (0, [.ref 118, .int y, .int x, .int g], [], h)) rfl ?_
  have kz0 : (0 : Int32).toInt = 0 := rfl
  have kz1 : (1 : Int32).toInt = 1 := rfl
  have kz2 : (2 : Int32).toInt = 2 := rfl
  have kz3 : (3 : Int32).toInt = 3 := rfl
  have kz4 : (4 : Int32).toInt = 4 := rfl
  have kz5 : (5 : Int32).toInt = 5 := rfl
  have kz6 : (6 : Int32).toInt = 6 := rfl
  have kz7 : (7 : Int32).toInt = 7 := rfl
  have kz8 : (8 : Int32).toInt = 8 := rfl
  have kz9 : (9 : Int32).toInt = 9 := rfl
  have kzm1 : ((-1) : Int32).toInt = (-1) := rfl
  have kzm2 : ((-2) : Int32).toInt = (-2) := rfl
  have kzm3 : ((-3) : Int32).toInt = (-3) := rfl
  refine qm_Rp.go 1 (c' := (1, [.ref 118, .int y, .int x, .int g], [.ref 118], h)) rfl ?_
  refine hp_geti (v := n) rfl (hH.1 118 (17, 105) rfl) rfl q_n ?_
  refine qm_Rp.go 1 (c' := (6, [.ref 118, .int y, .int x, .int g], [.int 40, .int n], h)) rfl ?_
  refine hp_ceq (ix := n.toInt) (iy := 40) rfl rfl rfl (fun z1 => ?_) (fun z1 => ?_)
  · refine qm_Rp.go 2 (c' := (48, [.ref 118, .int y, .int x, .int g], [.int (-1)], h)) rfl ?_
    refine qm_Rp.rt (v := (some (.int (-1)))) (h' := h) rfl ?_
    exact k0 (fun z => by unfold juC at z; omega)
  · refine qm_Rp.go 2 (c' := (11, [.ref 118, .int y, .int x, .int g], [.int y, .ref 118], h)) rfl ?_
    refine hp_inv (o := 118) (r := []) (as := [.ref 118, .int y]) rfl rfl (hH.1 118 (17, 105) rfl) rfl rfl rfl ?_
    refine qm_Rp.go 3 (c' := (3, [.ref 118, .int y], [.ref 118, .int 0, .int y], h)) rfl ?_
    refine hp_getr rfl (hH.1 118 (17, 105) rfl) rfl (hH.2 118 22 (some 127) rfl) ?_
    refine qm_Rp.go 1 (c' := (7, [.ref 118, .int y], [.ref 118, .ref 127, .int 0, .int y], h)) rfl ?_
    refine hp_geti (v := 1) rfl (hH.1 118 (17, 105) rfl) rfl q_s ?_
    refine qm_Rp.go 0 (c' := (10, [.ref 118, .int y], [.int 1, .ref 127, .int 0, .int y], h)) rfl ?_
    refine hp_ial (v := B) rfl (hH.1 127 (0, 2) rfl) q_B (fun ia_1 ib_1 => ?_)
    refine qm_Rp.go 2 (c' := (13, [.ref 118, .int y], [.int (B - 1), .int 0, .int y], h)) rfl ?_
    obtain ⟨v3, q_v3, e_v3⟩ := hk_sub (x := B) (y := 1) (a := B.toInt) (b := 1) rfl rfl (by omega) (by omega)
    rw [q_v3]
    refine qm_Rp.call (j := 270) (as := [.int y, .int 0, .int v3]) (c' := (16, [.ref 118, .int y], [], h)) rfl rfl ?_
    refine qm_Rp.go 2 (c' := (2, [.int y, .int 0, .int v3], [.int 0, .int y], h)) rfl ?_
    refine hp_clt (ix := y.toInt) (iy := 0) rfl rfl rfl (fun z4 => ?_) (fun z4 => ?_)
    · refine qm_Rp.go 1 (c' := (15, [.int y, .int 0, .int v3], [.int 0], h)) rfl ?_
      refine qm_Rp.rt (v := (some (.int 0))) (h' := h) rfl ?_
      refine qm_Rp.go 0 (c' := (16, [.ref 118, .int y], [.int 0], h)) rfl ?_
      refine qm_Rp.rt (v := (some (.int 0))) (h' := h) rfl ?_
      refine qm_Rp.go 3 (c' := (48, [.ref 118, .int y, .int x, .int g], [.int (-1)], h)) rfl ?_
      refine qm_Rp.rt (v := (some (.int (-1)))) (h' := h) rfl ?_
      exact k0 (fun z => by unfold juC at z; omega)
    · refine qm_Rp.go 2 (c' := (7, [.int y, .int 0, .int v3], [.int v3, .int y], h)) rfl ?_
      refine hp_cgt (ix := y.toInt) (iy := v3.toInt) rfl rfl rfl (fun z5 => ?_) (fun z5 => ?_)
      · refine qm_Rp.go 1 (c' := (15, [.int y, .int 0, .int v3], [.int 0], h)) rfl ?_
        refine qm_Rp.rt (v := (some (.int 0))) (h' := h) rfl ?_
        refine qm_Rp.go 0 (c' := (16, [.ref 118, .int y], [.int 0], h)) rfl ?_
        refine qm_Rp.rt (v := (some (.int 0))) (h' := h) rfl ?_
        refine qm_Rp.go 3 (c' := (48, [.ref 118, .int y, .int x, .int g], [.int (-1)], h)) rfl ?_
        refine qm_Rp.rt (v := (some (.int (-1)))) (h' := h) rfl ?_
        exact k0 (fun z => by unfold juC at z; omega)
      · refine qm_Rp.go 2 (c' := (15, [.int y, .int 0, .int v3], [.int 1], h)) rfl ?_
        refine qm_Rp.rt (v := (some (.int 1))) (h' := h) rfl ?_
        refine qm_Rp.go 0 (c' := (16, [.ref 118, .int y], [.int 1], h)) rfl ?_
        refine qm_Rp.rt (v := (some (.int 1))) (h' := h) rfl ?_
        refine qm_Rp.go 2 (c' := (18, [.ref 118, .int y, .int x, .int g], [.int x], h)) rfl ?_
        refine qm_Rp.call (j := 278) (as := [.int x]) (c' := (21, [.ref 118, .int y, .int x, .int g], [], h)) rfl rfl ?_
        refine qm_Rp.go 3 (c' := (3, [.int x], [.int 3, .int 0, .int x], h)) rfl ?_
        refine qm_Rp.call (j := 270) (as := [.int x, .int 0, .int 3]) (c' := (6, [.int x], [], h)) rfl rfl ?_
        refine qm_Rp.go 2 (c' := (2, [.int x, .int 0, .int 3], [.int 0, .int x], h)) rfl ?_
        refine hp_clt (ix := x.toInt) (iy := 0) rfl rfl rfl (fun z6 => ?_) (fun z6 => ?_)
        · refine qm_Rp.go 1 (c' := (15, [.int x, .int 0, .int 3], [.int 0], h)) rfl ?_
          refine qm_Rp.rt (v := (some (.int 0))) (h' := h) rfl ?_
          refine qm_Rp.go 0 (c' := (6, [.int x], [.int 0], h)) rfl ?_
          refine qm_Rp.rt (v := (some (.int 0))) (h' := h) rfl ?_
          refine qm_Rp.go 3 (c' := (48, [.ref 118, .int y, .int x, .int g], [.int (-1)], h)) rfl ?_
          refine qm_Rp.rt (v := (some (.int (-1)))) (h' := h) rfl ?_
          exact k0 (fun z => by unfold juC at z; omega)
        · refine qm_Rp.go 2 (c' := (7, [.int x, .int 0, .int 3], [.int 3, .int x], h)) rfl ?_
          refine hp_cgt (ix := x.toInt) (iy := 3) rfl rfl rfl (fun z7 => ?_) (fun z7 => ?_)
          · refine qm_Rp.go 1 (c' := (15, [.int x, .int 0, .int 3], [.int 0], h)) rfl ?_
            refine qm_Rp.rt (v := (some (.int 0))) (h' := h) rfl ?_
            refine qm_Rp.go 0 (c' := (6, [.int x], [.int 0], h)) rfl ?_
            refine qm_Rp.rt (v := (some (.int 0))) (h' := h) rfl ?_
            refine qm_Rp.go 3 (c' := (48, [.ref 118, .int y, .int x, .int g], [.int (-1)], h)) rfl ?_
            refine qm_Rp.rt (v := (some (.int (-1)))) (h' := h) rfl ?_
            exact k0 (fun z => by unfold juC at z; omega)
          · refine qm_Rp.go 2 (c' := (15, [.int x, .int 0, .int 3], [.int 1], h)) rfl ?_
            refine qm_Rp.rt (v := (some (.int 1))) (h' := h) rfl ?_
            refine qm_Rp.go 0 (c' := (6, [.int x], [.int 1], h)) rfl ?_
            refine qm_Rp.rt (v := (some (.int 1))) (h' := h) rfl ?_
            refine qm_Rp.go 3 (c' := (26, [.ref 118, .int y, .int x, .int g], [.int (-1), .int g], h)) rfl ?_
            refine hp_ceq (ix := g.toInt) (iy := (-1)) rfl rfl rfl (fun z8 => ?_) (fun z8 => ?_)
            · refine qm_Rp.go 5 (c' := (45, [.ref 118, .int y, .int x, .int g], [.int x, .int y, .int g, .int 1, .ref 118], h)) rfl ?_
              refine hp_inv (o := 118) (r := []) (as := [.ref 118, .int 1, .int g, .int y, .int x]) rfl rfl (hH.1 118 (17, 105) rfl) rfl rfl rfl ?_
              refine qm_Rp.go 1 (c' := (1, [.ref 118, .int 1, .int g, .int y, .int x], [.ref 118], h)) rfl ?_
              refine hp_getr rfl (hH.1 118 (17, 105) rfl) rfl (hH.2 118 76 (some 168) rfl) ?_
              refine qm_Rp.go 1 (c' := (5, [.ref 118, .int 1, .int g, .int y, .int x], [.ref 118, .ref 168], h)) rfl ?_
              refine hp_geti (v := n) rfl (hH.1 118 (17, 105) rfl) rfl q_n ?_
              refine qm_Rp.go 1 (c' := (9, [.ref 118, .int 1, .int g, .int y, .int x], [.int 1, .int n, .ref 168], h)) rfl ?_
              refine hp_ias rfl (hH.1 168 (0, 40) rfl) (fun ia_8 ib_8 => ?_)
              refine qm_Rp.go 1 (c' := (11, [.ref 118, .int 1, .int g, .int y, .int x], [.ref 118], (h.1, qm_up h.2.1 168 n.toInt.toNat 1, h.2.2.1, h.2.2.2))) rfl ?_
              refine hp_getr rfl (hH.1 118 (17, 105) rfl) rfl (hH.2 118 77 (some 169) rfl) ?_
              refine qm_Rp.go 1 (c' := (15, [.ref 118, .int 1, .int g, .int y, .int x], [.ref 118, .ref 169], (h.1, qm_up h.2.1 168 n.toInt.toNat 1, h.2.2.1, h.2.2.2))) rfl ?_
              refine hp_geti (v := n) rfl (hH.1 118 (17, 105) rfl) rfl (show (qm_up h.2.1 168 n.toInt.toNat 1) 118 75 = _ from ((hk_ot rfl).trans q_n)) ?_
              refine qm_Rp.go 1 (c' := (19, [.ref 118, .int 1, .int g, .int y, .int x], [.int g, .int n, .ref 169], (h.1, qm_up h.2.1 168 n.toInt.toNat 1, h.2.2.1, h.2.2.2))) rfl ?_
              refine hp_ias rfl (hH.1 169 (0, 40) rfl) (fun ia_9 ib_9 => ?_)
              refine qm_Rp.go 1 (c' := (21, [.ref 118, .int 1, .int g, .int y, .int x], [.ref 118], (h.1, qm_up (qm_up h.2.1 168 n.toInt.toNat 1) 169 n.toInt.toNat g, h.2.2.1, h.2.2.2))) rfl ?_
              refine hp_getr rfl (hH.1 118 (17, 105) rfl) rfl (hH.2 118 78 (some 170) rfl) ?_
              refine qm_Rp.go 1 (c' := (25, [.ref 118, .int 1, .int g, .int y, .int x], [.ref 118, .ref 170], (h.1, qm_up (qm_up h.2.1 168 n.toInt.toNat 1) 169 n.toInt.toNat g, h.2.2.1, h.2.2.2))) rfl ?_
              refine hp_geti (v := n) rfl (hH.1 118 (17, 105) rfl) rfl (show (qm_up (qm_up h.2.1 168 n.toInt.toNat 1) 169 n.toInt.toNat g) 118 75 = _ from ((hk_ot rfl).trans ((hk_ot rfl).trans q_n))) ?_
              refine qm_Rp.go 1 (c' := (29, [.ref 118, .int 1, .int g, .int y, .int x], [.int y, .int n, .ref 170], (h.1, qm_up (qm_up h.2.1 168 n.toInt.toNat 1) 169 n.toInt.toNat g, h.2.2.1, h.2.2.2))) rfl ?_
              refine hp_ias rfl (hH.1 170 (0, 40) rfl) (fun ia_10 ib_10 => ?_)
              refine qm_Rp.go 1 (c' := (31, [.ref 118, .int 1, .int g, .int y, .int x], [.ref 118], (h.1, qm_up (qm_up (qm_up h.2.1 168 n.toInt.toNat 1) 169 n.toInt.toNat g) 170 n.toInt.toNat y, h.2.2.1, h.2.2.2))) rfl ?_
              refine hp_getr rfl (hH.1 118 (17, 105) rfl) rfl (hH.2 118 79 (some 171) rfl) ?_
              refine qm_Rp.go 1 (c' := (35, [.ref 118, .int 1, .int g, .int y, .int x], [.ref 118, .ref 171], (h.1, qm_up (qm_up (qm_up h.2.1 168 n.toInt.toNat 1) 169 n.toInt.toNat g) 170 n.toInt.toNat y, h.2.2.1, h.2.2.2))) rfl ?_
              refine hp_geti (v := n) rfl (hH.1 118 (17, 105) rfl) rfl (show (qm_up (qm_up (qm_up h.2.1 168 n.toInt.toNat 1) 169 n.toInt.toNat g) 170 n.toInt.toNat y) 118 75 = _ from ((hk_ot rfl).trans ((hk_ot rfl).trans ((hk_ot rfl).trans q_n)))) ?_
              refine qm_Rp.go 1 (c' := (40, [.ref 118, .int 1, .int g, .int y, .int x], [.int x, .int n, .ref 171], (h.1, qm_up (qm_up (qm_up h.2.1 168 n.toInt.toNat 1) 169 n.toInt.toNat g) 170 n.toInt.toNat y, h.2.2.1, h.2.2.2))) rfl ?_
              refine hp_ias rfl (hH.1 171 (0, 40) rfl) (fun ia_11 ib_11 => ?_)
              refine qm_Rp.go 1 (c' := (42, [.ref 118, .int 1, .int g, .int y, .int x], [.ref 118], (h.1, qm_up (qm_up (qm_up (qm_up h.2.1 168 n.toInt.toNat 1) 169 n.toInt.toNat g) 170 n.toInt.toNat y) 171 n.toInt.toNat x, h.2.2.1, h.2.2.2))) rfl ?_
              refine hp_getr rfl (hH.1 118 (17, 105) rfl) rfl (hH.2 118 80 (some 172) rfl) ?_
              refine qm_Rp.go 1 (c' := (46, [.ref 118, .int 1, .int g, .int y, .int x], [.ref 118, .ref 172], (h.1, qm_up (qm_up (qm_up (qm_up h.2.1 168 n.toInt.toNat 1) 169 n.toInt.toNat g) 170 n.toInt.toNat y) 171 n.toInt.toNat x, h.2.2.1, h.2.2.2))) rfl ?_
              refine hp_geti (v := n) rfl (hH.1 118 (17, 105) rfl) rfl (show (qm_up (qm_up (qm_up (qm_up h.2.1 168 n.toInt.toNat 1) 169 n.toInt.toNat g) 170 n.toInt.toNat y) 171 n.toInt.toNat x) 118 75 = _ from ((hk_ot rfl).trans ((hk_ot rfl).trans ((hk_ot rfl).trans ((hk_ot rfl).trans q_n))))) ?_
              refine qm_Rp.go 1 (c' := (50, [.ref 118, .int 1, .int g, .int y, .int x], [.int 0, .int n, .ref 172], (h.1, qm_up (qm_up (qm_up (qm_up h.2.1 168 n.toInt.toNat 1) 169 n.toInt.toNat g) 170 n.toInt.toNat y) 171 n.toInt.toNat x, h.2.2.1, h.2.2.2))) rfl ?_
              refine hp_ias rfl (hH.1 172 (0, 40) rfl) (fun ia_12 ib_12 => ?_)
              refine qm_Rp.go 2 (c' := (53, [.ref 118, .int 1, .int g, .int y, .int x], [.ref 118, .ref 118], (h.1, qm_up (qm_up (qm_up (qm_up (qm_up h.2.1 168 n.toInt.toNat 1) 169 n.toInt.toNat g) 170 n.toInt.toNat y) 171 n.toInt.toNat x) 172 n.toInt.toNat 0, h.2.2.1, h.2.2.2))) rfl ?_
              refine hp_geti (v := n) rfl (hH.1 118 (17, 105) rfl) rfl (show (qm_up (qm_up (qm_up (qm_up (qm_up h.2.1 168 n.toInt.toNat 1) 169 n.toInt.toNat g) 170 n.toInt.toNat y) 171 n.toInt.toNat x) 172 n.toInt.toNat 0) 118 75 = _ from ((hk_ot rfl).trans ((hk_ot rfl).trans ((hk_ot rfl).trans ((hk_ot rfl).trans ((hk_ot rfl).trans q_n)))))) ?_
              refine qm_Rp.go 2 (c' := (58, [.ref 118, .int 1, .int g, .int y, .int x], [.int (n + 1), .ref 118], (h.1, qm_up (qm_up (qm_up (qm_up (qm_up h.2.1 168 n.toInt.toNat 1) 169 n.toInt.toNat g) 170 n.toInt.toNat y) 171 n.toInt.toNat x) 172 n.toInt.toNat 0, h.2.2.1, h.2.2.2))) rfl ?_
              obtain ⟨v14, q_v14, e_v14⟩ := hk_add (x := n) (y := 1) (a := n.toInt) (b := 1) rfl rfl (by omega) (by omega)
              rw [q_v14]
              refine hp_puti rfl (hH.1 118 (17, 105) rfl) rfl ?_
              refine qm_Rp.go 1 (c' := (62, [.ref 118, .int 1, .int g, .int y, .int x], [.ref 118], (h.1, qm_up (qm_up (qm_up (qm_up (qm_up (qm_up h.2.1 168 n.toInt.toNat 1) 169 n.toInt.toNat g) 170 n.toInt.toNat y) 171 n.toInt.toNat x) 172 n.toInt.toNat 0) 118 75 v14, h.2.2.1, h.2.2.2))) rfl ?_
              refine hp_geti (v := v14) rfl (hH.1 118 (17, 105) rfl) rfl (show (qm_up (qm_up (qm_up (qm_up (qm_up (qm_up h.2.1 168 n.toInt.toNat 1) 169 n.toInt.toNat g) 170 n.toInt.toNat y) 171 n.toInt.toNat x) 172 n.toInt.toNat 0) 118 75 v14) 118 75 = _ from (hk_same)) ?_
              refine qm_Rp.go 2 (c' := (67, [.ref 118, .int 1, .int g, .int y, .int x], [.int (v14 - 1)], (h.1, qm_up (qm_up (qm_up (qm_up (qm_up (qm_up h.2.1 168 n.toInt.toNat 1) 169 n.toInt.toNat g) 170 n.toInt.toNat y) 171 n.toInt.toNat x) 172 n.toInt.toNat 0) 118 75 v14, h.2.2.1, h.2.2.2))) rfl ?_
              obtain ⟨v15, q_v15, e_v15⟩ := hk_sub (x := v14) (y := 1) (a := v14.toInt) (b := 1) rfl rfl (by omega) (by omega)
              rw [q_v15]
              refine qm_Rp.rt (v := (some (.int v15))) (h' := (h.1, qm_up (qm_up (qm_up (qm_up (qm_up (qm_up h.2.1 168 n.toInt.toNat 1) 169 n.toInt.toNat g) 170 n.toInt.toNat y) 171 n.toInt.toNat x) 172 n.toInt.toNat 0) 118 75 v14, h.2.2.1, h.2.2.2)) rfl ?_
              refine qm_Rp.go 0 (c' := (48, [.ref 118, .int y, .int x, .int g], [.int v15], (h.1, qm_up (qm_up (qm_up (qm_up (qm_up (qm_up h.2.1 168 n.toInt.toNat 1) 169 n.toInt.toNat g) 170 n.toInt.toNat y) 171 n.toInt.toNat x) 172 n.toInt.toNat 0) 118 75 v14, h.2.2.1, h.2.2.2))) rfl ?_
              refine qm_Rp.rt (v := (some (.int v15))) (h' := (h.1, qm_up (qm_up (qm_up (qm_up (qm_up (qm_up h.2.1 168 n.toInt.toNat 1) 169 n.toInt.toNat g) 170 n.toInt.toNat y) 171 n.toInt.toNat x) 172 n.toInt.toNat 0) 118 75 v14, h.2.2.1, h.2.2.2)) rfl ?_
              have er : v15 = n := hk_eqi.mpr (by omega)
              rw [er]
              exact k1 ⟨by omega, ⟨by omega, by omega⟩, ⟨by omega, by omega⟩, by omega, by omega⟩ v14 (by omega)
            · refine qm_Rp.go 1 (c' := (30, [.ref 118, .int y, .int x, .int g], [.int g], h)) rfl ?_
              refine qm_Rp.call (j := 278) (as := [.int g]) (c' := (33, [.ref 118, .int y, .int x, .int g], [], h)) rfl rfl ?_
              refine qm_Rp.go 3 (c' := (3, [.int g], [.int 3, .int 0, .int g], h)) rfl ?_
              refine qm_Rp.call (j := 270) (as := [.int g, .int 0, .int 3]) (c' := (6, [.int g], [], h)) rfl rfl ?_
              refine qm_Rp.go 2 (c' := (2, [.int g, .int 0, .int 3], [.int 0, .int g], h)) rfl ?_
              refine hp_clt (ix := g.toInt) (iy := 0) rfl rfl rfl (fun z16 => ?_) (fun z16 => ?_)
              · refine qm_Rp.go 1 (c' := (15, [.int g, .int 0, .int 3], [.int 0], h)) rfl ?_
                refine qm_Rp.rt (v := (some (.int 0))) (h' := h) rfl ?_
                refine qm_Rp.go 0 (c' := (6, [.int g], [.int 0], h)) rfl ?_
                refine qm_Rp.rt (v := (some (.int 0))) (h' := h) rfl ?_
                refine qm_Rp.go 3 (c' := (48, [.ref 118, .int y, .int x, .int g], [.int (-1)], h)) rfl ?_
                refine qm_Rp.rt (v := (some (.int (-1)))) (h' := h) rfl ?_
                exact k0 (fun z => by unfold juC at z; omega)
              · refine qm_Rp.go 2 (c' := (7, [.int g, .int 0, .int 3], [.int 3, .int g], h)) rfl ?_
                refine hp_cgt (ix := g.toInt) (iy := 3) rfl rfl rfl (fun z17 => ?_) (fun z17 => ?_)
                · refine qm_Rp.go 1 (c' := (15, [.int g, .int 0, .int 3], [.int 0], h)) rfl ?_
                  refine qm_Rp.rt (v := (some (.int 0))) (h' := h) rfl ?_
                  refine qm_Rp.go 0 (c' := (6, [.int g], [.int 0], h)) rfl ?_
                  refine qm_Rp.rt (v := (some (.int 0))) (h' := h) rfl ?_
                  refine qm_Rp.go 3 (c' := (48, [.ref 118, .int y, .int x, .int g], [.int (-1)], h)) rfl ?_
                  refine qm_Rp.rt (v := (some (.int (-1)))) (h' := h) rfl ?_
                  exact k0 (fun z => by unfold juC at z; omega)
                · refine qm_Rp.go 2 (c' := (15, [.int g, .int 0, .int 3], [.int 1], h)) rfl ?_
                  refine qm_Rp.rt (v := (some (.int 1))) (h' := h) rfl ?_
                  refine qm_Rp.go 0 (c' := (6, [.int g], [.int 1], h)) rfl ?_
                  refine qm_Rp.rt (v := (some (.int 1))) (h' := h) rfl ?_
                  refine qm_Rp.go 6 (c' := (45, [.ref 118, .int y, .int x, .int g], [.int x, .int y, .int g, .int 1, .ref 118], h)) rfl ?_
                  refine hp_inv (o := 118) (r := []) (as := [.ref 118, .int 1, .int g, .int y, .int x]) rfl rfl (hH.1 118 (17, 105) rfl) rfl rfl rfl ?_
                  refine qm_Rp.go 1 (c' := (1, [.ref 118, .int 1, .int g, .int y, .int x], [.ref 118], h)) rfl ?_
                  refine hp_getr rfl (hH.1 118 (17, 105) rfl) rfl (hH.2 118 76 (some 168) rfl) ?_
                  refine qm_Rp.go 1 (c' := (5, [.ref 118, .int 1, .int g, .int y, .int x], [.ref 118, .ref 168], h)) rfl ?_
                  refine hp_geti (v := n) rfl (hH.1 118 (17, 105) rfl) rfl q_n ?_
                  refine qm_Rp.go 1 (c' := (9, [.ref 118, .int 1, .int g, .int y, .int x], [.int 1, .int n, .ref 168], h)) rfl ?_
                  refine hp_ias rfl (hH.1 168 (0, 40) rfl) (fun ia_17 ib_17 => ?_)
                  refine qm_Rp.go 1 (c' := (11, [.ref 118, .int 1, .int g, .int y, .int x], [.ref 118], (h.1, qm_up h.2.1 168 n.toInt.toNat 1, h.2.2.1, h.2.2.2))) rfl ?_
                  refine hp_getr rfl (hH.1 118 (17, 105) rfl) rfl (hH.2 118 77 (some 169) rfl) ?_
                  refine qm_Rp.go 1 (c' := (15, [.ref 118, .int 1, .int g, .int y, .int x], [.ref 118, .ref 169], (h.1, qm_up h.2.1 168 n.toInt.toNat 1, h.2.2.1, h.2.2.2))) rfl ?_
                  refine hp_geti (v := n) rfl (hH.1 118 (17, 105) rfl) rfl (show (qm_up h.2.1 168 n.toInt.toNat 1) 118 75 = _ from ((hk_ot rfl).trans q_n)) ?_
                  refine qm_Rp.go 1 (c' := (19, [.ref 118, .int 1, .int g, .int y, .int x], [.int g, .int n, .ref 169], (h.1, qm_up h.2.1 168 n.toInt.toNat 1, h.2.2.1, h.2.2.2))) rfl ?_
                  refine hp_ias rfl (hH.1 169 (0, 40) rfl) (fun ia_18 ib_18 => ?_)
                  refine qm_Rp.go 1 (c' := (21, [.ref 118, .int 1, .int g, .int y, .int x], [.ref 118], (h.1, qm_up (qm_up h.2.1 168 n.toInt.toNat 1) 169 n.toInt.toNat g, h.2.2.1, h.2.2.2))) rfl ?_
                  refine hp_getr rfl (hH.1 118 (17, 105) rfl) rfl (hH.2 118 78 (some 170) rfl) ?_
                  refine qm_Rp.go 1 (c' := (25, [.ref 118, .int 1, .int g, .int y, .int x], [.ref 118, .ref 170], (h.1, qm_up (qm_up h.2.1 168 n.toInt.toNat 1) 169 n.toInt.toNat g, h.2.2.1, h.2.2.2))) rfl ?_
                  refine hp_geti (v := n) rfl (hH.1 118 (17, 105) rfl) rfl (show (qm_up (qm_up h.2.1 168 n.toInt.toNat 1) 169 n.toInt.toNat g) 118 75 = _ from ((hk_ot rfl).trans ((hk_ot rfl).trans q_n))) ?_
                  refine qm_Rp.go 1 (c' := (29, [.ref 118, .int 1, .int g, .int y, .int x], [.int y, .int n, .ref 170], (h.1, qm_up (qm_up h.2.1 168 n.toInt.toNat 1) 169 n.toInt.toNat g, h.2.2.1, h.2.2.2))) rfl ?_
                  refine hp_ias rfl (hH.1 170 (0, 40) rfl) (fun ia_19 ib_19 => ?_)
                  refine qm_Rp.go 1 (c' := (31, [.ref 118, .int 1, .int g, .int y, .int x], [.ref 118], (h.1, qm_up (qm_up (qm_up h.2.1 168 n.toInt.toNat 1) 169 n.toInt.toNat g) 170 n.toInt.toNat y, h.2.2.1, h.2.2.2))) rfl ?_
                  refine hp_getr rfl (hH.1 118 (17, 105) rfl) rfl (hH.2 118 79 (some 171) rfl) ?_
                  refine qm_Rp.go 1 (c' := (35, [.ref 118, .int 1, .int g, .int y, .int x], [.ref 118, .ref 171], (h.1, qm_up (qm_up (qm_up h.2.1 168 n.toInt.toNat 1) 169 n.toInt.toNat g) 170 n.toInt.toNat y, h.2.2.1, h.2.2.2))) rfl ?_
                  refine hp_geti (v := n) rfl (hH.1 118 (17, 105) rfl) rfl (show (qm_up (qm_up (qm_up h.2.1 168 n.toInt.toNat 1) 169 n.toInt.toNat g) 170 n.toInt.toNat y) 118 75 = _ from ((hk_ot rfl).trans ((hk_ot rfl).trans ((hk_ot rfl).trans q_n)))) ?_
                  refine qm_Rp.go 1 (c' := (40, [.ref 118, .int 1, .int g, .int y, .int x], [.int x, .int n, .ref 171], (h.1, qm_up (qm_up (qm_up h.2.1 168 n.toInt.toNat 1) 169 n.toInt.toNat g) 170 n.toInt.toNat y, h.2.2.1, h.2.2.2))) rfl ?_
                  refine hp_ias rfl (hH.1 171 (0, 40) rfl) (fun ia_20 ib_20 => ?_)
                  refine qm_Rp.go 1 (c' := (42, [.ref 118, .int 1, .int g, .int y, .int x], [.ref 118], (h.1, qm_up (qm_up (qm_up (qm_up h.2.1 168 n.toInt.toNat 1) 169 n.toInt.toNat g) 170 n.toInt.toNat y) 171 n.toInt.toNat x, h.2.2.1, h.2.2.2))) rfl ?_
                  refine hp_getr rfl (hH.1 118 (17, 105) rfl) rfl (hH.2 118 80 (some 172) rfl) ?_
                  refine qm_Rp.go 1 (c' := (46, [.ref 118, .int 1, .int g, .int y, .int x], [.ref 118, .ref 172], (h.1, qm_up (qm_up (qm_up (qm_up h.2.1 168 n.toInt.toNat 1) 169 n.toInt.toNat g) 170 n.toInt.toNat y) 171 n.toInt.toNat x, h.2.2.1, h.2.2.2))) rfl ?_
                  refine hp_geti (v := n) rfl (hH.1 118 (17, 105) rfl) rfl (show (qm_up (qm_up (qm_up (qm_up h.2.1 168 n.toInt.toNat 1) 169 n.toInt.toNat g) 170 n.toInt.toNat y) 171 n.toInt.toNat x) 118 75 = _ from ((hk_ot rfl).trans ((hk_ot rfl).trans ((hk_ot rfl).trans ((hk_ot rfl).trans q_n))))) ?_
                  refine qm_Rp.go 1 (c' := (50, [.ref 118, .int 1, .int g, .int y, .int x], [.int 0, .int n, .ref 172], (h.1, qm_up (qm_up (qm_up (qm_up h.2.1 168 n.toInt.toNat 1) 169 n.toInt.toNat g) 170 n.toInt.toNat y) 171 n.toInt.toNat x, h.2.2.1, h.2.2.2))) rfl ?_
                  refine hp_ias rfl (hH.1 172 (0, 40) rfl) (fun ia_21 ib_21 => ?_)
                  refine qm_Rp.go 2 (c' := (53, [.ref 118, .int 1, .int g, .int y, .int x], [.ref 118, .ref 118], (h.1, qm_up (qm_up (qm_up (qm_up (qm_up h.2.1 168 n.toInt.toNat 1) 169 n.toInt.toNat g) 170 n.toInt.toNat y) 171 n.toInt.toNat x) 172 n.toInt.toNat 0, h.2.2.1, h.2.2.2))) rfl ?_
                  refine hp_geti (v := n) rfl (hH.1 118 (17, 105) rfl) rfl (show (qm_up (qm_up (qm_up (qm_up (qm_up h.2.1 168 n.toInt.toNat 1) 169 n.toInt.toNat g) 170 n.toInt.toNat y) 171 n.toInt.toNat x) 172 n.toInt.toNat 0) 118 75 = _ from ((hk_ot rfl).trans ((hk_ot rfl).trans ((hk_ot rfl).trans ((hk_ot rfl).trans ((hk_ot rfl).trans q_n)))))) ?_
                  refine qm_Rp.go 2 (c' := (58, [.ref 118, .int 1, .int g, .int y, .int x], [.int (n + 1), .ref 118], (h.1, qm_up (qm_up (qm_up (qm_up (qm_up h.2.1 168 n.toInt.toNat 1) 169 n.toInt.toNat g) 170 n.toInt.toNat y) 171 n.toInt.toNat x) 172 n.toInt.toNat 0, h.2.2.1, h.2.2.2))) rfl ?_
                  obtain ⟨v23, q_v23, e_v23⟩ := hk_add (x := n) (y := 1) (a := n.toInt) (b := 1) rfl rfl (by omega) (by omega)
                  rw [q_v23]
                  refine hp_puti rfl (hH.1 118 (17, 105) rfl) rfl ?_
                  refine qm_Rp.go 1 (c' := (62, [.ref 118, .int 1, .int g, .int y, .int x], [.ref 118], (h.1, qm_up (qm_up (qm_up (qm_up (qm_up (qm_up h.2.1 168 n.toInt.toNat 1) 169 n.toInt.toNat g) 170 n.toInt.toNat y) 171 n.toInt.toNat x) 172 n.toInt.toNat 0) 118 75 v23, h.2.2.1, h.2.2.2))) rfl ?_
                  refine hp_geti (v := v23) rfl (hH.1 118 (17, 105) rfl) rfl (show (qm_up (qm_up (qm_up (qm_up (qm_up (qm_up h.2.1 168 n.toInt.toNat 1) 169 n.toInt.toNat g) 170 n.toInt.toNat y) 171 n.toInt.toNat x) 172 n.toInt.toNat 0) 118 75 v23) 118 75 = _ from (hk_same)) ?_
                  refine qm_Rp.go 2 (c' := (67, [.ref 118, .int 1, .int g, .int y, .int x], [.int (v23 - 1)], (h.1, qm_up (qm_up (qm_up (qm_up (qm_up (qm_up h.2.1 168 n.toInt.toNat 1) 169 n.toInt.toNat g) 170 n.toInt.toNat y) 171 n.toInt.toNat x) 172 n.toInt.toNat 0) 118 75 v23, h.2.2.1, h.2.2.2))) rfl ?_
                  obtain ⟨v24, q_v24, e_v24⟩ := hk_sub (x := v23) (y := 1) (a := v23.toInt) (b := 1) rfl rfl (by omega) (by omega)
                  rw [q_v24]
                  refine qm_Rp.rt (v := (some (.int v24))) (h' := (h.1, qm_up (qm_up (qm_up (qm_up (qm_up (qm_up h.2.1 168 n.toInt.toNat 1) 169 n.toInt.toNat g) 170 n.toInt.toNat y) 171 n.toInt.toNat x) 172 n.toInt.toNat 0) 118 75 v23, h.2.2.1, h.2.2.2)) rfl ?_
                  refine qm_Rp.go 0 (c' := (48, [.ref 118, .int y, .int x, .int g], [.int v24], (h.1, qm_up (qm_up (qm_up (qm_up (qm_up (qm_up h.2.1 168 n.toInt.toNat 1) 169 n.toInt.toNat g) 170 n.toInt.toNat y) 171 n.toInt.toNat x) 172 n.toInt.toNat 0) 118 75 v23, h.2.2.1, h.2.2.2))) rfl ?_
                  refine qm_Rp.rt (v := (some (.int v24))) (h' := (h.1, qm_up (qm_up (qm_up (qm_up (qm_up (qm_up h.2.1 168 n.toInt.toNat 1) 169 n.toInt.toNat g) 170 n.toInt.toNat y) 171 n.toInt.toNat x) 172 n.toInt.toNat 0) 118 75 v23, h.2.2.1, h.2.2.2)) rfl ?_
                  have er : v24 = n := hk_eqi.mpr (by omega)
                  rw [er]
                  exact k1 ⟨by omega, ⟨by omega, by omega⟩, ⟨by omega, by omega⟩, by omega, by omega⟩ v23 (by omega)
