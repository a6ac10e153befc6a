/-! contracts by hand -/
theorem hm_rem {X : Option (Nat × (Nat → Int32))} {d : Nat} {Z : Option Value → qm_H → Prop} {h : qm_H} (hH : hk_H h) {b y1 r1 t1 : Int32} (b_b : (0 : Int) ≤ b.toInt ∧ b.toInt ≤ 29) (q_y1 : h.2.1 12 (b.toInt.toNat) = y1) (b_y1 : (0 : Int) ≤ y1.toInt ∧ y1.toInt ≤ 4) (q_r1 : h.2.1 13 (b.toInt.toNat) = r1) (b_r1 : (0 : Int) ≤ r1.toInt ∧ r1.toInt ≤ 3) (q_t1 : h.2.1 14 (b.toInt.toNat) = t1) (b_t1 : (0 : Int) ≤ t1.toInt ∧ t1.toInt ≤ 3) (k : ∀ v4 v8 v10 v15 : Int32, v4.toInt = 16 * y1.toInt + 4 * r1.toInt + t1.toInt → Z none (h.1, qm_up (qm_up (qm_up (qm_up (qm_up (qm_up (qm_up (qm_up h.2.1 36 (v4.toInt.toNat) (-1)) 28 6 v8) 37 (y1.toInt.toNat) v10) 28 5 v15) 11 (b.toInt.toNat) 0) 12 (b.toInt.toNat) (-1)) 13 (b.toInt.toNat) (-1)) 14 (b.toInt.toNat) (-1), h.2.2.1, h.2.2.2)) : qm_Ru X (d + 10) cd_106 (qm_ent 4 [.ref 28, .int b] h) Z := by
  refine qm_Ru.go 1 (c' := (1, [.ref 28, .int b, .float 0, .float 0], [.ref 28], h)) rfl ?_
  refine hk_getr rfl (hH.1 28 (9, 8) rfl) rfl (hH.2 28 0 (some 6) rfl) ?_
  refine qm_Ru.go 0 (c' := (4, [.ref 28, .int b, .float 0, .float 0], [.ref 6], h)) rfl ?_
  refine hk_getr rfl (hH.1 6 (6, 9) rfl) rfl (hH.2 6 6 (some 12) rfl) ?_
  refine qm_Ru.go 1 (c' := (8, [.ref 28, .int b, .float 0, .float 0], [.int b, .ref 12], h)) rfl ?_
  refine hk_ial (v := y1) rfl (hH.1 12 (0, 30) rfl) (by omega) (by omega) q_y1 ?_
  refine qm_Ru.go 2 (c' := (11, [.ref 28, .int b, .int y1, .float 0], [.ref 28], h)) rfl ?_
  refine hk_getr rfl (hH.1 28 (9, 8) rfl) rfl (hH.2 28 0 (some 6) rfl) ?_
  refine qm_Ru.go 0 (c' := (14, [.ref 28, .int b, .int y1, .float 0], [.ref 6], h)) rfl ?_
  refine hk_getr rfl (hH.1 6 (6, 9) rfl) rfl (hH.2 6 7 (some 13) rfl) ?_
  refine qm_Ru.go 1 (c' := (18, [.ref 28, .int b, .int y1, .float 0], [.int b, .ref 13], h)) rfl ?_
  refine hk_ial (v := r1) rfl (hH.1 13 (0, 30) rfl) (by omega) (by omega) q_r1 ?_
  refine qm_Ru.go 2 (c' := (21, [.ref 28, .int b, .int y1, .int r1], [.ref 28], h)) rfl ?_
  refine hk_getr rfl (hH.1 28 (9, 8) rfl) rfl (hH.2 28 3 (some 36) rfl) ?_
  refine qm_Ru.go 3 (c' := (27, [.ref 28, .int b, .int y1, .int r1], [.ref 28, .int r1, .int y1, .ref 36], h)) rfl ?_
  refine hk_getr rfl (hH.1 28 (9, 8) rfl) rfl (hH.2 28 0 (some 6) rfl) ?_
  refine qm_Ru.go 0 (c' := (30, [.ref 28, .int b, .int y1, .int r1], [.ref 6, .int r1, .int y1, .ref 36], h)) rfl ?_
  refine hk_getr rfl (hH.1 6 (6, 9) rfl) rfl (hH.2 6 8 (some 14) rfl) ?_
  refine qm_Ru.go 1 (c' := (34, [.ref 28, .int b, .int y1, .int r1], [.int b, .ref 14, .int r1, .int y1, .ref 36], h)) rfl ?_
  refine hk_ial (v := t1) rfl (hH.1 14 (0, 30) rfl) (by omega) (by omega) q_t1 ?_
  refine qm_Ru.go 0 (c' := (35, [.ref 28, .int b, .int y1, .int r1], [.int t1, .int r1, .int y1, .ref 36], h)) rfl ?_
  refine qm_Ru.call (j := 75) (as := [.int y1, .int r1, .int t1]) (c' := (38, [.ref 28, .int b, .int y1, .int r1], [.ref 36], h)) rfl rfl rfl ?_
  refine qm_Ru.go 3 (c' := (3, [.int y1, .int r1, .int t1], [.int (y1 * 4)], h)) rfl ?_
  obtain ⟨v1, q_v1, e_v1⟩ := hk_mul (x := y1) (y := 4) (a := y1.toInt) (b := 4) rfl rfl (by omega) (by omega)
  rw [q_v1]
  refine qm_Ru.go 2 (c' := (5, [.int y1, .int r1, .int t1], [.int (v1 + r1)], h)) rfl ?_
  obtain ⟨v2, q_v2, e_v2⟩ := hk_add (x := v1) (y := r1) (a := v1.toInt) (b := r1.toInt) rfl rfl (by omega) (by omega)
  rw [q_v2]
  refine qm_Ru.go 2 (c' := (7, [.int y1, .int r1, .int t1], [.int (v2 * 4)], h)) rfl ?_
  obtain ⟨v3, q_v3, e_v3⟩ := hk_mul (x := v2) (y := 4) (a := v2.toInt) (b := 4) rfl rfl (by omega) (by omega)
  rw [q_v3]
  refine qm_Ru.go 2 (c' := (9, [.int y1, .int r1, .int t1], [.int (v3 + t1)], h)) rfl ?_
  obtain ⟨v4, q_v4, e_v4⟩ := hk_add (x := v3) (y := t1) (a := v3.toInt) (b := t1.toInt) rfl rfl (by omega) (by omega)
  rw [q_v4]
  refine qm_Ru.rt (v := (some (.int v4))) (h' := h) rfl ?_
  refine qm_Ru.go 1 (c' := (39, [.ref 28, .int b, .int y1, .int r1], [.int (-1), .int v4, .ref 36], h)) rfl ?_
  refine hk_ias rfl (hH.1 36 (0, 80) rfl) (by omega) (by omega) ?_
  refine qm_Ru.go 4 (c' := (44, [.ref 28, .int b, .int y1, .int r1], [.ref 28, .int r1, .int y1, .ref 28], (h.1, qm_up h.2.1 36 (v4.toInt.toNat) (-1), h.2.2.1, h.2.2.2))) rfl ?_
  refine hk_getr rfl (hH.1 28 (9, 8) rfl) rfl (hH.2 28 0 (some 6) rfl) ?_
  refine qm_Ru.go 0 (c' := (47, [.ref 28, .int b, .int y1, .int r1], [.ref 6, .int r1, .int y1, .ref 28], (h.1, qm_up h.2.1 36 (v4.toInt.toNat) (-1), h.2.2.1, h.2.2.2))) rfl ?_
  refine hk_getr rfl (hH.1 6 (6, 9) rfl) rfl (hH.2 6 1 (some 7) rfl) ?_
  refine qm_Ru.go 1 (c' := (51, [.ref 28, .int b, .int y1, .int r1], [.int b, .ref 7, .int r1, .int y1, .ref 28], (h.1, qm_up h.2.1 36 (v4.toInt.toNat) (-1), h.2.2.1, h.2.2.2))) rfl ?_
  obtain ⟨v5, q_v5⟩ : ∃ v, h.2.1 7 (b.toInt.toNat) = v := ⟨_, rfl⟩
  refine hk_ial (v := v5) rfl (hH.1 7 (0, 30) rfl) (by omega) (by omega) (show (qm_up h.2.1 36 (v4.toInt.toNat) (-1)) 7 (b.toInt.toNat) = _ from ((hk_ot rfl).trans q_v5)) ?_
  refine qm_Ru.go 1 (c' := (53, [.ref 28, .int b, .int y1, .int r1], [.int (-v5), .int r1, .int y1, .ref 28], (h.1, qm_up h.2.1 36 (v4.toInt.toNat) (-1), h.2.2.1, h.2.2.2))) rfl ?_
  obtain ⟨v6, q_v6⟩ : ∃ v, (-v5) = v := ⟨_, rfl⟩
  rw [q_v6]
  refine hk_inv (o := 28) (r := []) (as := [.ref 28, .int y1, .int r1, .int v6]) rfl rfl (hH.1 28 (9, 8) rfl) rfl rfl rfl rfl ?_
  refine qm_Ru.go 2 (c' := (2, [.ref 28, .int y1, .int r1, .int v6], [.ref 28, .ref 28], (h.1, qm_up h.2.1 36 (v4.toInt.toNat) (-1), h.2.2.1, h.2.2.2))) rfl ?_
  obtain ⟨v7, q_v7⟩ : ∃ v, h.2.1 28 6 = v := ⟨_, rfl⟩
  refine hk_geti (v := v7) rfl (hH.1 28 (9, 8) rfl) rfl (show (qm_up h.2.1 36 (v4.toInt.toNat) (-1)) 28 6 = _ from ((hk_ot rfl).trans q_v7)) ?_
  refine qm_Ru.go 2 (c' := (7, [.ref 28, .int y1, .int r1, .int v6], [.int (v7 + v6), .ref 28], (h.1, qm_up h.2.1 36 (v4.toInt.toNat) (-1), h.2.2.1, h.2.2.2))) rfl ?_
  obtain ⟨v8, q_v8⟩ : ∃ v, (v7 + v6) = v := ⟨_, rfl⟩
  rw [q_v8]
  refine hk_puti rfl (hH.1 28 (9, 8) rfl) rfl ?_
  refine qm_Ru.go 1 (c' := (11, [.ref 28, .int y1, .int r1, .int v6], [.ref 28], (h.1, qm_up (qm_up h.2.1 36 (v4.toInt.toNat) (-1)) 28 6 v8, h.2.2.1, h.2.2.2))) rfl ?_
  refine hk_getr rfl (hH.1 28 (9, 8) rfl) rfl (hH.2 28 7 (some 37) rfl) ?_
  refine qm_Ru.go 2 (c' := (16, [.ref 28, .int y1, .int r1, .int v6], [.int y1, .ref 37, .int y1, .ref 37], (h.1, qm_up (qm_up h.2.1 36 (v4.toInt.toNat) (-1)) 28 6 v8, h.2.2.1, h.2.2.2))) rfl ?_
  obtain ⟨v9, q_v9⟩ : ∃ v, h.2.1 37 (y1.toInt.toNat) = v := ⟨_, rfl⟩
  refine hk_ial (v := v9) rfl (hH.1 37 (0, 5) rfl) (by omega) (by omega) (show (qm_up (qm_up h.2.1 36 (v4.toInt.toNat) (-1)) 28 6 v8) 37 (y1.toInt.toNat) = _ from ((hk_ot rfl).trans ((hk_ot rfl).trans q_v9))) ?_
  refine qm_Ru.go 2 (c' := (19, [.ref 28, .int y1, .int r1, .int v6], [.int (v9 + v6), .int y1, .ref 37], (h.1, qm_up (qm_up h.2.1 36 (v4.toInt.toNat) (-1)) 28 6 v8, h.2.2.1, h.2.2.2))) rfl ?_
  obtain ⟨v10, q_v10⟩ : ∃ v, (v9 + v6) = v := ⟨_, rfl⟩
  rw [q_v10]
  refine hk_ias rfl (hH.1 37 (0, 5) rfl) (by omega) (by omega) ?_
  refine qm_Ru.go 2 (c' := (22, [.ref 28, .int y1, .int r1, .int v6], [.ref 28, .ref 28], (h.1, qm_up (qm_up (qm_up h.2.1 36 (v4.toInt.toNat) (-1)) 28 6 v8) 37 (y1.toInt.toNat) v10, h.2.2.1, h.2.2.2))) rfl ?_
  obtain ⟨v11, q_v11⟩ : ∃ v, h.2.1 28 5 = v := ⟨_, rfl⟩
  refine hk_geti (v := v11) rfl (hH.1 28 (9, 8) rfl) rfl (show (qm_up (qm_up (qm_up h.2.1 36 (v4.toInt.toNat) (-1)) 28 6 v8) 37 (y1.toInt.toNat) v10) 28 5 = _ from ((hk_ot rfl).trans ((hk_neq (by decide)).trans ((hk_ot rfl).trans q_v11)))) ?_
  refine qm_Ru.go 2 (c' := (27, [.ref 28, .int y1, .int r1, .int v6], [.int r1, .int v6, .int v11, .ref 28], (h.1, qm_up (qm_up (qm_up h.2.1 36 (v4.toInt.toNat) (-1)) 28 6 v8) 37 (y1.toInt.toNat) v10, h.2.2.1, h.2.2.2))) rfl ?_
  refine qm_Ru.call (j := 95) (as := [.int r1]) (c' := (30, [.ref 28, .int y1, .int r1, .int v6], [.int v6, .int v11, .ref 28], (h.1, qm_up (qm_up (qm_up h.2.1 36 (v4.toInt.toNat) (-1)) 28 6 v8) 37 (y1.toInt.toNat) v10, h.2.2.1, h.2.2.2))) rfl rfl rfl ?_
  refine qm_Ru.go 3 (c' := (3, [.int r1], [.int (2 * r1)], (h.1, qm_up (qm_up (qm_up h.2.1 36 (v4.toInt.toNat) (-1)) 28 6 v8) 37 (y1.toInt.toNat) v10, h.2.2.1, h.2.2.2))) rfl ?_
  obtain ⟨v12, q_v12, e_v12⟩ := hk_mul (x := 2) (y := r1) (a := 2) (b := r1.toInt) rfl rfl (by omega) (by omega)
  rw [q_v12]
  refine qm_Ru.go 2 (c' := (5, [.int r1], [.int (v12 - 3)], (h.1, qm_up (qm_up (qm_up h.2.1 36 (v4.toInt.toNat) (-1)) 28 6 v8) 37 (y1.toInt.toNat) v10, h.2.2.1, h.2.2.2))) rfl ?_
  obtain ⟨v13, q_v13, e_v13⟩ := hk_sub (x := v12) (y := 3) (a := v12.toInt) (b := 3) rfl rfl (by omega) (by omega)
  rw [q_v13]
  refine qm_Ru.rt (v := (some (.int v13))) (h' := (h.1, qm_up (qm_up (qm_up h.2.1 36 (v4.toInt.toNat) (-1)) 28 6 v8) 37 (y1.toInt.toNat) v10, h.2.2.1, h.2.2.2)) rfl ?_
  refine qm_Ru.go 1 (c' := (31, [.ref 28, .int y1, .int r1, .int v6], [.int (v6 * v13), .int v11, .ref 28], (h.1, qm_up (qm_up (qm_up h.2.1 36 (v4.toInt.toNat) (-1)) 28 6 v8) 37 (y1.toInt.toNat) v10, h.2.2.1, h.2.2.2))) rfl ?_
  obtain ⟨v14, q_v14⟩ : ∃ v, (v6 * v13) = v := ⟨_, rfl⟩
  rw [q_v14]
  refine qm_Ru.go 1 (c' := (32, [.ref 28, .int y1, .int r1, .int v6], [.int (v11 + v14), .ref 28], (h.1, qm_up (qm_up (qm_up h.2.1 36 (v4.toInt.toNat) (-1)) 28 6 v8) 37 (y1.toInt.toNat) v10, h.2.2.1, h.2.2.2))) rfl ?_
  obtain ⟨v15, q_v15⟩ : ∃ v, (v11 + v14) = v := ⟨_, rfl⟩
  rw [q_v15]
  refine hk_puti rfl (hH.1 28 (9, 8) rfl) rfl ?_
  refine qm_Ru.go 0 (c' := (35, [.ref 28, .int y1, .int r1, .int v6], [], (h.1, qm_up (qm_up (qm_up (qm_up h.2.1 36 (v4.toInt.toNat) (-1)) 28 6 v8) 37 (y1.toInt.toNat) v10) 28 5 v15, h.2.2.1, h.2.2.2))) rfl ?_
  refine qm_Ru.rt (v := none) (h' := (h.1, qm_up (qm_up (qm_up (qm_up h.2.1 36 (v4.toInt.toNat) (-1)) 28 6 v8) 37 (y1.toInt.toNat) v10) 28 5 v15, h.2.2.1, h.2.2.2)) rfl ?_
  refine qm_Ru.go 1 (c' := (57, [.ref 28, .int b, .int y1, .int r1], [.ref 28], (h.1, qm_up (qm_up (qm_up (qm_up h.2.1 36 (v4.toInt.toNat) (-1)) 28 6 v8) 37 (y1.toInt.toNat) v10) 28 5 v15, h.2.2.1, h.2.2.2))) rfl ?_
  refine hk_getr rfl (hH.1 28 (9, 8) rfl) rfl (hH.2 28 0 (some 6) rfl) ?_
  refine qm_Ru.go 1 (c' := (61, [.ref 28, .int b, .int y1, .int r1], [.int b, .ref 6], (h.1, qm_up (qm_up (qm_up (qm_up h.2.1 36 (v4.toInt.toNat) (-1)) 28 6 v8) 37 (y1.toInt.toNat) v10) 28 5 v15, h.2.2.1, h.2.2.2))) rfl ?_
  refine hk_inv (o := 6) (r := []) (as := [.ref 6, .int b]) rfl rfl (hH.1 6 (6, 9) rfl) rfl rfl rfl rfl ?_
  refine qm_Ru.go 6 (c' := (6, [.ref 6, .int b], [.int (-1), .int (-1), .int (-1), .int 0, .int b, .ref 6], (h.1, qm_up (qm_up (qm_up (qm_up h.2.1 36 (v4.toInt.toNat) (-1)) 28 6 v8) 37 (y1.toInt.toNat) v10) 28 5 v15, h.2.2.1, h.2.2.2))) rfl ?_
  refine hk_inv (o := 6) (r := []) (as := [.ref 6, .int b, .int 0, .int (-1), .int (-1), .int (-1)]) rfl rfl (hH.1 6 (6, 9) rfl) rfl rfl rfl rfl ?_
  refine qm_Ru.go 1 (c' := (1, [.ref 6, .int b, .int 0, .int (-1), .int (-1), .int (-1)], [.ref 6], (h.1, qm_up (qm_up (qm_up (qm_up h.2.1 36 (v4.toInt.toNat) (-1)) 28 6 v8) 37 (y1.toInt.toNat) v10) 28 5 v15, h.2.2.1, h.2.2.2))) rfl ?_
  refine hk_getr rfl (hH.1 6 (6, 9) rfl) rfl (hH.2 6 5 (some 11) rfl) ?_
  refine qm_Ru.go 2 (c' := (6, [.ref 6, .int b, .int 0, .int (-1), .int (-1), .int (-1)], [.int 0, .int b, .ref 11], (h.1, qm_up (qm_up (qm_up (qm_up h.2.1 36 (v4.toInt.toNat) (-1)) 28 6 v8) 37 (y1.toInt.toNat) v10) 28 5 v15, h.2.2.1, h.2.2.2))) rfl ?_
  refine hk_ias rfl (hH.1 11 (0, 30) rfl) (by omega) (by omega) ?_
  refine qm_Ru.go 1 (c' := (8, [.ref 6, .int b, .int 0, .int (-1), .int (-1), .int (-1)], [.ref 6], (h.1, qm_up (qm_up (qm_up (qm_up (qm_up h.2.1 36 (v4.toInt.toNat) (-1)) 28 6 v8) 37 (y1.toInt.toNat) v10) 28 5 v15) 11 (b.toInt.toNat) 0, h.2.2.1, h.2.2.2))) rfl ?_
  refine hk_getr rfl (hH.1 6 (6, 9) rfl) rfl (hH.2 6 6 (some 12) rfl) ?_
  refine qm_Ru.go 2 (c' := (13, [.ref 6, .int b, .int 0, .int (-1), .int (-1), .int (-1)], [.int (-1), .int b, .ref 12], (h.1, qm_up (qm_up (qm_up (qm_up (qm_up h.2.1 36 (v4.toInt.toNat) (-1)) 28 6 v8) 37 (y1.toInt.toNat) v10) 28 5 v15) 11 (b.toInt.toNat) 0, h.2.2.1, h.2.2.2))) rfl ?_
  refine hk_ias rfl (hH.1 12 (0, 30) rfl) (by omega) (by omega) ?_
  refine qm_Ru.go 1 (c' := (15, [.ref 6, .int b, .int 0, .int (-1), .int (-1), .int (-1)], [.ref 6], (h.1, qm_up (qm_up (qm_up (qm_up (qm_up (qm_up h.2.1 36 (v4.toInt.toNat) (-1)) 28 6 v8) 37 (y1.toInt.toNat) v10) 28 5 v15) 11 (b.toInt.toNat) 0) 12 (b.toInt.toNat) (-1), h.2.2.1, h.2.2.2))) rfl ?_
  refine hk_getr rfl (hH.1 6 (6, 9) rfl) rfl (hH.2 6 7 (some 13) rfl) ?_
  refine qm_Ru.go 2 (c' := (21, [.ref 6, .int b, .int 0, .int (-1), .int (-1), .int (-1)], [.int (-1), .int b, .ref 13], (h.1, qm_up (qm_up (qm_up (qm_up (qm_up (qm_up h.2.1 36 (v4.toInt.toNat) (-1)) 28 6 v8) 37 (y1.toInt.toNat) v10) 28 5 v15) 11 (b.toInt.toNat) 0) 12 (b.toInt.toNat) (-1), h.2.2.1, h.2.2.2))) rfl ?_
  refine hk_ias rfl (hH.1 13 (0, 30) rfl) (by omega) (by omega) ?_
  refine qm_Ru.go 1 (c' := (23, [.ref 6, .int b, .int 0, .int (-1), .int (-1), .int (-1)], [.ref 6], (h.1, qm_up (qm_up (qm_up (qm_up (qm_up (qm_up (qm_up h.2.1 36 (v4.toInt.toNat) (-1)) 28 6 v8) 37 (y1.toInt.toNat) v10) 28 5 v15) 11 (b.toInt.toNat) 0) 12 (b.toInt.toNat) (-1)) 13 (b.toInt.toNat) (-1), h.2.2.1, h.2.2.2))) rfl ?_
  refine hk_getr rfl (hH.1 6 (6, 9) rfl) rfl (hH.2 6 8 (some 14) rfl) ?_
  refine qm_Ru.go 2 (c' := (29, [.ref 6, .int b, .int 0, .int (-1), .int (-1), .int (-1)], [.int (-1), .int b, .ref 14], (h.1, qm_up (qm_up (qm_up (qm_up (qm_up (qm_up (qm_up h.2.1 36 (v4.toInt.toNat) (-1)) 28 6 v8) 37 (y1.toInt.toNat) v10) 28 5 v15) 11 (b.toInt.toNat) 0) 12 (b.toInt.toNat) (-1)) 13 (b.toInt.toNat) (-1), h.2.2.1, h.2.2.2))) rfl ?_
  refine hk_ias rfl (hH.1 14 (0, 30) rfl) (by omega) (by omega) ?_
  refine qm_Ru.go 0 (c' := (30, [.ref 6, .int b, .int 0, .int (-1), .int (-1), .int (-1)], [], (h.1, qm_up (qm_up (qm_up (qm_up (qm_up (qm_up (qm_up (qm_up h.2.1 36 (v4.toInt.toNat) (-1)) 28 6 v8) 37 (y1.toInt.toNat) v10) 28 5 v15) 11 (b.toInt.toNat) 0) 12 (b.toInt.toNat) (-1)) 13 (b.toInt.toNat) (-1)) 14 (b.toInt.toNat) (-1), h.2.2.1, h.2.2.2))) rfl ?_
  refine qm_Ru.rt (v := none) (h' := (h.1, qm_up (qm_up (qm_up (qm_up (qm_up (qm_up (qm_up (qm_up h.2.1 36 (v4.toInt.toNat) (-1)) 28 6 v8) 37 (y1.toInt.toNat) v10) 28 5 v15) 11 (b.toInt.toNat) 0) 12 (b.toInt.toNat) (-1)) 13 (b.toInt.toNat) (-1)) 14 (b.toInt.toNat) (-1), h.2.2.1, h.2.2.2)) rfl ?_
  refine qm_Ru.go 0 (c' := (9, [.ref 6, .int b], [], (h.1, qm_up (qm_up (qm_up (qm_up (qm_up (qm_up (qm_up (qm_up h.2.1 36 (v4.toInt.toNat) (-1)) 28 6 v8) 37 (y1.toInt.toNat) v10) 28 5 v15) 11 (b.toInt.toNat) 0) 12 (b.toInt.toNat) (-1)) 13 (b.toInt.toNat) (-1)) 14 (b.toInt.toNat) (-1), h.2.2.1, h.2.2.2))) rfl ?_
  refine qm_Ru.rt (v := none) (h' := (h.1, qm_up (qm_up (qm_up (qm_up (qm_up (qm_up (qm_up (qm_up h.2.1 36 (v4.toInt.toNat) (-1)) 28 6 v8) 37 (y1.toInt.toNat) v10) 28 5 v15) 11 (b.toInt.toNat) 0) 12 (b.toInt.toNat) (-1)) 13 (b.toInt.toNat) (-1)) 14 (b.toInt.toNat) (-1), h.2.2.1, h.2.2.2)) rfl ?_
  refine qm_Ru.go 0 (c' := (64, [.ref 28, .int b, .int y1, .int r1], [], (h.1, qm_up (qm_up (qm_up (qm_up (qm_up (qm_up (qm_up (qm_up h.2.1 36 (v4.toInt.toNat) (-1)) 28 6 v8) 37 (y1.toInt.toNat) v10) 28 5 v15) 11 (b.toInt.toNat) 0) 12 (b.toInt.toNat) (-1)) 13 (b.toInt.toNat) (-1)) 14 (b.toInt.toNat) (-1), h.2.2.1, h.2.2.2))) rfl ?_
  refine qm_Ru.rt (v := none) (h' := (h.1, qm_up (qm_up (qm_up (qm_up (qm_up (qm_up (qm_up (qm_up h.2.1 36 (v4.toInt.toNat) (-1)) 28 6 v8) 37 (y1.toInt.toNat) v10) 28 5 v15) 11 (b.toInt.toNat) 0) 12 (b.toInt.toNat) (-1)) 13 (b.toInt.toNat) (-1)) 14 (b.toInt.toNat) (-1), h.2.2.1, h.2.2.2)) rfl ?_
  exact k v4 v8 v10 v15 (by omega)
theorem hm_sput {X : Option (Nat × (Nat → Int32))} {d : Nat} {Z : Option Value → qm_H → Prop} {h : qm_H} (hH : hk_H h) {b y r t : Int32} (b_b : (0 : Int) ≤ b.toInt ∧ b.toInt ≤ 29) (b_y : (0 : Int) ≤ y.toInt ∧ y.toInt ≤ 4) (b_r : (0 : Int) ≤ r.toInt ∧ r.toInt ≤ 3) (b_t : (0 : Int) ≤ t.toInt ∧ t.toInt ≤ 3) (k : ∀ v4 v7 v9 v14 : Int32, v4.toInt = 16 * y.toInt + 4 * r.toInt + t.toInt → Z none (h.1, qm_up (qm_up (qm_up (qm_up (qm_up (qm_up (qm_up (qm_up h.2.1 36 (v4.toInt.toNat) b) 28 6 v7) 37 (y.toInt.toNat) v9) 28 5 v14) 11 (b.toInt.toNat) 1) 12 (b.toInt.toNat) y) 13 (b.toInt.toNat) r) 14 (b.toInt.toNat) t, h.2.2.1, h.2.2.2)) : qm_Ru X (d + 10) cd_99 (qm_ent 5 [.ref 28, .int b, .int y, .int r, .int t] h) Z := by
  refine qm_Ru.go 1 (c' := (1, [.ref 28, .int b, .int y, .int r, .int t], [.ref 28], h)) rfl ?_
  refine hk_getr rfl (hH.1 28 (9, 8) rfl) rfl (hH.2 28 3 (some 36) rfl) ?_
  refine qm_Ru.go 3 (c' := (8, [.ref 28, .int b, .int y, .int r, .int t], [.int t, .int r, .int y, .ref 36], h)) rfl ?_
  refine qm_Ru.call (j := 75) (as := [.int y, .int r, .int t]) (c' := (11, [.ref 28, .int b, .int y, .int r, .int t], [.ref 36], h)) rfl rfl rfl ?_
  refine qm_Ru.go 3 (c' := (3, [.int y, .int r, .int t], [.int (y * 4)], h)) rfl ?_
  obtain ⟨v1, q_v1, e_v1⟩ := hk_mul (x := y) (y := 4) (a := y.toInt) (b := 4) rfl rfl (by omega) (by omega)
  rw [q_v1]
  refine qm_Ru.go 2 (c' := (5, [.int y, .int r, .int t], [.int (v1 + r)], h)) rfl ?_
  obtain ⟨v2, q_v2, e_v2⟩ := hk_add (x := v1) (y := r) (a := v1.toInt) (b := r.toInt) rfl rfl (by omega) (by omega)
  rw [q_v2]
  refine qm_Ru.go 2 (c' := (7, [.int y, .int r, .int t], [.int (v2 * 4)], h)) rfl ?_
  obtain ⟨v3, q_v3, e_v3⟩ := hk_mul (x := v2) (y := 4) (a := v2.toInt) (b := 4) rfl rfl (by omega) (by omega)
  rw [q_v3]
  refine qm_Ru.go 2 (c' := (9, [.int y, .int r, .int t], [.int (v3 + t)], h)) rfl ?_
  obtain ⟨v4, q_v4, e_v4⟩ := hk_add (x := v3) (y := t) (a := v3.toInt) (b := t.toInt) rfl rfl (by omega) (by omega)
  rw [q_v4]
  refine qm_Ru.rt (v := (some (.int v4))) (h' := h) rfl ?_
  refine qm_Ru.go 1 (c' := (12, [.ref 28, .int b, .int y, .int r, .int t], [.int b, .int v4, .ref 36], h)) rfl ?_
  refine hk_ias rfl (hH.1 36 (0, 80) rfl) (by omega) (by omega) ?_
  refine qm_Ru.go 4 (c' := (17, [.ref 28, .int b, .int y, .int r, .int t], [.ref 28, .int r, .int y, .ref 28], (h.1, qm_up h.2.1 36 (v4.toInt.toNat) b, h.2.2.1, h.2.2.2))) rfl ?_
  refine hk_getr rfl (hH.1 28 (9, 8) rfl) rfl (hH.2 28 0 (some 6) rfl) ?_
  refine qm_Ru.go 0 (c' := (20, [.ref 28, .int b, .int y, .int r, .int t], [.ref 6, .int r, .int y, .ref 28], (h.1, qm_up h.2.1 36 (v4.toInt.toNat) b, h.2.2.1, h.2.2.2))) rfl ?_
  refine hk_getr rfl (hH.1 6 (6, 9) rfl) rfl (hH.2 6 1 (some 7) rfl) ?_
  refine qm_Ru.go 1 (c' := (24, [.ref 28, .int b, .int y, .int r, .int t], [.int b, .ref 7, .int r, .int y, .ref 28], (h.1, qm_up h.2.1 36 (v4.toInt.toNat) b, h.2.2.1, h.2.2.2))) rfl ?_
  obtain ⟨v5, q_v5⟩ : ∃ v, h.2.1 7 (b.toInt.toNat) = v := ⟨_, rfl⟩
  refine hk_ial (v := v5) rfl (hH.1 7 (0, 30) rfl) (by omega) (by omega) (show (qm_up h.2.1 36 (v4.toInt.toNat) b) 7 (b.toInt.toNat) = _ from ((hk_ot rfl).trans q_v5)) ?_
  refine qm_Ru.go 0 (c' := (25, [.ref 28, .int b, .int y, .int r, .int t], [.int v5, .int r, .int y, .ref 28], (h.1, qm_up h.2.1 36 (v4.toInt.toNat) b, h.2.2.1, h.2.2.2))) rfl ?_
  refine hk_inv (o := 28) (r := []) (as := [.ref 28, .int y, .int r, .int v5]) rfl rfl (hH.1 28 (9, 8) rfl) rfl rfl rfl rfl ?_
  refine qm_Ru.go 2 (c' := (2, [.ref 28, .int y, .int r, .int v5], [.ref 28, .ref 28], (h.1, qm_up h.2.1 36 (v4.toInt.toNat) b, h.2.2.1, h.2.2.2))) rfl ?_
  obtain ⟨v6, q_v6⟩ : ∃ v, h.2.1 28 6 = v := ⟨_, rfl⟩
  refine hk_geti (v := v6) rfl (hH.1 28 (9, 8) rfl) rfl (show (qm_up h.2.1 36 (v4.toInt.toNat) b) 28 6 = _ from ((hk_ot rfl).trans q_v6)) ?_
  refine qm_Ru.go 2 (c' := (7, [.ref 28, .int y, .int r, .int v5], [.int (v6 + v5), .ref 28], (h.1, qm_up h.2.1 36 (v4.toInt.toNat) b, h.2.2.1, h.2.2.2))) rfl ?_
  obtain ⟨v7, q_v7⟩ : ∃ v, (v6 + v5) = v := ⟨_, rfl⟩
  rw [q_v7]
  refine hk_puti rfl (hH.1 28 (9, 8) rfl) rfl ?_
  refine qm_Ru.go 1 (c' := (11, [.ref 28, .int y, .int r, .int v5], [.ref 28], (h.1, qm_up (qm_up h.2.1 36 (v4.toInt.toNat) b) 28 6 v7, h.2.2.1, h.2.2.2))) rfl ?_
  refine hk_getr rfl (hH.1 28 (9, 8) rfl) rfl (hH.2 28 7 (some 37) rfl) ?_
  refine qm_Ru.go 2 (c' := (16, [.ref 28, .int y, .int r, .int v5], [.int y, .ref 37, .int y, .ref 37], (h.1, qm_up (qm_up h.2.1 36 (v4.toInt.toNat) b) 28 6 v7, h.2.2.1, h.2.2.2))) rfl ?_
  obtain ⟨v8, q_v8⟩ : ∃ v, h.2.1 37 (y.toInt.toNat) = v := ⟨_, rfl⟩
  refine hk_ial (v := v8) rfl (hH.1 37 (0, 5) rfl) (by omega) (by omega) (show (qm_up (qm_up h.2.1 36 (v4.toInt.toNat) b) 28 6 v7) 37 (y.toInt.toNat) = _ from ((hk_ot rfl).trans ((hk_ot rfl).trans q_v8))) ?_
  refine qm_Ru.go 2 (c' := (19, [.ref 28, .int y, .int r, .int v5], [.int (v8 + v5), .int y, .ref 37], (h.1, qm_up (qm_up h.2.1 36 (v4.toInt.toNat) b) 28 6 v7, h.2.2.1, h.2.2.2))) rfl ?_
  obtain ⟨v9, q_v9⟩ : ∃ v, (v8 + v5) = v := ⟨_, rfl⟩
  rw [q_v9]
  refine hk_ias rfl (hH.1 37 (0, 5) rfl) (by omega) (by omega) ?_
  refine qm_Ru.go 2 (c' := (22, [.ref 28, .int y, .int r, .int v5], [.ref 28, .ref 28], (h.1, qm_up (qm_up (qm_up h.2.1 36 (v4.toInt.toNat) b) 28 6 v7) 37 (y.toInt.toNat) v9, h.2.2.1, h.2.2.2))) rfl ?_
  obtain ⟨v10, q_v10⟩ : ∃ v, h.2.1 28 5 = v := ⟨_, rfl⟩
  refine hk_geti (v := v10) rfl (hH.1 28 (9, 8) rfl) rfl (show (qm_up (qm_up (qm_up h.2.1 36 (v4.toInt.toNat) b) 28 6 v7) 37 (y.toInt.toNat) v9) 28 5 = _ from ((hk_ot rfl).trans ((hk_neq (by decide)).trans ((hk_ot rfl).trans q_v10)))) ?_
  refine qm_Ru.go 2 (c' := (27, [.ref 28, .int y, .int r, .int v5], [.int r, .int v5, .int v10, .ref 28], (h.1, qm_up (qm_up (qm_up h.2.1 36 (v4.toInt.toNat) b) 28 6 v7) 37 (y.toInt.toNat) v9, h.2.2.1, h.2.2.2))) rfl ?_
  refine qm_Ru.call (j := 95) (as := [.int r]) (c' := (30, [.ref 28, .int y, .int r, .int v5], [.int v5, .int v10, .ref 28], (h.1, qm_up (qm_up (qm_up h.2.1 36 (v4.toInt.toNat) b) 28 6 v7) 37 (y.toInt.toNat) v9, h.2.2.1, h.2.2.2))) rfl rfl rfl ?_
  refine qm_Ru.go 3 (c' := (3, [.int r], [.int (2 * r)], (h.1, qm_up (qm_up (qm_up h.2.1 36 (v4.toInt.toNat) b) 28 6 v7) 37 (y.toInt.toNat) v9, h.2.2.1, h.2.2.2))) rfl ?_
  obtain ⟨v11, q_v11, e_v11⟩ := hk_mul (x := 2) (y := r) (a := 2) (b := r.toInt) rfl rfl (by omega) (by omega)
  rw [q_v11]
  refine qm_Ru.go 2 (c' := (5, [.int r], [.int (v11 - 3)], (h.1, qm_up (qm_up (qm_up h.2.1 36 (v4.toInt.toNat) b) 28 6 v7) 37 (y.toInt.toNat) v9, h.2.2.1, h.2.2.2))) rfl ?_
  obtain ⟨v12, q_v12, e_v12⟩ := hk_sub (x := v11) (y := 3) (a := v11.toInt) (b := 3) rfl rfl (by omega) (by omega)
  rw [q_v12]
  refine qm_Ru.rt (v := (some (.int v12))) (h' := (h.1, qm_up (qm_up (qm_up h.2.1 36 (v4.toInt.toNat) b) 28 6 v7) 37 (y.toInt.toNat) v9, h.2.2.1, h.2.2.2)) rfl ?_
  refine qm_Ru.go 1 (c' := (31, [.ref 28, .int y, .int r, .int v5], [.int (v5 * v12), .int v10, .ref 28], (h.1, qm_up (qm_up (qm_up h.2.1 36 (v4.toInt.toNat) b) 28 6 v7) 37 (y.toInt.toNat) v9, h.2.2.1, h.2.2.2))) rfl ?_
  obtain ⟨v13, q_v13⟩ : ∃ v, (v5 * v12) = v := ⟨_, rfl⟩
  rw [q_v13]
  refine qm_Ru.go 1 (c' := (32, [.ref 28, .int y, .int r, .int v5], [.int (v10 + v13), .ref 28], (h.1, qm_up (qm_up (qm_up h.2.1 36 (v4.toInt.toNat) b) 28 6 v7) 37 (y.toInt.toNat) v9, h.2.2.1, h.2.2.2))) rfl ?_
  obtain ⟨v14, q_v14⟩ : ∃ v, (v10 + v13) = v := ⟨_, rfl⟩
  rw [q_v14]
  refine hk_puti rfl (hH.1 28 (9, 8) rfl) rfl ?_
  refine qm_Ru.go 0 (c' := (35, [.ref 28, .int y, .int r, .int v5], [], (h.1, qm_up (qm_up (qm_up (qm_up h.2.1 36 (v4.toInt.toNat) b) 28 6 v7) 37 (y.toInt.toNat) v9) 28 5 v14, h.2.2.1, h.2.2.2))) rfl ?_
  refine qm_Ru.rt (v := none) (h' := (h.1, qm_up (qm_up (qm_up (qm_up h.2.1 36 (v4.toInt.toNat) b) 28 6 v7) 37 (y.toInt.toNat) v9) 28 5 v14, h.2.2.1, h.2.2.2)) rfl ?_
  refine qm_Ru.go 1 (c' := (29, [.ref 28, .int b, .int y, .int r, .int t], [.ref 28], (h.1, qm_up (qm_up (qm_up (qm_up h.2.1 36 (v4.toInt.toNat) b) 28 6 v7) 37 (y.toInt.toNat) v9) 28 5 v14, h.2.2.1, h.2.2.2))) rfl ?_
  refine hk_getr rfl (hH.1 28 (9, 8) rfl) rfl (hH.2 28 0 (some 6) rfl) ?_
  refine qm_Ru.go 5 (c' := (38, [.ref 28, .int b, .int y, .int r, .int t], [.int t, .int r, .int y, .int 1, .int b, .ref 6], (h.1, qm_up (qm_up (qm_up (qm_up h.2.1 36 (v4.toInt.toNat) b) 28 6 v7) 37 (y.toInt.toNat) v9) 28 5 v14, h.2.2.1, h.2.2.2))) rfl ?_
  refine hk_inv (o := 6) (r := []) (as := [.ref 6, .int b, .int 1, .int y, .int r, .int t]) rfl rfl (hH.1 6 (6, 9) rfl) rfl rfl rfl rfl ?_
  refine qm_Ru.go 1 (c' := (1, [.ref 6, .int b, .int 1, .int y, .int r, .int t], [.ref 6], (h.1, qm_up (qm_up (qm_up (qm_up h.2.1 36 (v4.toInt.toNat) b) 28 6 v7) 37 (y.toInt.toNat) v9) 28 5 v14, h.2.2.1, h.2.2.2))) rfl ?_
  refine hk_getr rfl (hH.1 6 (6, 9) rfl) rfl (hH.2 6 5 (some 11) rfl) ?_
  refine qm_Ru.go 2 (c' := (6, [.ref 6, .int b, .int 1, .int y, .int r, .int t], [.int 1, .int b, .ref 11], (h.1, qm_up (qm_up (qm_up (qm_up h.2.1 36 (v4.toInt.toNat) b) 28 6 v7) 37 (y.toInt.toNat) v9) 28 5 v14, h.2.2.1, h.2.2.2))) rfl ?_
  refine hk_ias rfl (hH.1 11 (0, 30) rfl) (by omega) (by omega) ?_
  refine qm_Ru.go 1 (c' := (8, [.ref 6, .int b, .int 1, .int y, .int r, .int t], [.ref 6], (h.1, qm_up (qm_up (qm_up (qm_up (qm_up h.2.1 36 (v4.toInt.toNat) b) 28 6 v7) 37 (y.toInt.toNat) v9) 28 5 v14) 11 (b.toInt.toNat) 1, h.2.2.1, h.2.2.2))) rfl ?_
  refine hk_getr rfl (hH.1 6 (6, 9) rfl) rfl (hH.2 6 6 (some 12) rfl) ?_
  refine qm_Ru.go 2 (c' := (13, [.ref 6, .int b, .int 1, .int y, .int r, .int t], [.int y, .int b, .ref 12], (h.1, qm_up (qm_up (qm_up (qm_up (qm_up h.2.1 36 (v4.toInt.toNat) b) 28 6 v7) 37 (y.toInt.toNat) v9) 28 5 v14) 11 (b.toInt.toNat) 1, h.2.2.1, h.2.2.2))) rfl ?_
  refine hk_ias rfl (hH.1 12 (0, 30) rfl) (by omega) (by omega) ?_
  refine qm_Ru.go 1 (c' := (15, [.ref 6, .int b, .int 1, .int y, .int r, .int t], [.ref 6], (h.1, qm_up (qm_up (qm_up (qm_up (qm_up (qm_up h.2.1 36 (v4.toInt.toNat) b) 28 6 v7) 37 (y.toInt.toNat) v9) 28 5 v14) 11 (b.toInt.toNat) 1) 12 (b.toInt.toNat) y, h.2.2.1, h.2.2.2))) rfl ?_
  refine hk_getr rfl (hH.1 6 (6, 9) rfl) rfl (hH.2 6 7 (some 13) rfl) ?_
  refine qm_Ru.go 2 (c' := (21, [.ref 6, .int b, .int 1, .int y, .int r, .int t], [.int r, .int b, .ref 13], (h.1, qm_up (qm_up (qm_up (qm_up (qm_up (qm_up h.2.1 36 (v4.toInt.toNat) b) 28 6 v7) 37 (y.toInt.toNat) v9) 28 5 v14) 11 (b.toInt.toNat) 1) 12 (b.toInt.toNat) y, h.2.2.1, h.2.2.2))) rfl ?_
  refine hk_ias rfl (hH.1 13 (0, 30) rfl) (by omega) (by omega) ?_
  refine qm_Ru.go 1 (c' := (23, [.ref 6, .int b, .int 1, .int y, .int r, .int t], [.ref 6], (h.1, qm_up (qm_up (qm_up (qm_up (qm_up (qm_up (qm_up h.2.1 36 (v4.toInt.toNat) b) 28 6 v7) 37 (y.toInt.toNat) v9) 28 5 v14) 11 (b.toInt.toNat) 1) 12 (b.toInt.toNat) y) 13 (b.toInt.toNat) r, h.2.2.1, h.2.2.2))) rfl ?_
  refine hk_getr rfl (hH.1 6 (6, 9) rfl) rfl (hH.2 6 8 (some 14) rfl) ?_
  refine qm_Ru.go 2 (c' := (29, [.ref 6, .int b, .int 1, .int y, .int r, .int t], [.int t, .int b, .ref 14], (h.1, qm_up (qm_up (qm_up (qm_up (qm_up (qm_up (qm_up h.2.1 36 (v4.toInt.toNat) b) 28 6 v7) 37 (y.toInt.toNat) v9) 28 5 v14) 11 (b.toInt.toNat) 1) 12 (b.toInt.toNat) y) 13 (b.toInt.toNat) r, h.2.2.1, h.2.2.2))) rfl ?_
  refine hk_ias rfl (hH.1 14 (0, 30) rfl) (by omega) (by omega) ?_
  refine qm_Ru.go 0 (c' := (30, [.ref 6, .int b, .int 1, .int y, .int r, .int t], [], (h.1, qm_up (qm_up (qm_up (qm_up (qm_up (qm_up (qm_up (qm_up h.2.1 36 (v4.toInt.toNat) b) 28 6 v7) 37 (y.toInt.toNat) v9) 28 5 v14) 11 (b.toInt.toNat) 1) 12 (b.toInt.toNat) y) 13 (b.toInt.toNat) r) 14 (b.toInt.toNat) t, h.2.2.1, h.2.2.2))) rfl ?_
  refine qm_Ru.rt (v := none) (h' := (h.1, qm_up (qm_up (qm_up (qm_up (qm_up (qm_up (qm_up (qm_up h.2.1 36 (v4.toInt.toNat) b) 28 6 v7) 37 (y.toInt.toNat) v9) 28 5 v14) 11 (b.toInt.toNat) 1) 12 (b.toInt.toNat) y) 13 (b.toInt.toNat) r) 14 (b.toInt.toNat) t, h.2.2.1, h.2.2.2)) rfl ?_
  refine qm_Ru.go 0 (c' := (41, [.ref 28, .int b, .int y, .int r, .int t], [], (h.1, qm_up (qm_up (qm_up (qm_up (qm_up (qm_up (qm_up (qm_up h.2.1 36 (v4.toInt.toNat) b) 28 6 v7) 37 (y.toInt.toNat) v9) 28 5 v14) 11 (b.toInt.toNat) 1) 12 (b.toInt.toNat) y) 13 (b.toInt.toNat) r) 14 (b.toInt.toNat) t, h.2.2.1, h.2.2.2))) rfl ?_
  refine qm_Ru.rt (v := none) (h' := (h.1, qm_up (qm_up (qm_up (qm_up (qm_up (qm_up (qm_up (qm_up h.2.1 36 (v4.toInt.toNat) b) 28 6 v7) 37 (y.toInt.toNat) v9) 28 5 v14) 11 (b.toInt.toNat) 1) 12 (b.toInt.toNat) y) 13 (b.toInt.toNat) r) 14 (b.toInt.toNat) t, h.2.2.1, h.2.2.2)) rfl ?_
  exact k v4 v7 v9 v14 (by omega)
theorem hm_yput {X : Option (Nat × (Nat → Int32))} {d : Nat} {Z : Option Value → qm_H → Prop} {h : qm_H} (hH : hk_H h) {b s g : Int32} (b_b : (0 : Int) ≤ b.toInt ∧ b.toInt ≤ 29) (b_s : (0 : Int) ≤ s.toInt ∧ s.toInt ≤ 3) (q_g : h.2.1 17 (s.toInt.toNat) = g) (b_g : (0 : Int) ≤ g.toInt ∧ g.toInt ≤ 3) (k : ∀ v2 v3 : Int32, v2.toInt = 4 * s.toInt + g.toInt → v3.toInt = g.toInt + 1 → Z (some (.int g)) (h.1, qm_up (qm_up (qm_up (qm_up (qm_up (qm_up h.2.1 16 (v2.toInt.toNat) b) 17 (s.toInt.toNat) v3) 11 (b.toInt.toNat) 2) 12 (b.toInt.toNat) s) 13 (b.toInt.toNat) (-1)) 14 (b.toInt.toNat) g, h.2.2.1, h.2.2.2)) : qm_Ru X (d + 10) cd_79 (qm_ent 4 [.ref 15, .int b, .int s] h) Z := by
  refine qm_Ru.go 1 (c' := (1, [.ref 15, .int b, .int s, .float 0], [.ref 15], h)) rfl ?_
  refine hk_getr rfl (hH.1 15 (15, 8) rfl) rfl (hH.2 15 2 (some 17) rfl) ?_
  refine qm_Ru.go 1 (c' := (5, [.ref 15, .int b, .int s, .float 0], [.int s, .ref 17], h)) rfl ?_
  refine hk_ial (v := g) rfl (hH.1 17 (0, 4) rfl) (by omega) (by omega) q_g ?_
  refine qm_Ru.go 2 (c' := (8, [.ref 15, .int b, .int s, .int g], [.ref 15], h)) rfl ?_
  refine hk_getr rfl (hH.1 15 (15, 8) rfl) rfl (hH.2 15 1 (some 16) rfl) ?_
  refine qm_Ru.go 3 (c' := (14, [.ref 15, .int b, .int s, .int g], [.int (s * 4), .ref 16], h)) rfl ?_
  obtain ⟨v1, q_v1, e_v1⟩ := hk_mul (x := s) (y := 4) (a := s.toInt) (b := 4) rfl rfl (by omega) (by omega)
  rw [q_v1]
  refine qm_Ru.go 2 (c' := (16, [.ref 15, .int b, .int s, .int g], [.int (v1 + g), .ref 16], h)) rfl ?_
  obtain ⟨v2, q_v2, e_v2⟩ := hk_add (x := v1) (y := g) (a := v1.toInt) (b := g.toInt) rfl rfl (by omega) (by omega)
  rw [q_v2]
  refine qm_Ru.go 1 (c' := (17, [.ref 15, .int b, .int s, .int g], [.int b, .int v2, .ref 16], h)) rfl ?_
  refine hk_ias rfl (hH.1 16 (0, 16) rfl) (by omega) (by omega) ?_
  refine qm_Ru.go 1 (c' := (19, [.ref 15, .int b, .int s, .int g], [.ref 15], (h.1, qm_up h.2.1 16 (v2.toInt.toNat) b, h.2.2.1, h.2.2.2))) rfl ?_
  refine hk_getr rfl (hH.1 15 (15, 8) rfl) rfl (hH.2 15 2 (some 17) rfl) ?_
  refine qm_Ru.go 2 (c' := (24, [.ref 15, .int b, .int s, .int g], [.int s, .ref 17, .int s, .ref 17], (h.1, qm_up h.2.1 16 (v2.toInt.toNat) b, h.2.2.1, h.2.2.2))) rfl ?_
  refine hk_ial (v := g) rfl (hH.1 17 (0, 4) rfl) (by omega) (by omega) (show (qm_up h.2.1 16 (v2.toInt.toNat) b) 17 (s.toInt.toNat) = _ from ((hk_ot rfl).trans q_g)) ?_
  refine qm_Ru.go 2 (c' := (27, [.ref 15, .int b, .int s, .int g], [.int (g + 1), .int s, .ref 17], (h.1, qm_up h.2.1 16 (v2.toInt.toNat) b, h.2.2.1, h.2.2.2))) rfl ?_
  obtain ⟨v3, q_v3, e_v3⟩ := hk_add (x := g) (y := 1) (a := g.toInt) (b := 1) rfl rfl (by omega) (by omega)
  rw [q_v3]
  refine hk_ias rfl (hH.1 17 (0, 4) rfl) (by omega) (by omega) ?_
  refine qm_Ru.go 1 (c' := (29, [.ref 15, .int b, .int s, .int g], [.ref 15], (h.1, qm_up (qm_up h.2.1 16 (v2.toInt.toNat) b) 17 (s.toInt.toNat) v3, h.2.2.1, h.2.2.2))) rfl ?_
  refine hk_getr rfl (hH.1 15 (15, 8) rfl) rfl (hH.2 15 0 (some 6) rfl) ?_
  refine qm_Ru.go 5 (c' := (37, [.ref 15, .int b, .int s, .int g], [.int g, .int (-1), .int s, .int 2, .int b, .ref 6], (h.1, qm_up (qm_up h.2.1 16 (v2.toInt.toNat) b) 17 (s.toInt.toNat) v3, h.2.2.1, h.2.2.2))) rfl ?_
  refine hk_inv (o := 6) (r := []) (as := [.ref 6, .int b, .int 2, .int s, .int (-1), .int g]) rfl rfl (hH.1 6 (6, 9) rfl) rfl rfl rfl rfl ?_
  refine qm_Ru.go 1 (c' := (1, [.ref 6, .int b, .int 2, .int s, .int (-1), .int g], [.ref 6], (h.1, qm_up (qm_up h.2.1 16 (v2.toInt.toNat) b) 17 (s.toInt.toNat) v3, h.2.2.1, h.2.2.2))) rfl ?_
  refine hk_getr rfl (hH.1 6 (6, 9) rfl) rfl (hH.2 6 5 (some 11) rfl) ?_
  refine qm_Ru.go 2 (c' := (6, [.ref 6, .int b, .int 2, .int s, .int (-1), .int g], [.int 2, .int b, .ref 11], (h.1, qm_up (qm_up h.2.1 16 (v2.toInt.toNat) b) 17 (s.toInt.toNat) v3, h.2.2.1, h.2.2.2))) rfl ?_
  refine hk_ias rfl (hH.1 11 (0, 30) rfl) (by omega) (by omega) ?_
  refine qm_Ru.go 1 (c' := (8, [.ref 6, .int b, .int 2, .int s, .int (-1), .int g], [.ref 6], (h.1, qm_up (qm_up (qm_up h.2.1 16 (v2.toInt.toNat) b) 17 (s.toInt.toNat) v3) 11 (b.toInt.toNat) 2, h.2.2.1, h.2.2.2))) rfl ?_
  refine hk_getr rfl (hH.1 6 (6, 9) rfl) rfl (hH.2 6 6 (some 12) rfl) ?_
  refine qm_Ru.go 2 (c' := (13, [.ref 6, .int b, .int 2, .int s, .int (-1), .int g], [.int s, .int b, .ref 12], (h.1, qm_up (qm_up (qm_up h.2.1 16 (v2.toInt.toNat) b) 17 (s.toInt.toNat) v3) 11 (b.toInt.toNat) 2, h.2.2.1, h.2.2.2))) rfl ?_
  refine hk_ias rfl (hH.1 12 (0, 30) rfl) (by omega) (by omega) ?_
  refine qm_Ru.go 1 (c' := (15, [.ref 6, .int b, .int 2, .int s, .int (-1), .int g], [.ref 6], (h.1, qm_up (qm_up (qm_up (qm_up h.2.1 16 (v2.toInt.toNat) b) 17 (s.toInt.toNat) v3) 11 (b.toInt.toNat) 2) 12 (b.toInt.toNat) s, h.2.2.1, h.2.2.2))) rfl ?_
  refine hk_getr rfl (hH.1 6 (6, 9) rfl) rfl (hH.2 6 7 (some 13) rfl) ?_
  refine qm_Ru.go 2 (c' := (21, [.ref 6, .int b, .int 2, .int s, .int (-1), .int g], [.int (-1), .int b, .ref 13], (h.1, qm_up (qm_up (qm_up (qm_up h.2.1 16 (v2.toInt.toNat) b) 17 (s.toInt.toNat) v3) 11 (b.toInt.toNat) 2) 12 (b.toInt.toNat) s, h.2.2.1, h.2.2.2))) rfl ?_
  refine hk_ias rfl (hH.1 13 (0, 30) rfl) (by omega) (by omega) ?_
  refine qm_Ru.go 1 (c' := (23, [.ref 6, .int b, .int 2, .int s, .int (-1), .int g], [.ref 6], (h.1, qm_up (qm_up (qm_up (qm_up (qm_up h.2.1 16 (v2.toInt.toNat) b) 17 (s.toInt.toNat) v3) 11 (b.toInt.toNat) 2) 12 (b.toInt.toNat) s) 13 (b.toInt.toNat) (-1), h.2.2.1, h.2.2.2))) rfl ?_
  refine hk_getr rfl (hH.1 6 (6, 9) rfl) rfl (hH.2 6 8 (some 14) rfl) ?_
  refine qm_Ru.go 2 (c' := (29, [.ref 6, .int b, .int 2, .int s, .int (-1), .int g], [.int g, .int b, .ref 14], (h.1, qm_up (qm_up (qm_up (qm_up (qm_up h.2.1 16 (v2.toInt.toNat) b) 17 (s.toInt.toNat) v3) 11 (b.toInt.toNat) 2) 12 (b.toInt.toNat) s) 13 (b.toInt.toNat) (-1), h.2.2.1, h.2.2.2))) rfl ?_
  refine hk_ias rfl (hH.1 14 (0, 30) rfl) (by omega) (by omega) ?_
  refine qm_Ru.go 0 (c' := (30, [.ref 6, .int b, .int 2, .int s, .int (-1), .int g], [], (h.1, qm_up (qm_up (qm_up (qm_up (qm_up (qm_up h.2.1 16 (v2.toInt.toNat) b) 17 (s.toInt.toNat) v3) 11 (b.toInt.toNat) 2) 12 (b.toInt.toNat) s) 13 (b.toInt.toNat) (-1)) 14 (b.toInt.toNat) g, h.2.2.1, h.2.2.2))) rfl ?_
  refine qm_Ru.rt (v := none) (h' := (h.1, qm_up (qm_up (qm_up (qm_up (qm_up (qm_up h.2.1 16 (v2.toInt.toNat) b) 17 (s.toInt.toNat) v3) 11 (b.toInt.toNat) 2) 12 (b.toInt.toNat) s) 13 (b.toInt.toNat) (-1)) 14 (b.toInt.toNat) g, h.2.2.1, h.2.2.2)) rfl ?_
  refine qm_Ru.go 1 (c' := (41, [.ref 15, .int b, .int s, .int g], [.int g], (h.1, qm_up (qm_up (qm_up (qm_up (qm_up (qm_up h.2.1 16 (v2.toInt.toNat) b) 17 (s.toInt.toNat) v3) 11 (b.toInt.toNat) 2) 12 (b.toInt.toNat) s) 13 (b.toInt.toNat) (-1)) 14 (b.toInt.toNat) g, h.2.2.1, h.2.2.2))) rfl ?_
  refine qm_Ru.rt (v := (some (.int g))) (h' := (h.1, qm_up (qm_up (qm_up (qm_up (qm_up (qm_up h.2.1 16 (v2.toInt.toNat) b) 17 (s.toInt.toNat) v3) 11 (b.toInt.toNat) 2) 12 (b.toInt.toNat) s) 13 (b.toInt.toNat) (-1)) 14 (b.toInt.toNat) g, h.2.2.1, h.2.2.2)) rfl ?_
  exact k v2 v3 (by omega) (by omega)
