theorem px_cput {X : Option (Nat × (Nat → Int32))} {Z : Option Value → qm_H → Prop} {h : qm_H} {fu : Nat} (hH : hk_H h) {b y x t : Int32} {ls wt w : Int32} (q_ls : h.2.1 28 5 = ls) (hls : -100000 ≤ ls.toInt ∧ ls.toInt ≤ 100000) (q_wt : h.2.1 28 6 = wt) (hwt : -100000 ≤ wt.toInt ∧ wt.toInt ≤ 100000) (q_w : h.2.1 7 b.toInt.toNat = w) (hw : 0 ≤ w.toInt ∧ w.toInt ≤ 40) (hb : -100000 ≤ pI h.2.1 37 y.toInt.toNat ∧ pI h.2.1 37 y.toInt.toNat ≤ 100000) (hy : 0 ≤ y.toInt ∧ y.toInt ≤ 4) (hx : 0 ≤ x.toInt ∧ x.toInt ≤ 3) (ht : 0 ≤ t.toInt ∧ t.toInt ≤ 3) (k : ∀ (I : Nat → Nat → Int32) (l2 w2 : Int32), (∀ o, [11, 12, 13, 14, 28, 36, 37].contains o = false → ∀ i, I o i = h.2.1 o i) → (∀ i, [5, 6].contains i = false → I 28 i = h.2.1 28 i) → I 28 5 = l2 → I 28 6 = w2 → l2.toInt = ls.toInt + w.toInt * (2 * x.toInt - 3) → w2.toInt = wt.toInt + w.toInt → pI I 11 = fu_up (pI h.2.1 11) (b.toInt.toNat) (1 : Int32).toInt → pI I 12 = fu_up (pI h.2.1 12) (b.toInt.toNat) y.toInt → pI I 13 = fu_up (pI h.2.1 13) (b.toInt.toNat) x.toInt → pI I 14 = fu_up (pI h.2.1 14) (b.toInt.toNat) t.toInt → pI I 36 = fu_up (pI h.2.1 36) (16 * y.toInt + 4 * x.toInt + t.toInt).toNat b.toInt → pI I 37 = fu_up (pI h.2.1 37) y.toInt.toNat (pI h.2.1 37 y.toInt.toNat + w.toInt) → Z none (h.1, I, h.2.2.1, h.2.2.2)) : qm_Rp fu X cd_99 (qm_ent 5 [.ref 28, .int b, .int y, .int x, .int t] h) Z := by
  refine qm_Rp.go 0 (c' := (0, [.ref 28, .int b, .int y, .int x, .int t], [], h)) rfl ?_
  have kz0 : (0 : Int32).toInt = 0 := rfl
  have kz1 : (1 : Int32).toInt = 1 := rfl
  have kz2 : (2 : Int32).toInt = 2 := rfl
  have kz3 : (3 : Int32).toInt = 3 := rfl
  have kz4 : (4 : Int32).toInt = 4 := rfl
  have kz5 : (5 : Int32).toInt = 5 := rfl
  have kz6 : (6 : Int32).toInt = 6 := rfl
  have kz7 : (7 : Int32).toInt = 7 := rfl
  have kz8 : (8 : Int32).toInt = 8 := rfl
  have kz9 : (9 : Int32).toInt = 9 := rfl
  have kzm1 : ((-1) : Int32).toInt = (-1) := rfl
  have kzm2 : ((-2) : Int32).toInt = (-2) := rfl
  have kzm3 : ((-3) : Int32).toInt = (-3) := rfl
  refine qm_Rp.go 1 (c' := (1, [.ref 28, .int b, .int y, .int x, .int t], [.ref 28], h)) rfl ?_
  refine hp_getr rfl (hH.1 28 (9, 8) rfl) rfl (hH.2 28 3 (some 36) rfl) ?_
  refine qm_Rp.go 3 (c' := (8, [.ref 28, .int b, .int y, .int x, .int t], [.int t, .int x, .int y, .ref 36], h)) rfl ?_
  refine qm_Rp.call (j := 75) (as := [.int y, .int x, .int t]) (c' := (11, [.ref 28, .int b, .int y, .int x, .int t], [.ref 36], h)) rfl rfl ?_
  refine qm_Rp.go 3 (c' := (3, [.int y, .int x, .int t], [.int (y * 4)], h)) rfl ?_
  obtain ⟨v1, q_v1, e_v1⟩ := hk_mul (x := y) (y := 4) (a := y.toInt) (b := 4) rfl rfl (by omega) (by omega)
  rw [q_v1]
  refine qm_Rp.go 2 (c' := (5, [.int y, .int x, .int t], [.int (v1 + x)], h)) rfl ?_
  obtain ⟨v2, q_v2, e_v2⟩ := hk_add (x := v1) (y := x) (a := v1.toInt) (b := x.toInt) rfl rfl (by omega) (by omega)
  rw [q_v2]
  refine qm_Rp.go 2 (c' := (7, [.int y, .int x, .int t], [.int (v2 * 4)], h)) rfl ?_
  obtain ⟨v3, q_v3, e_v3⟩ := hk_mul (x := v2) (y := 4) (a := v2.toInt) (b := 4) rfl rfl (by omega) (by omega)
  rw [q_v3]
  refine qm_Rp.go 2 (c' := (9, [.int y, .int x, .int t], [.int (v3 + t)], h)) rfl ?_
  obtain ⟨v4, q_v4, e_v4⟩ := hk_add (x := v3) (y := t) (a := v3.toInt) (b := t.toInt) rfl rfl (by omega) (by omega)
  rw [q_v4]
  refine qm_Rp.rt (v := (some (.int v4))) (h' := h) rfl ?_
  refine qm_Rp.go 1 (c' := (12, [.ref 28, .int b, .int y, .int x, .int t], [.int b, .int v4, .ref 36], h)) rfl ?_
  refine hp_ias rfl (hH.1 36 (0, 80) rfl) (fun ia_4 ib_4 => ?_)
  refine qm_Rp.go 4 (c' := (17, [.ref 28, .int b, .int y, .int x, .int t], [.ref 28, .int x, .int y, .ref 28], (h.1, qm_up h.2.1 36 v4.toInt.toNat b, h.2.2.1, h.2.2.2))) rfl ?_
  refine hp_getr rfl (hH.1 28 (9, 8) rfl) rfl (hH.2 28 0 (some 6) rfl) ?_
  refine qm_Rp.go 0 (c' := (20, [.ref 28, .int b, .int y, .int x, .int t], [.ref 6, .int x, .int y, .ref 28], (h.1, qm_up h.2.1 36 v4.toInt.toNat b, h.2.2.1, h.2.2.2))) rfl ?_
  refine hp_getr rfl (hH.1 6 (6, 9) rfl) rfl (hH.2 6 1 (some 7) rfl) ?_
  refine qm_Rp.go 1 (c' := (24, [.ref 28, .int b, .int y, .int x, .int t], [.int b, .ref 7, .int x, .int y, .ref 28], (h.1, qm_up h.2.1 36 v4.toInt.toNat b, h.2.2.1, h.2.2.2))) rfl ?_
  refine hp_ial (v := w) rfl (hH.1 7 (0, 30) rfl) (show (qm_up h.2.1 36 v4.toInt.toNat b) 7 b.toInt.toNat = _ from ((hk_ot rfl).trans q_w)) (fun ia_5 ib_5 => ?_)
  refine qm_Rp.go 0 (c' := (25, [.ref 28, .int b, .int y, .int x, .int t], [.int w, .int x, .int y, .ref 28], (h.1, qm_up h.2.1 36 v4.toInt.toNat b, h.2.2.1, h.2.2.2))) rfl ?_
  refine hp_inv (o := 28) (r := []) (as := [.ref 28, .int y, .int x, .int w]) rfl rfl (hH.1 28 (9, 8) rfl) rfl rfl rfl ?_
  refine qm_Rp.go 2 (c' := (2, [.ref 28, .int y, .int x, .int w], [.ref 28, .ref 28], (h.1, qm_up h.2.1 36 v4.toInt.toNat b, h.2.2.1, h.2.2.2))) rfl ?_
  refine hp_geti (v := wt) rfl (hH.1 28 (9, 8) rfl) rfl (show (qm_up h.2.1 36 v4.toInt.toNat b) 28 6 = _ from ((hk_ot rfl).trans q_wt)) ?_
  refine qm_Rp.go 2 (c' := (7, [.ref 28, .int y, .int x, .int w], [.int (wt + w), .ref 28], (h.1, qm_up h.2.1 36 v4.toInt.toNat b, h.2.2.1, h.2.2.2))) rfl ?_
  obtain ⟨v7, q_v7, e_v7⟩ := hk_add (x := wt) (y := w) (a := wt.toInt) (b := w.toInt) rfl rfl (by omega) (by omega)
  rw [q_v7]
  refine hp_puti rfl (hH.1 28 (9, 8) rfl) rfl ?_
  refine qm_Rp.go 1 (c' := (11, [.ref 28, .int y, .int x, .int w], [.ref 28], (h.1, qm_up (qm_up h.2.1 36 v4.toInt.toNat b) 28 6 v7, h.2.2.1, h.2.2.2))) rfl ?_
  refine hp_getr rfl (hH.1 28 (9, 8) rfl) rfl (hH.2 28 7 (some 37) rfl) ?_
  refine qm_Rp.go 2 (c' := (16, [.ref 28, .int y, .int x, .int w], [.int y, .ref 37, .int y, .ref 37], (h.1, qm_up (qm_up h.2.1 36 v4.toInt.toNat b) 28 6 v7, h.2.2.1, h.2.2.2))) rfl ?_
  obtain ⟨v8, q_v8⟩ : ∃ v_, h.2.1 37 y.toInt.toNat = v_ := ⟨_, rfl⟩
  refine hp_ial (v := v8) rfl (hH.1 37 (0, 5) rfl) (show (qm_up (qm_up h.2.1 36 v4.toInt.toNat b) 28 6 v7) 37 y.toInt.toNat = _ from ((hk_ot rfl).trans ((hk_ot rfl).trans q_v8))) (fun ia_8 ib_8 => ?_)
  refine qm_Rp.go 0 (c' := (17, [.ref 28, .int y, .int x, .int w], [.int v8, .int y, .ref 37], (h.1, qm_up (qm_up h.2.1 36 v4.toInt.toNat b) 28 6 v7, h.2.2.1, h.2.2.2))) rfl ?_
  have b_v8 : -100000 ≤ v8.toInt ∧ v8.toInt ≤ 100000 := by rw [← q_v8]; exact hb
  refine qm_Rp.go 2 (c' := (19, [.ref 28, .int y, .int x, .int w], [.int (v8 + w), .int y, .ref 37], (h.1, qm_up (qm_up h.2.1 36 v4.toInt.toNat b) 28 6 v7, h.2.2.1, h.2.2.2))) rfl ?_
  obtain ⟨v10, q_v10, e_v10⟩ := hk_add (x := v8) (y := w) (a := v8.toInt) (b := w.toInt) rfl rfl (by omega) (by omega)
  rw [q_v10]
  refine hp_ias rfl (hH.1 37 (0, 5) rfl) (fun ia_10 ib_10 => ?_)
  refine qm_Rp.go 2 (c' := (22, [.ref 28, .int y, .int x, .int w], [.ref 28, .ref 28], (h.1, qm_up (qm_up (qm_up h.2.1 36 v4.toInt.toNat b) 28 6 v7) 37 y.toInt.toNat v10, h.2.2.1, h.2.2.2))) rfl ?_
  refine hp_geti (v := ls) rfl (hH.1 28 (9, 8) rfl) rfl (show (qm_up (qm_up (qm_up h.2.1 36 v4.toInt.toNat b) 28 6 v7) 37 y.toInt.toNat v10) 28 5 = _ from ((hk_ot rfl).trans ((hk_neq (by decide)).trans ((hk_ot rfl).trans q_ls)))) ?_
  refine qm_Rp.go 2 (c' := (27, [.ref 28, .int y, .int x, .int w], [.int x, .int w, .int ls, .ref 28], (h.1, qm_up (qm_up (qm_up h.2.1 36 v4.toInt.toNat b) 28 6 v7) 37 y.toInt.toNat v10, h.2.2.1, h.2.2.2))) rfl ?_
  refine qm_Rp.call (j := 95) (as := [.int x]) (c' := (30, [.ref 28, .int y, .int x, .int w], [.int w, .int ls, .ref 28], (h.1, qm_up (qm_up (qm_up h.2.1 36 v4.toInt.toNat b) 28 6 v7) 37 y.toInt.toNat v10, h.2.2.1, h.2.2.2))) rfl rfl ?_
  refine qm_Rp.go 3 (c' := (3, [.int x], [.int (2 * x)], (h.1, qm_up (qm_up (qm_up h.2.1 36 v4.toInt.toNat b) 28 6 v7) 37 y.toInt.toNat v10, h.2.2.1, h.2.2.2))) rfl ?_
  obtain ⟨v12, q_v12, e_v12⟩ := hk_mul (x := 2) (y := x) (a := 2) (b := x.toInt) rfl rfl (by omega) (by omega)
  rw [q_v12]
  refine qm_Rp.go 2 (c' := (5, [.int x], [.int (v12 - 3)], (h.1, qm_up (qm_up (qm_up h.2.1 36 v4.toInt.toNat b) 28 6 v7) 37 y.toInt.toNat v10, h.2.2.1, h.2.2.2))) rfl ?_
  obtain ⟨v13, q_v13, e_v13⟩ := hk_sub (x := v12) (y := 3) (a := v12.toInt) (b := 3) rfl rfl (by omega) (by omega)
  rw [q_v13]
  refine qm_Rp.rt (v := (some (.int v13))) (h' := (h.1, qm_up (qm_up (qm_up h.2.1 36 v4.toInt.toNat b) 28 6 v7) 37 y.toInt.toNat v10, h.2.2.1, h.2.2.2)) rfl ?_
  refine qm_Rp.go 1 (c' := (31, [.ref 28, .int y, .int x, .int w], [.int (w * v13), .int ls, .ref 28], (h.1, qm_up (qm_up (qm_up h.2.1 36 v4.toInt.toNat b) 28 6 v7) 37 y.toInt.toNat v10, h.2.2.1, h.2.2.2))) rfl ?_
  have m_v14 := zm_bd (x := w.toInt) (y := v13.toInt) (u := 40) (p := 3) (q := 3) (by omega) (by omega) (by omega) (by omega) (by omega) (by omega)
  obtain ⟨v14, q_v14, e_v14⟩ := hk_mul (x := w) (y := v13) (a := w.toInt) (b := v13.toInt) rfl rfl (by omega) (by omega)
  rw [q_v14]
  refine qm_Rp.go 1 (c' := (32, [.ref 28, .int y, .int x, .int w], [.int (ls + v14), .ref 28], (h.1, qm_up (qm_up (qm_up h.2.1 36 v4.toInt.toNat b) 28 6 v7) 37 y.toInt.toNat v10, h.2.2.1, h.2.2.2))) rfl ?_
  obtain ⟨v15, q_v15, e_v15⟩ := hk_add (x := ls) (y := v14) (a := ls.toInt) (b := v14.toInt) rfl rfl (by omega) (by omega)
  rw [q_v15]
  refine hp_puti rfl (hH.1 28 (9, 8) rfl) rfl ?_
  refine qm_Rp.go 0 (c' := (35, [.ref 28, .int y, .int x, .int w], [], (h.1, qm_up (qm_up (qm_up (qm_up h.2.1 36 v4.toInt.toNat b) 28 6 v7) 37 y.toInt.toNat v10) 28 5 v15, h.2.2.1, h.2.2.2))) rfl ?_
  refine qm_Rp.rt (v := none) (h' := (h.1, qm_up (qm_up (qm_up (qm_up h.2.1 36 v4.toInt.toNat b) 28 6 v7) 37 y.toInt.toNat v10) 28 5 v15, h.2.2.1, h.2.2.2)) rfl ?_
  refine qm_Rp.go 1 (c' := (29, [.ref 28, .int b, .int y, .int x, .int t], [.ref 28], (h.1, qm_up (qm_up (qm_up (qm_up h.2.1 36 v4.toInt.toNat b) 28 6 v7) 37 y.toInt.toNat v10) 28 5 v15, h.2.2.1, h.2.2.2))) rfl ?_
  refine hp_getr rfl (hH.1 28 (9, 8) rfl) rfl (hH.2 28 0 (some 6) rfl) ?_
  refine qm_Rp.go 5 (c' := (38, [.ref 28, .int b, .int y, .int x, .int t], [.int t, .int x, .int y, .int 1, .int b, .ref 6], (h.1, qm_up (qm_up (qm_up (qm_up h.2.1 36 v4.toInt.toNat b) 28 6 v7) 37 y.toInt.toNat v10) 28 5 v15, h.2.2.1, h.2.2.2))) rfl ?_
  refine hp_inv (o := 6) (r := []) (as := [.ref 6, .int b, .int 1, .int y, .int x, .int t]) rfl rfl (hH.1 6 (6, 9) rfl) rfl rfl rfl ?_
  refine qm_Rp.go 1 (c' := (1, [.ref 6, .int b, .int 1, .int y, .int x, .int t], [.ref 6], (h.1, qm_up (qm_up (qm_up (qm_up h.2.1 36 v4.toInt.toNat b) 28 6 v7) 37 y.toInt.toNat v10) 28 5 v15, h.2.2.1, h.2.2.2))) rfl ?_
  refine hp_getr rfl (hH.1 6 (6, 9) rfl) rfl (hH.2 6 5 (some 11) rfl) ?_
  refine qm_Rp.go 2 (c' := (6, [.ref 6, .int b, .int 1, .int y, .int x, .int t], [.int 1, .int b, .ref 11], (h.1, qm_up (qm_up (qm_up (qm_up h.2.1 36 v4.toInt.toNat b) 28 6 v7) 37 y.toInt.toNat v10) 28 5 v15, h.2.2.1, h.2.2.2))) rfl ?_
  refine hp_ias rfl (hH.1 11 (0, 30) rfl) (fun ia_15 ib_15 => ?_)
  refine qm_Rp.go 1 (c' := (8, [.ref 6, .int b, .int 1, .int y, .int x, .int t], [.ref 6], (h.1, qm_up (qm_up (qm_up (qm_up (qm_up h.2.1 36 v4.toInt.toNat b) 28 6 v7) 37 y.toInt.toNat v10) 28 5 v15) 11 b.toInt.toNat 1, h.2.2.1, h.2.2.2))) rfl ?_
  refine hp_getr rfl (hH.1 6 (6, 9) rfl) rfl (hH.2 6 6 (some 12) rfl) ?_
  refine qm_Rp.go 2 (c' := (13, [.ref 6, .int b, .int 1, .int y, .int x, .int t], [.int y, .int b, .ref 12], (h.1, qm_up (qm_up (qm_up (qm_up (qm_up h.2.1 36 v4.toInt.toNat b) 28 6 v7) 37 y.toInt.toNat v10) 28 5 v15) 11 b.toInt.toNat 1, h.2.2.1, h.2.2.2))) rfl ?_
  refine hp_ias rfl (hH.1 12 (0, 30) rfl) (fun ia_16 ib_16 => ?_)
  refine qm_Rp.go 1 (c' := (15, [.ref 6, .int b, .int 1, .int y, .int x, .int t], [.ref 6], (h.1, qm_up (qm_up (qm_up (qm_up (qm_up (qm_up h.2.1 36 v4.toInt.toNat b) 28 6 v7) 37 y.toInt.toNat v10) 28 5 v15) 11 b.toInt.toNat 1) 12 b.toInt.toNat y, h.2.2.1, h.2.2.2))) rfl ?_
  refine hp_getr rfl (hH.1 6 (6, 9) rfl) rfl (hH.2 6 7 (some 13) rfl) ?_
  refine qm_Rp.go 2 (c' := (21, [.ref 6, .int b, .int 1, .int y, .int x, .int t], [.int x, .int b, .ref 13], (h.1, qm_up (qm_up (qm_up (qm_up (qm_up (qm_up h.2.1 36 v4.toInt.toNat b) 28 6 v7) 37 y.toInt.toNat v10) 28 5 v15) 11 b.toInt.toNat 1) 12 b.toInt.toNat y, h.2.2.1, h.2.2.2))) rfl ?_
  refine hp_ias rfl (hH.1 13 (0, 30) rfl) (fun ia_17 ib_17 => ?_)
  refine qm_Rp.go 1 (c' := (23, [.ref 6, .int b, .int 1, .int y, .int x, .int t], [.ref 6], (h.1, qm_up (qm_up (qm_up (qm_up (qm_up (qm_up (qm_up h.2.1 36 v4.toInt.toNat b) 28 6 v7) 37 y.toInt.toNat v10) 28 5 v15) 11 b.toInt.toNat 1) 12 b.toInt.toNat y) 13 b.toInt.toNat x, h.2.2.1, h.2.2.2))) rfl ?_
  refine hp_getr rfl (hH.1 6 (6, 9) rfl) rfl (hH.2 6 8 (some 14) rfl) ?_
  refine qm_Rp.go 2 (c' := (29, [.ref 6, .int b, .int 1, .int y, .int x, .int t], [.int t, .int b, .ref 14], (h.1, qm_up (qm_up (qm_up (qm_up (qm_up (qm_up (qm_up h.2.1 36 v4.toInt.toNat b) 28 6 v7) 37 y.toInt.toNat v10) 28 5 v15) 11 b.toInt.toNat 1) 12 b.toInt.toNat y) 13 b.toInt.toNat x, h.2.2.1, h.2.2.2))) rfl ?_
  refine hp_ias rfl (hH.1 14 (0, 30) rfl) (fun ia_18 ib_18 => ?_)
  refine qm_Rp.go 0 (c' := (30, [.ref 6, .int b, .int 1, .int y, .int x, .int t], [], (h.1, qm_up (qm_up (qm_up (qm_up (qm_up (qm_up (qm_up (qm_up h.2.1 36 v4.toInt.toNat b) 28 6 v7) 37 y.toInt.toNat v10) 28 5 v15) 11 b.toInt.toNat 1) 12 b.toInt.toNat y) 13 b.toInt.toNat x) 14 b.toInt.toNat t, h.2.2.1, h.2.2.2))) rfl ?_
  refine qm_Rp.rt (v := none) (h' := (h.1, qm_up (qm_up (qm_up (qm_up (qm_up (qm_up (qm_up (qm_up h.2.1 36 v4.toInt.toNat b) 28 6 v7) 37 y.toInt.toNat v10) 28 5 v15) 11 b.toInt.toNat 1) 12 b.toInt.toNat y) 13 b.toInt.toNat x) 14 b.toInt.toNat t, h.2.2.1, h.2.2.2)) rfl ?_
  refine qm_Rp.go 0 (c' := (41, [.ref 28, .int b, .int y, .int x, .int t], [], (h.1, qm_up (qm_up (qm_up (qm_up (qm_up (qm_up (qm_up (qm_up h.2.1 36 v4.toInt.toNat b) 28 6 v7) 37 y.toInt.toNat v10) 28 5 v15) 11 b.toInt.toNat 1) 12 b.toInt.toNat y) 13 b.toInt.toNat x) 14 b.toInt.toNat t, h.2.2.1, h.2.2.2))) rfl ?_
  refine qm_Rp.rt (v := none) (h' := (h.1, qm_up (qm_up (qm_up (qm_up (qm_up (qm_up (qm_up (qm_up h.2.1 36 v4.toInt.toNat b) 28 6 v7) 37 y.toInt.toNat v10) 28 5 v15) 11 b.toInt.toNat 1) 12 b.toInt.toNat y) 13 b.toInt.toNat x) 14 b.toInt.toNat t, h.2.2.1, h.2.2.2)) rfl ?_
  exact k (qm_up (qm_up (qm_up (qm_up (qm_up (qm_up (qm_up (qm_up h.2.1 36 v4.toInt.toNat b) 28 6 v7) 37 y.toInt.toNat v10) 28 5 v15) 11 b.toInt.toNat 1) 12 b.toInt.toNat y) 13 b.toInt.toNat x) 14 b.toInt.toNat t) v15 v7 (fun o ho i => ((hk_mod ho rfl).trans ((hk_mod ho rfl).trans ((hk_mod ho rfl).trans ((hk_mod ho rfl).trans ((hk_mod ho rfl).trans ((hk_mod ho rfl).trans ((hk_mod ho rfl).trans ((hk_mod ho rfl).trans rfl))))))))) (fun i hi => ((hk_ot rfl).trans ((hk_ot rfl).trans ((hk_ot rfl).trans ((hk_ot rfl).trans ((hk_neq (fun z => by subst z; cases hi)).trans ((hk_ot rfl).trans ((hk_neq (fun z => by subst z; cases hi)).trans ((hk_ot rfl).trans rfl))))))))) (show (qm_up (qm_up (qm_up (qm_up (qm_up (qm_up (qm_up (qm_up h.2.1 36 v4.toInt.toNat b) 28 6 v7) 37 y.toInt.toNat v10) 28 5 v15) 11 b.toInt.toNat 1) 12 b.toInt.toNat y) 13 b.toInt.toNat x) 14 b.toInt.toNat t) 28 5 = _ from ((hk_ot rfl).trans ((hk_ot rfl).trans ((hk_ot rfl).trans ((hk_ot rfl).trans (hk_same)))))) (show (qm_up (qm_up (qm_up (qm_up (qm_up (qm_up (qm_up (qm_up h.2.1 36 v4.toInt.toNat b) 28 6 v7) 37 y.toInt.toNat v10) 28 5 v15) 11 b.toInt.toNat 1) 12 b.toInt.toNat y) 13 b.toInt.toNat x) 14 b.toInt.toNat t) 28 6 = _ from ((hk_ot rfl).trans ((hk_ot rfl).trans ((hk_ot rfl).trans ((hk_ot rfl).trans ((hk_neq (by decide)).trans ((hk_ot rfl).trans (hk_same)))))))) (by rw [e_v15, e_v14, e_v13, e_v12]) (by rw [e_v7]) ((pI_sk rfl).trans ((pI_sk rfl).trans ((pI_sk rfl).trans (pI_up.trans (congrArg (fun f => fu_up f (b.toInt.toNat) (Int32.toInt 1)) ((pI_sk rfl).trans ((pI_sk rfl).trans ((pI_sk rfl).trans (pI_sk rfl))))))))) ((pI_sk rfl).trans ((pI_sk rfl).trans (pI_up.trans (congrArg (fun f => fu_up f (b.toInt.toNat) (Int32.toInt y)) ((pI_sk rfl).trans ((pI_sk rfl).trans ((pI_sk rfl).trans ((pI_sk rfl).trans (pI_sk rfl))))))))) ((pI_sk rfl).trans (pI_up.trans (congrArg (fun f => fu_up f (b.toInt.toNat) (Int32.toInt x)) ((pI_sk rfl).trans ((pI_sk rfl).trans ((pI_sk rfl).trans ((pI_sk rfl).trans ((pI_sk rfl).trans (pI_sk rfl))))))))) (pI_up.trans (congrArg (fun f => fu_up f (b.toInt.toNat) (Int32.toInt t)) ((pI_sk rfl).trans ((pI_sk rfl).trans ((pI_sk rfl).trans ((pI_sk rfl).trans ((pI_sk rfl).trans ((pI_sk rfl).trans (pI_sk rfl))))))))) (((pI_sk rfl).trans ((pI_sk rfl).trans ((pI_sk rfl).trans ((pI_sk rfl).trans ((pI_sk rfl).trans ((pI_sk rfl).trans ((pI_sk rfl).trans pI_up))))))).trans (by rw [show v4.toInt.toNat = (16 * y.toInt + 4 * x.toInt + t.toInt).toNat by omega])) (((pI_sk rfl).trans ((pI_sk rfl).trans ((pI_sk rfl).trans ((pI_sk rfl).trans ((pI_sk rfl).trans (pI_up.trans (congrArg (fun f => fu_up f (y.toInt.toNat) (Int32.toInt v10)) ((pI_sk rfl).trans (pI_sk rfl))))))))).trans (by rw [show (v10).toInt = pI h.2.1 37 y.toInt.toNat + w.toInt by rw [e_v10, ← q_v8]; rfl]))
theorem px_crem {X : Option (Nat × (Nat → Int32))} {Z : Option Value → qm_H → Prop} {h : qm_H} {fu : Nat} (hH : hk_H h) {b y x t : Int32} {ls wt w : Int32} (q_ls : h.2.1 28 5 = ls) (hls : -100000 ≤ ls.toInt ∧ ls.toInt ≤ 100000) (q_wt : h.2.1 28 6 = wt) (hwt : -100000 ≤ wt.toInt ∧ wt.toInt ≤ 100000) (q_w : h.2.1 7 b.toInt.toNat = w) (hw : 0 ≤ w.toInt ∧ w.toInt ≤ 40) (hb : -100000 ≤ pI h.2.1 37 y.toInt.toNat ∧ pI h.2.1 37 y.toInt.toNat ≤ 100000) (q_y : h.2.1 12 b.toInt.toNat = y) (q_x : h.2.1 13 b.toInt.toNat = x) (q_t : h.2.1 14 b.toInt.toNat = t) (hy : 0 ≤ y.toInt ∧ y.toInt ≤ 4) (hx : 0 ≤ x.toInt ∧ x.toInt ≤ 3) (ht : 0 ≤ t.toInt ∧ t.toInt ≤ 3) (k : ∀ (I : Nat → Nat → Int32) (l2 w2 : Int32), (∀ o, [11, 12, 13, 14, 28, 36, 37].contains o = false → ∀ i, I o i = h.2.1 o i) → (∀ i, [5, 6].contains i = false → I 28 i = h.2.1 28 i) → I 28 5 = l2 → I 28 6 = w2 → l2.toInt = ls.toInt + -w.toInt * (2 * x.toInt - 3) → w2.toInt = wt.toInt + -w.toInt → pI I 11 = fu_up (pI h.2.1 11) (b.toInt.toNat) (0 : Int32).toInt → pI I 12 = fu_up (pI h.2.1 12) (b.toInt.toNat) (-1 : Int32).toInt → pI I 13 = fu_up (pI h.2.1 13) (b.toInt.toNat) (-1 : Int32).toInt → pI I 14 = fu_up (pI h.2.1 14) (b.toInt.toNat) (-1 : Int32).toInt → pI I 36 = fu_up (pI h.2.1 36) (16 * y.toInt + 4 * x.toInt + t.toInt).toNat (-1 : Int32).toInt → pI I 37 = fu_up (pI h.2.1 37) y.toInt.toNat (pI h.2.1 37 y.toInt.toNat + -w.toInt) → Z none (h.1, I, h.2.2.1, h.2.2.2)) : qm_Rp fu X cd_106 (qm_ent 4 [.ref 28, .int b] h) Z := by
  refine qm_Rp.go 0 (c' := (0, [.ref 28, .int b, .float 0, .float 0], [], h)) rfl ?_
  have kz0 : (0 : Int32).toInt = 0 := rfl
  have kz1 : (1 : Int32).toInt = 1 := rfl
  have kz2 : (2 : Int32).toInt = 2 := rfl
  have kz3 : (3 : Int32).toInt = 3 := rfl
  have kz4 : (4 : Int32).toInt = 4 := rfl
  have kz5 : (5 : Int32).toInt = 5 := rfl
  have kz6 : (6 : Int32).toInt = 6 := rfl
  have kz7 : (7 : Int32).toInt = 7 := rfl
  have kz8 : (8 : Int32).toInt = 8 := rfl
  have kz9 : (9 : Int32).toInt = 9 := rfl
  have kzm1 : ((-1) : Int32).toInt = (-1) := rfl
  have kzm2 : ((-2) : Int32).toInt = (-2) := rfl
  have kzm3 : ((-3) : Int32).toInt = (-3) := rfl
  refine qm_Rp.go 1 (c' := (1, [.ref 28, .int b, .float 0, .float 0], [.ref 28], h)) rfl ?_
  refine hp_getr rfl (hH.1 28 (9, 8) rfl) rfl (hH.2 28 0 (some 6) rfl) ?_
  refine qm_Rp.go 0 (c' := (4, [.ref 28, .int b, .float 0, .float 0], [.ref 6], h)) rfl ?_
  refine hp_getr rfl (hH.1 6 (6, 9) rfl) rfl (hH.2 6 6 (some 12) rfl) ?_
  refine qm_Rp.go 1 (c' := (8, [.ref 28, .int b, .float 0, .float 0], [.int b, .ref 12], h)) rfl ?_
  refine hp_ial (v := y) rfl (hH.1 12 (0, 30) rfl) q_y (fun ia_0 ib_0 => ?_)
  refine qm_Rp.go 2 (c' := (11, [.ref 28, .int b, .int y, .float 0], [.ref 28], h)) rfl ?_
  refine hp_getr rfl (hH.1 28 (9, 8) rfl) rfl (hH.2 28 0 (some 6) rfl) ?_
  refine qm_Rp.go 0 (c' := (14, [.ref 28, .int b, .int y, .float 0], [.ref 6], h)) rfl ?_
  refine hp_getr rfl (hH.1 6 (6, 9) rfl) rfl (hH.2 6 7 (some 13) rfl) ?_
  refine qm_Rp.go 1 (c' := (18, [.ref 28, .int b, .int y, .float 0], [.int b, .ref 13], h)) rfl ?_
  refine hp_ial (v := x) rfl (hH.1 13 (0, 30) rfl) q_x (fun ia_1 ib_1 => ?_)
  refine qm_Rp.go 2 (c' := (21, [.ref 28, .int b, .int y, .int x], [.ref 28], h)) rfl ?_
  refine hp_getr rfl (hH.1 28 (9, 8) rfl) rfl (hH.2 28 3 (some 36) rfl) ?_
  refine qm_Rp.go 3 (c' := (27, [.ref 28, .int b, .int y, .int x], [.ref 28, .int x, .int y, .ref 36], h)) rfl ?_
  refine hp_getr rfl (hH.1 28 (9, 8) rfl) rfl (hH.2 28 0 (some 6) rfl) ?_
  refine qm_Rp.go 0 (c' := (30, [.ref 28, .int b, .int y, .int x], [.ref 6, .int x, .int y, .ref 36], h)) rfl ?_
  refine hp_getr rfl (hH.1 6 (6, 9) rfl) rfl (hH.2 6 8 (some 14) rfl) ?_
  refine qm_Rp.go 1 (c' := (34, [.ref 28, .int b, .int y, .int x], [.int b, .ref 14, .int x, .int y, .ref 36], h)) rfl ?_
  refine hp_ial (v := t) rfl (hH.1 14 (0, 30) rfl) q_t (fun ia_2 ib_2 => ?_)
  refine qm_Rp.go 0 (c' := (35, [.ref 28, .int b, .int y, .int x], [.int t, .int x, .int y, .ref 36], h)) rfl ?_
  refine qm_Rp.call (j := 75) (as := [.int y, .int x, .int t]) (c' := (38, [.ref 28, .int b, .int y, .int x], [.ref 36], h)) rfl rfl ?_
  refine qm_Rp.go 3 (c' := (3, [.int y, .int x, .int t], [.int (y * 4)], h)) rfl ?_
  obtain ⟨v4, q_v4, e_v4⟩ := hk_mul (x := y) (y := 4) (a := y.toInt) (b := 4) rfl rfl (by omega) (by omega)
  rw [q_v4]
  refine qm_Rp.go 2 (c' := (5, [.int y, .int x, .int t], [.int (v4 + x)], h)) rfl ?_
  obtain ⟨v5, q_v5, e_v5⟩ := hk_add (x := v4) (y := x) (a := v4.toInt) (b := x.toInt) rfl rfl (by omega) (by omega)
  rw [q_v5]
  refine qm_Rp.go 2 (c' := (7, [.int y, .int x, .int t], [.int (v5 * 4)], h)) rfl ?_
  obtain ⟨v6, q_v6, e_v6⟩ := hk_mul (x := v5) (y := 4) (a := v5.toInt) (b := 4) rfl rfl (by omega) (by omega)
  rw [q_v6]
  refine qm_Rp.go 2 (c' := (9, [.int y, .int x, .int t], [.int (v6 + t)], h)) rfl ?_
  obtain ⟨v7, q_v7, e_v7⟩ := hk_add (x := v6) (y := t) (a := v6.toInt) (b := t.toInt) rfl rfl (by omega) (by omega)
  rw [q_v7]
  refine qm_Rp.rt (v := (some (.int v7))) (h' := h) rfl ?_
  refine qm_Rp.go 1 (c' := (39, [.ref 28, .int b, .int y, .int x], [.int (-1), .int v7, .ref 36], h)) rfl ?_
  refine hp_ias rfl (hH.1 36 (0, 80) rfl) (fun ia_7 ib_7 => ?_)
  refine qm_Rp.go 4 (c' := (44, [.ref 28, .int b, .int y, .int x], [.ref 28, .int x, .int y, .ref 28], (h.1, qm_up h.2.1 36 v7.toInt.toNat (-1), h.2.2.1, h.2.2.2))) rfl ?_
  refine hp_getr rfl (hH.1 28 (9, 8) rfl) rfl (hH.2 28 0 (some 6) rfl) ?_
  refine qm_Rp.go 0 (c' := (47, [.ref 28, .int b, .int y, .int x], [.ref 6, .int x, .int y, .ref 28], (h.1, qm_up h.2.1 36 v7.toInt.toNat (-1), h.2.2.1, h.2.2.2))) rfl ?_
  refine hp_getr rfl (hH.1 6 (6, 9) rfl) rfl (hH.2 6 1 (some 7) rfl) ?_
  refine qm_Rp.go 1 (c' := (51, [.ref 28, .int b, .int y, .int x], [.int b, .ref 7, .int x, .int y, .ref 28], (h.1, qm_up h.2.1 36 v7.toInt.toNat (-1), h.2.2.1, h.2.2.2))) rfl ?_
  refine hp_ial (v := w) rfl (hH.1 7 (0, 30) rfl) (show (qm_up h.2.1 36 v7.toInt.toNat (-1)) 7 b.toInt.toNat = _ from ((hk_ot rfl).trans q_w)) (fun ia_8 ib_8 => ?_)
  refine qm_Rp.go 1 (c' := (53, [.ref 28, .int b, .int y, .int x], [.int (-w), .int x, .int y, .ref 28], (h.1, qm_up h.2.1 36 v7.toInt.toNat (-1), h.2.2.1, h.2.2.2))) rfl ?_
  obtain ⟨v10, q_v10, e_v10⟩ := hk_neg (x := w) (a := w.toInt) rfl (by omega)
  rw [q_v10]
  refine hp_inv (o := 28) (r := []) (as := [.ref 28, .int y, .int x, .int v10]) rfl rfl (hH.1 28 (9, 8) rfl) rfl rfl rfl ?_
  refine qm_Rp.go 2 (c' := (2, [.ref 28, .int y, .int x, .int v10], [.ref 28, .ref 28], (h.1, qm_up h.2.1 36 v7.toInt.toNat (-1), h.2.2.1, h.2.2.2))) rfl ?_
  refine hp_geti (v := wt) rfl (hH.1 28 (9, 8) rfl) rfl (show (qm_up h.2.1 36 v7.toInt.toNat (-1)) 28 6 = _ from ((hk_ot rfl).trans q_wt)) ?_
  refine qm_Rp.go 2 (c' := (7, [.ref 28, .int y, .int x, .int v10], [.int (wt + v10), .ref 28], (h.1, qm_up h.2.1 36 v7.toInt.toNat (-1), h.2.2.1, h.2.2.2))) rfl ?_
  obtain ⟨v11, q_v11, e_v11⟩ := hk_add (x := wt) (y := v10) (a := wt.toInt) (b := v10.toInt) rfl rfl (by omega) (by omega)
  rw [q_v11]
  refine hp_puti rfl (hH.1 28 (9, 8) rfl) rfl ?_
  refine qm_Rp.go 1 (c' := (11, [.ref 28, .int y, .int x, .int v10], [.ref 28], (h.1, qm_up (qm_up h.2.1 36 v7.toInt.toNat (-1)) 28 6 v11, h.2.2.1, h.2.2.2))) rfl ?_
  refine hp_getr rfl (hH.1 28 (9, 8) rfl) rfl (hH.2 28 7 (some 37) rfl) ?_
  refine qm_Rp.go 2 (c' := (16, [.ref 28, .int y, .int x, .int v10], [.int y, .ref 37, .int y, .ref 37], (h.1, qm_up (qm_up h.2.1 36 v7.toInt.toNat (-1)) 28 6 v11, h.2.2.1, h.2.2.2))) rfl ?_
  obtain ⟨v12, q_v12⟩ : ∃ v_, h.2.1 37 y.toInt.toNat = v_ := ⟨_, rfl⟩
  refine hp_ial (v := v12) rfl (hH.1 37 (0, 5) rfl) (show (qm_up (qm_up h.2.1 36 v7.toInt.toNat (-1)) 28 6 v11) 37 y.toInt.toNat = _ from ((hk_ot rfl).trans ((hk_ot rfl).trans q_v12))) (fun ia_12 ib_12 => ?_)
  refine qm_Rp.go 0 (c' := (17, [.ref 28, .int y, .int x, .int v10], [.int v12, .int y, .ref 37], (h.1, qm_up (qm_up h.2.1 36 v7.toInt.toNat (-1)) 28 6 v11, h.2.2.1, h.2.2.2))) rfl ?_
  have b_v12 : -100000 ≤ v12.toInt ∧ v12.toInt ≤ 100000 := by rw [← q_v12]; exact hb
  refine qm_Rp.go 2 (c' := (19, [.ref 28, .int y, .int x, .int v10], [.int (v12 + v10), .int y, .ref 37], (h.1, qm_up (qm_up h.2.1 36 v7.toInt.toNat (-1)) 28 6 v11, h.2.2.1, h.2.2.2))) rfl ?_
  obtain ⟨v14, q_v14, e_v14⟩ := hk_add (x := v12) (y := v10) (a := v12.toInt) (b := v10.toInt) rfl rfl (by omega) (by omega)
  rw [q_v14]
  refine hp_ias rfl (hH.1 37 (0, 5) rfl) (fun ia_14 ib_14 => ?_)
  refine qm_Rp.go 2 (c' := (22, [.ref 28, .int y, .int x, .int v10], [.ref 28, .ref 28], (h.1, qm_up (qm_up (qm_up h.2.1 36 v7.toInt.toNat (-1)) 28 6 v11) 37 y.toInt.toNat v14, h.2.2.1, h.2.2.2))) rfl ?_
  refine hp_geti (v := ls) rfl (hH.1 28 (9, 8) rfl) rfl (show (qm_up (qm_up (qm_up h.2.1 36 v7.toInt.toNat (-1)) 28 6 v11) 37 y.toInt.toNat v14) 28 5 = _ from ((hk_ot rfl).trans ((hk_neq (by decide)).trans ((hk_ot rfl).trans q_ls)))) ?_
  refine qm_Rp.go 2 (c' := (27, [.ref 28, .int y, .int x, .int v10], [.int x, .int v10, .int ls, .ref 28], (h.1, qm_up (qm_up (qm_up h.2.1 36 v7.toInt.toNat (-1)) 28 6 v11) 37 y.toInt.toNat v14, h.2.2.1, h.2.2.2))) rfl ?_
  refine qm_Rp.call (j := 95) (as := [.int x]) (c' := (30, [.ref 28, .int y, .int x, .int v10], [.int v10, .int ls, .ref 28], (h.1, qm_up (qm_up (qm_up h.2.1 36 v7.toInt.toNat (-1)) 28 6 v11) 37 y.toInt.toNat v14, h.2.2.1, h.2.2.2))) rfl rfl ?_
  refine qm_Rp.go 3 (c' := (3, [.int x], [.int (2 * x)], (h.1, qm_up (qm_up (qm_up h.2.1 36 v7.toInt.toNat (-1)) 28 6 v11) 37 y.toInt.toNat v14, h.2.2.1, h.2.2.2))) rfl ?_
  obtain ⟨v16, q_v16, e_v16⟩ := hk_mul (x := 2) (y := x) (a := 2) (b := x.toInt) rfl rfl (by omega) (by omega)
  rw [q_v16]
  refine qm_Rp.go 2 (c' := (5, [.int x], [.int (v16 - 3)], (h.1, qm_up (qm_up (qm_up h.2.1 36 v7.toInt.toNat (-1)) 28 6 v11) 37 y.toInt.toNat v14, h.2.2.1, h.2.2.2))) rfl ?_
  obtain ⟨v17, q_v17, e_v17⟩ := hk_sub (x := v16) (y := 3) (a := v16.toInt) (b := 3) rfl rfl (by omega) (by omega)
  rw [q_v17]
  refine qm_Rp.rt (v := (some (.int v17))) (h' := (h.1, qm_up (qm_up (qm_up h.2.1 36 v7.toInt.toNat (-1)) 28 6 v11) 37 y.toInt.toNat v14, h.2.2.1, h.2.2.2)) rfl ?_
  refine qm_Rp.go 1 (c' := (31, [.ref 28, .int y, .int x, .int v10], [.int (v10 * v17), .int ls, .ref 28], (h.1, qm_up (qm_up (qm_up h.2.1 36 v7.toInt.toNat (-1)) 28 6 v11) 37 y.toInt.toNat v14, h.2.2.1, h.2.2.2))) rfl ?_
  have m_v18 := zm_be (x := v10.toInt) (y := v17.toInt) (u := 40) (p := 3) (by omega) (by omega) (by omega) (by omega)
  obtain ⟨v18, q_v18, e_v18⟩ := hk_mul (x := v10) (y := v17) (a := v10.toInt) (b := v17.toInt) rfl rfl (by omega) (by omega)
  rw [q_v18]
  refine qm_Rp.go 1 (c' := (32, [.ref 28, .int y, .int x, .int v10], [.int (ls + v18), .ref 28], (h.1, qm_up (qm_up (qm_up h.2.1 36 v7.toInt.toNat (-1)) 28 6 v11) 37 y.toInt.toNat v14, h.2.2.1, h.2.2.2))) rfl ?_
  obtain ⟨v19, q_v19, e_v19⟩ := hk_add (x := ls) (y := v18) (a := ls.toInt) (b := v18.toInt) rfl rfl (by omega) (by omega)
  rw [q_v19]
  refine hp_puti rfl (hH.1 28 (9, 8) rfl) rfl ?_
  refine qm_Rp.go 0 (c' := (35, [.ref 28, .int y, .int x, .int v10], [], (h.1, qm_up (qm_up (qm_up (qm_up h.2.1 36 v7.toInt.toNat (-1)) 28 6 v11) 37 y.toInt.toNat v14) 28 5 v19, h.2.2.1, h.2.2.2))) rfl ?_
  refine qm_Rp.rt (v := none) (h' := (h.1, qm_up (qm_up (qm_up (qm_up h.2.1 36 v7.toInt.toNat (-1)) 28 6 v11) 37 y.toInt.toNat v14) 28 5 v19, h.2.2.1, h.2.2.2)) rfl ?_
  refine qm_Rp.go 1 (c' := (57, [.ref 28, .int b, .int y, .int x], [.ref 28], (h.1, qm_up (qm_up (qm_up (qm_up h.2.1 36 v7.toInt.toNat (-1)) 28 6 v11) 37 y.toInt.toNat v14) 28 5 v19, h.2.2.1, h.2.2.2))) rfl ?_
  refine hp_getr rfl (hH.1 28 (9, 8) rfl) rfl (hH.2 28 0 (some 6) rfl) ?_
  refine qm_Rp.go 1 (c' := (61, [.ref 28, .int b, .int y, .int x], [.int b, .ref 6], (h.1, qm_up (qm_up (qm_up (qm_up h.2.1 36 v7.toInt.toNat (-1)) 28 6 v11) 37 y.toInt.toNat v14) 28 5 v19, h.2.2.1, h.2.2.2))) rfl ?_
  refine hp_inv (o := 6) (r := []) (as := [.ref 6, .int b]) rfl rfl (hH.1 6 (6, 9) rfl) rfl rfl rfl ?_
  refine qm_Rp.go 6 (c' := (6, [.ref 6, .int b], [.int (-1), .int (-1), .int (-1), .int 0, .int b, .ref 6], (h.1, qm_up (qm_up (qm_up (qm_up h.2.1 36 v7.toInt.toNat (-1)) 28 6 v11) 37 y.toInt.toNat v14) 28 5 v19, h.2.2.1, h.2.2.2))) rfl ?_
  refine hp_inv (o := 6) (r := []) (as := [.ref 6, .int b, .int 0, .int (-1), .int (-1), .int (-1)]) rfl rfl (hH.1 6 (6, 9) rfl) rfl rfl rfl ?_
  refine qm_Rp.go 1 (c' := (1, [.ref 6, .int b, .int 0, .int (-1), .int (-1), .int (-1)], [.ref 6], (h.1, qm_up (qm_up (qm_up (qm_up h.2.1 36 v7.toInt.toNat (-1)) 28 6 v11) 37 y.toInt.toNat v14) 28 5 v19, h.2.2.1, h.2.2.2))) rfl ?_
  refine hp_getr rfl (hH.1 6 (6, 9) rfl) rfl (hH.2 6 5 (some 11) rfl) ?_
  refine qm_Rp.go 2 (c' := (6, [.ref 6, .int b, .int 0, .int (-1), .int (-1), .int (-1)], [.int 0, .int b, .ref 11], (h.1, qm_up (qm_up (qm_up (qm_up h.2.1 36 v7.toInt.toNat (-1)) 28 6 v11) 37 y.toInt.toNat v14) 28 5 v19, h.2.2.1, h.2.2.2))) rfl ?_
  refine hp_ias rfl (hH.1 11 (0, 30) rfl) (fun ia_19 ib_19 => ?_)
  refine qm_Rp.go 1 (c' := (8, [.ref 6, .int b, .int 0, .int (-1), .int (-1), .int (-1)], [.ref 6], (h.1, qm_up (qm_up (qm_up (qm_up (qm_up h.2.1 36 v7.toInt.toNat (-1)) 28 6 v11) 37 y.toInt.toNat v14) 28 5 v19) 11 b.toInt.toNat 0, h.2.2.1, h.2.2.2))) rfl ?_
  refine hp_getr rfl (hH.1 6 (6, 9) rfl) rfl (hH.2 6 6 (some 12) rfl) ?_
  refine qm_Rp.go 2 (c' := (13, [.ref 6, .int b, .int 0, .int (-1), .int (-1), .int (-1)], [.int (-1), .int b, .ref 12], (h.1, qm_up (qm_up (qm_up (qm_up (qm_up h.2.1 36 v7.toInt.toNat (-1)) 28 6 v11) 37 y.toInt.toNat v14) 28 5 v19) 11 b.toInt.toNat 0, h.2.2.1, h.2.2.2))) rfl ?_
  refine hp_ias rfl (hH.1 12 (0, 30) rfl) (fun ia_20 ib_20 => ?_)
  refine qm_Rp.go 1 (c' := (15, [.ref 6, .int b, .int 0, .int (-1), .int (-1), .int (-1)], [.ref 6], (h.1, qm_up (qm_up (qm_up (qm_up (qm_up (qm_up h.2.1 36 v7.toInt.toNat (-1)) 28 6 v11) 37 y.toInt.toNat v14) 28 5 v19) 11 b.toInt.toNat 0) 12 b.toInt.toNat (-1), h.2.2.1, h.2.2.2))) rfl ?_
  refine hp_getr rfl (hH.1 6 (6, 9) rfl) rfl (hH.2 6 7 (some 13) rfl) ?_
  refine qm_Rp.go 2 (c' := (21, [.ref 6, .int b, .int 0, .int (-1), .int (-1), .int (-1)], [.int (-1), .int b, .ref 13], (h.1, qm_up (qm_up (qm_up (qm_up (qm_up (qm_up h.2.1 36 v7.toInt.toNat (-1)) 28 6 v11) 37 y.toInt.toNat v14) 28 5 v19) 11 b.toInt.toNat 0) 12 b.toInt.toNat (-1), h.2.2.1, h.2.2.2))) rfl ?_
  refine hp_ias rfl (hH.1 13 (0, 30) rfl) (fun ia_21 ib_21 => ?_)
  refine qm_Rp.go 1 (c' := (23, [.ref 6, .int b, .int 0, .int (-1), .int (-1), .int (-1)], [.ref 6], (h.1, qm_up (qm_up (qm_up (qm_up (qm_up (qm_up (qm_up h.2.1 36 v7.toInt.toNat (-1)) 28 6 v11) 37 y.toInt.toNat v14) 28 5 v19) 11 b.toInt.toNat 0) 12 b.toInt.toNat (-1)) 13 b.toInt.toNat (-1), h.2.2.1, h.2.2.2))) rfl ?_
  refine hp_getr rfl (hH.1 6 (6, 9) rfl) rfl (hH.2 6 8 (some 14) rfl) ?_
  refine qm_Rp.go 2 (c' := (29, [.ref 6, .int b, .int 0, .int (-1), .int (-1), .int (-1)], [.int (-1), .int b, .ref 14], (h.1, qm_up (qm_up (qm_up (qm_up (qm_up (qm_up (qm_up h.2.1 36 v7.toInt.toNat (-1)) 28 6 v11) 37 y.toInt.toNat v14) 28 5 v19) 11 b.toInt.toNat 0) 12 b.toInt.toNat (-1)) 13 b.toInt.toNat (-1), h.2.2.1, h.2.2.2))) rfl ?_
  refine hp_ias rfl (hH.1 14 (0, 30) rfl) (fun ia_22 ib_22 => ?_)
  refine qm_Rp.go 0 (c' := (30, [.ref 6, .int b, .int 0, .int (-1), .int (-1), .int (-1)], [], (h.1, qm_up (qm_up (qm_up (qm_up (qm_up (qm_up (qm_up (qm_up h.2.1 36 v7.toInt.toNat (-1)) 28 6 v11) 37 y.toInt.toNat v14) 28 5 v19) 11 b.toInt.toNat 0) 12 b.toInt.toNat (-1)) 13 b.toInt.toNat (-1)) 14 b.toInt.toNat (-1), h.2.2.1, h.2.2.2))) rfl ?_
  refine qm_Rp.rt (v := none) (h' := (h.1, qm_up (qm_up (qm_up (qm_up (qm_up (qm_up (qm_up (qm_up h.2.1 36 v7.toInt.toNat (-1)) 28 6 v11) 37 y.toInt.toNat v14) 28 5 v19) 11 b.toInt.toNat 0) 12 b.toInt.toNat (-1)) 13 b.toInt.toNat (-1)) 14 b.toInt.toNat (-1), h.2.2.1, h.2.2.2)) rfl ?_
  refine qm_Rp.go 0 (c' := (9, [.ref 6, .int b], [], (h.1, qm_up (qm_up (qm_up (qm_up (qm_up (qm_up (qm_up (qm_up h.2.1 36 v7.toInt.toNat (-1)) 28 6 v11) 37 y.toInt.toNat v14) 28 5 v19) 11 b.toInt.toNat 0) 12 b.toInt.toNat (-1)) 13 b.toInt.toNat (-1)) 14 b.toInt.toNat (-1), h.2.2.1, h.2.2.2))) rfl ?_
  refine qm_Rp.rt (v := none) (h' := (h.1, qm_up (qm_up (qm_up (qm_up (qm_up (qm_up (qm_up (qm_up h.2.1 36 v7.toInt.toNat (-1)) 28 6 v11) 37 y.toInt.toNat v14) 28 5 v19) 11 b.toInt.toNat 0) 12 b.toInt.toNat (-1)) 13 b.toInt.toNat (-1)) 14 b.toInt.toNat (-1), h.2.2.1, h.2.2.2)) rfl ?_
  refine qm_Rp.go 0 (c' := (64, [.ref 28, .int b, .int y, .int x], [], (h.1, qm_up (qm_up (qm_up (qm_up (qm_up (qm_up (qm_up (qm_up h.2.1 36 v7.toInt.toNat (-1)) 28 6 v11) 37 y.toInt.toNat v14) 28 5 v19) 11 b.toInt.toNat 0) 12 b.toInt.toNat (-1)) 13 b.toInt.toNat (-1)) 14 b.toInt.toNat (-1), h.2.2.1, h.2.2.2))) rfl ?_
  refine qm_Rp.rt (v := none) (h' := (h.1, qm_up (qm_up (qm_up (qm_up (qm_up (qm_up (qm_up (qm_up h.2.1 36 v7.toInt.toNat (-1)) 28 6 v11) 37 y.toInt.toNat v14) 28 5 v19) 11 b.toInt.toNat 0) 12 b.toInt.toNat (-1)) 13 b.toInt.toNat (-1)) 14 b.toInt.toNat (-1), h.2.2.1, h.2.2.2)) rfl ?_
  exact k (qm_up (qm_up (qm_up (qm_up (qm_up (qm_up (qm_up (qm_up h.2.1 36 v7.toInt.toNat (-1)) 28 6 v11) 37 y.toInt.toNat v14) 28 5 v19) 11 b.toInt.toNat 0) 12 b.toInt.toNat (-1)) 13 b.toInt.toNat (-1)) 14 b.toInt.toNat (-1)) v19 v11 (fun o ho i => ((hk_mod ho rfl).trans ((hk_mod ho rfl).trans ((hk_mod ho rfl).trans ((hk_mod ho rfl).trans ((hk_mod ho rfl).trans ((hk_mod ho rfl).trans ((hk_mod ho rfl).trans ((hk_mod ho rfl).trans rfl))))))))) (fun i hi => ((hk_ot rfl).trans ((hk_ot rfl).trans ((hk_ot rfl).trans ((hk_ot rfl).trans ((hk_neq (fun z => by subst z; cases hi)).trans ((hk_ot rfl).trans ((hk_neq (fun z => by subst z; cases hi)).trans ((hk_ot rfl).trans rfl))))))))) (show (qm_up (qm_up (qm_up (qm_up (qm_up (qm_up (qm_up (qm_up h.2.1 36 v7.toInt.toNat (-1)) 28 6 v11) 37 y.toInt.toNat v14) 28 5 v19) 11 b.toInt.toNat 0) 12 b.toInt.toNat (-1)) 13 b.toInt.toNat (-1)) 14 b.toInt.toNat (-1)) 28 5 = _ from ((hk_ot rfl).trans ((hk_ot rfl).trans ((hk_ot rfl).trans ((hk_ot rfl).trans (hk_same)))))) (show (qm_up (qm_up (qm_up (qm_up (qm_up (qm_up (qm_up (qm_up h.2.1 36 v7.toInt.toNat (-1)) 28 6 v11) 37 y.toInt.toNat v14) 28 5 v19) 11 b.toInt.toNat 0) 12 b.toInt.toNat (-1)) 13 b.toInt.toNat (-1)) 14 b.toInt.toNat (-1)) 28 6 = _ from ((hk_ot rfl).trans ((hk_ot rfl).trans ((hk_ot rfl).trans ((hk_ot rfl).trans ((hk_neq (by decide)).trans ((hk_ot rfl).trans (hk_same)))))))) (by rw [e_v19, e_v18, e_v10, e_v17, e_v16]) (by rw [e_v11, e_v10]) ((pI_sk rfl).trans ((pI_sk rfl).trans ((pI_sk rfl).trans (pI_up.trans (congrArg (fun f => fu_up f (b.toInt.toNat) (Int32.toInt 0)) ((pI_sk rfl).trans ((pI_sk rfl).trans ((pI_sk rfl).trans (pI_sk rfl))))))))) ((pI_sk rfl).trans ((pI_sk rfl).trans (pI_up.trans (congrArg (fun f => fu_up f (b.toInt.toNat) (Int32.toInt (-1))) ((pI_sk rfl).trans ((pI_sk rfl).trans ((pI_sk rfl).trans ((pI_sk rfl).trans (pI_sk rfl))))))))) ((pI_sk rfl).trans (pI_up.trans (congrArg (fun f => fu_up f (b.toInt.toNat) (Int32.toInt (-1))) ((pI_sk rfl).trans ((pI_sk rfl).trans ((pI_sk rfl).trans ((pI_sk rfl).trans ((pI_sk rfl).trans (pI_sk rfl))))))))) (pI_up.trans (congrArg (fun f => fu_up f (b.toInt.toNat) (Int32.toInt (-1))) ((pI_sk rfl).trans ((pI_sk rfl).trans ((pI_sk rfl).trans ((pI_sk rfl).trans ((pI_sk rfl).trans ((pI_sk rfl).trans (pI_sk rfl))))))))) (((pI_sk rfl).trans ((pI_sk rfl).trans ((pI_sk rfl).trans ((pI_sk rfl).trans ((pI_sk rfl).trans ((pI_sk rfl).trans ((pI_sk rfl).trans pI_up))))))).trans (by rw [show v7.toInt.toNat = (16 * y.toInt + 4 * x.toInt + t.toInt).toNat by omega])) (((pI_sk rfl).trans ((pI_sk rfl).trans ((pI_sk rfl).trans ((pI_sk rfl).trans ((pI_sk rfl).trans (pI_up.trans (congrArg (fun f => fu_up f (y.toInt.toNat) (Int32.toInt v14)) ((pI_sk rfl).trans (pI_sk rfl))))))))).trans (by rw [show (v14).toInt = pI h.2.1 37 y.toInt.toNat + -w.toInt by rw [e_v14, e_v10, ← q_v12]; rfl]))
theorem px_cyp {X : Option (Nat × (Nat → Int32))} {Z : Option Value → qm_H → Prop} {h : qm_H} {fu : Nat} (hH : hk_H h) {b g v : Int32} (hg : 0 ≤ g.toInt ∧ g.toInt ≤ 3) (q_v : h.2.1 17 g.toInt.toNat = v) (hv : 0 ≤ v.toInt ∧ v.toInt ≤ 4) (k : ∀ (I : Nat → Nat → Int32), (∀ o, [11, 12, 13, 14, 16, 17].contains o = false → ∀ i, I o i = h.2.1 o i) → pI I 11 = fu_up (pI h.2.1 11) (b.toInt.toNat) (2 : Int32).toInt → pI I 12 = fu_up (pI h.2.1 12) (b.toInt.toNat) g.toInt → pI I 13 = fu_up (pI h.2.1 13) (b.toInt.toNat) (-1 : Int32).toInt → pI I 14 = fu_up (pI h.2.1 14) (b.toInt.toNat) v.toInt → pI I 16 = fu_up (pI h.2.1 16) (4 * g.toInt + v.toInt).toNat b.toInt → pI I 17 = fu_up (pI h.2.1 17) g.toInt.toNat (v.toInt + 1) → Z (some (.int v)) (h.1, I, h.2.2.1, h.2.2.2)) : qm_Rp fu X cd_79 (qm_ent 4 [.ref 15, .int b, .int g] h) Z := by
  refine qm_Rp.go 0 (c' := (0, [.ref 15, .int b, .int g, .float 0], [], h)) rfl ?_
  have kz0 : (0 : Int32).toInt = 0 := rfl
  have kz1 : (1 : Int32).toInt = 1 := rfl
  have kz2 : (2 : Int32).toInt = 2 := rfl
  have kz3 : (3 : Int32).toInt = 3 := rfl
  have kz4 : (4 : Int32).toInt = 4 := rfl
  have kz5 : (5 : Int32).toInt = 5 := rfl
  have kz6 : (6 : Int32).toInt = 6 := rfl
  have kz7 : (7 : Int32).toInt = 7 := rfl
  have kz8 : (8 : Int32).toInt = 8 := rfl
  have kz9 : (9 : Int32).toInt = 9 := rfl
  have kzm1 : ((-1) : Int32).toInt = (-1) := rfl
  have kzm2 : ((-2) : Int32).toInt = (-2) := rfl
  have kzm3 : ((-3) : Int32).toInt = (-3) := rfl
  refine qm_Rp.go 1 (c' := (1, [.ref 15, .int b, .int g, .float 0], [.ref 15], h)) rfl ?_
  refine hp_getr rfl (hH.1 15 (15, 8) rfl) rfl (hH.2 15 2 (some 17) rfl) ?_
  refine qm_Rp.go 1 (c' := (5, [.ref 15, .int b, .int g, .float 0], [.int g, .ref 17], h)) rfl ?_
  refine hp_ial (v := v) rfl (hH.1 17 (0, 4) rfl) q_v (fun ia_0 ib_0 => ?_)
  refine qm_Rp.go 2 (c' := (8, [.ref 15, .int b, .int g, .int v], [.ref 15], h)) rfl ?_
  refine hp_getr rfl (hH.1 15 (15, 8) rfl) rfl (hH.2 15 1 (some 16) rfl) ?_
  refine qm_Rp.go 3 (c' := (14, [.ref 15, .int b, .int g, .int v], [.int (g * 4), .ref 16], h)) rfl ?_
  obtain ⟨v2, q_v2, e_v2⟩ := hk_mul (x := g) (y := 4) (a := g.toInt) (b := 4) rfl rfl (by omega) (by omega)
  rw [q_v2]
  refine qm_Rp.go 2 (c' := (16, [.ref 15, .int b, .int g, .int v], [.int (v2 + v), .ref 16], h)) rfl ?_
  obtain ⟨v3, q_v3, e_v3⟩ := hk_add (x := v2) (y := v) (a := v2.toInt) (b := v.toInt) rfl rfl (by omega) (by omega)
  rw [q_v3]
  refine qm_Rp.go 1 (c' := (17, [.ref 15, .int b, .int g, .int v], [.int b, .int v3, .ref 16], h)) rfl ?_
  refine hp_ias rfl (hH.1 16 (0, 16) rfl) (fun ia_3 ib_3 => ?_)
  refine qm_Rp.go 1 (c' := (19, [.ref 15, .int b, .int g, .int v], [.ref 15], (h.1, qm_up h.2.1 16 v3.toInt.toNat b, h.2.2.1, h.2.2.2))) rfl ?_
  refine hp_getr rfl (hH.1 15 (15, 8) rfl) rfl (hH.2 15 2 (some 17) rfl) ?_
  refine qm_Rp.go 2 (c' := (24, [.ref 15, .int b, .int g, .int v], [.int g, .ref 17, .int g, .ref 17], (h.1, qm_up h.2.1 16 v3.toInt.toNat b, h.2.2.1, h.2.2.2))) rfl ?_
  refine hp_ial (v := v) rfl (hH.1 17 (0, 4) rfl) (show (qm_up h.2.1 16 v3.toInt.toNat b) 17 g.toInt.toNat = _ from ((hk_ot rfl).trans q_v)) (fun ia_4 ib_4 => ?_)
  refine qm_Rp.go 2 (c' := (27, [.ref 15, .int b, .int g, .int v], [.int (v + 1), .int g, .ref 17], (h.1, qm_up h.2.1 16 v3.toInt.toNat b, h.2.2.1, h.2.2.2))) rfl ?_
  obtain ⟨v6, q_v6, e_v6⟩ := hk_add (x := v) (y := 1) (a := v.toInt) (b := 1) rfl rfl (by omega) (by omega)
  rw [q_v6]
  refine hp_ias rfl (hH.1 17 (0, 4) rfl) (fun ia_6 ib_6 => ?_)
  refine qm_Rp.go 1 (c' := (29, [.ref 15, .int b, .int g, .int v], [.ref 15], (h.1, qm_up (qm_up h.2.1 16 v3.toInt.toNat b) 17 g.toInt.toNat v6, h.2.2.1, h.2.2.2))) rfl ?_
  refine hp_getr rfl (hH.1 15 (15, 8) rfl) rfl (hH.2 15 0 (some 6) rfl) ?_
  refine qm_Rp.go 5 (c' := (37, [.ref 15, .int b, .int g, .int v], [.int v, .int (-1), .int g, .int 2, .int b, .ref 6], (h.1, qm_up (qm_up h.2.1 16 v3.toInt.toNat b) 17 g.toInt.toNat v6, h.2.2.1, h.2.2.2))) rfl ?_
  refine hp_inv (o := 6) (r := []) (as := [.ref 6, .int b, .int 2, .int g, .int (-1), .int v]) rfl rfl (hH.1 6 (6, 9) rfl) rfl rfl rfl ?_
  refine qm_Rp.go 1 (c' := (1, [.ref 6, .int b, .int 2, .int g, .int (-1), .int v], [.ref 6], (h.1, qm_up (qm_up h.2.1 16 v3.toInt.toNat b) 17 g.toInt.toNat v6, h.2.2.1, h.2.2.2))) rfl ?_
  refine hp_getr rfl (hH.1 6 (6, 9) rfl) rfl (hH.2 6 5 (some 11) rfl) ?_
  refine qm_Rp.go 2 (c' := (6, [.ref 6, .int b, .int 2, .int g, .int (-1), .int v], [.int 2, .int b, .ref 11], (h.1, qm_up (qm_up h.2.1 16 v3.toInt.toNat b) 17 g.toInt.toNat v6, h.2.2.1, h.2.2.2))) rfl ?_
  refine hp_ias rfl (hH.1 11 (0, 30) rfl) (fun ia_7 ib_7 => ?_)
  refine qm_Rp.go 1 (c' := (8, [.ref 6, .int b, .int 2, .int g, .int (-1), .int v], [.ref 6], (h.1, qm_up (qm_up (qm_up h.2.1 16 v3.toInt.toNat b) 17 g.toInt.toNat v6) 11 b.toInt.toNat 2, h.2.2.1, h.2.2.2))) rfl ?_
  refine hp_getr rfl (hH.1 6 (6, 9) rfl) rfl (hH.2 6 6 (some 12) rfl) ?_
  refine qm_Rp.go 2 (c' := (13, [.ref 6, .int b, .int 2, .int g, .int (-1), .int v], [.int g, .int b, .ref 12], (h.1, qm_up (qm_up (qm_up h.2.1 16 v3.toInt.toNat b) 17 g.toInt.toNat v6) 11 b.toInt.toNat 2, h.2.2.1, h.2.2.2))) rfl ?_
  refine hp_ias rfl (hH.1 12 (0, 30) rfl) (fun ia_8 ib_8 => ?_)
  refine qm_Rp.go 1 (c' := (15, [.ref 6, .int b, .int 2, .int g, .int (-1), .int v], [.ref 6], (h.1, qm_up (qm_up (qm_up (qm_up h.2.1 16 v3.toInt.toNat b) 17 g.toInt.toNat v6) 11 b.toInt.toNat 2) 12 b.toInt.toNat g, h.2.2.1, h.2.2.2))) rfl ?_
  refine hp_getr rfl (hH.1 6 (6, 9) rfl) rfl (hH.2 6 7 (some 13) rfl) ?_
  refine qm_Rp.go 2 (c' := (21, [.ref 6, .int b, .int 2, .int g, .int (-1), .int v], [.int (-1), .int b, .ref 13], (h.1, qm_up (qm_up (qm_up (qm_up h.2.1 16 v3.toInt.toNat b) 17 g.toInt.toNat v6) 11 b.toInt.toNat 2) 12 b.toInt.toNat g, h.2.2.1, h.2.2.2))) rfl ?_
  refine hp_ias rfl (hH.1 13 (0, 30) rfl) (fun ia_9 ib_9 => ?_)
  refine qm_Rp.go 1 (c' := (23, [.ref 6, .int b, .int 2, .int g, .int (-1), .int v], [.ref 6], (h.1, qm_up (qm_up (qm_up (qm_up (qm_up h.2.1 16 v3.toInt.toNat b) 17 g.toInt.toNat v6) 11 b.toInt.toNat 2) 12 b.toInt.toNat g) 13 b.toInt.toNat (-1), h.2.2.1, h.2.2.2))) rfl ?_
  refine hp_getr rfl (hH.1 6 (6, 9) rfl) rfl (hH.2 6 8 (some 14) rfl) ?_
  refine qm_Rp.go 2 (c' := (29, [.ref 6, .int b, .int 2, .int g, .int (-1), .int v], [.int v, .int b, .ref 14], (h.1, qm_up (qm_up (qm_up (qm_up (qm_up h.2.1 16 v3.toInt.toNat b) 17 g.toInt.toNat v6) 11 b.toInt.toNat 2) 12 b.toInt.toNat g) 13 b.toInt.toNat (-1), h.2.2.1, h.2.2.2))) rfl ?_
  refine hp_ias rfl (hH.1 14 (0, 30) rfl) (fun ia_10 ib_10 => ?_)
  refine qm_Rp.go 0 (c' := (30, [.ref 6, .int b, .int 2, .int g, .int (-1), .int v], [], (h.1, qm_up (qm_up (qm_up (qm_up (qm_up (qm_up h.2.1 16 v3.toInt.toNat b) 17 g.toInt.toNat v6) 11 b.toInt.toNat 2) 12 b.toInt.toNat g) 13 b.toInt.toNat (-1)) 14 b.toInt.toNat v, h.2.2.1, h.2.2.2))) rfl ?_
  refine qm_Rp.rt (v := none) (h' := (h.1, qm_up (qm_up (qm_up (qm_up (qm_up (qm_up h.2.1 16 v3.toInt.toNat b) 17 g.toInt.toNat v6) 11 b.toInt.toNat 2) 12 b.toInt.toNat g) 13 b.toInt.toNat (-1)) 14 b.toInt.toNat v, h.2.2.1, h.2.2.2)) rfl ?_
  refine qm_Rp.go 1 (c' := (41, [.ref 15, .int b, .int g, .int v], [.int v], (h.1, qm_up (qm_up (qm_up (qm_up (qm_up (qm_up h.2.1 16 v3.toInt.toNat b) 17 g.toInt.toNat v6) 11 b.toInt.toNat 2) 12 b.toInt.toNat g) 13 b.toInt.toNat (-1)) 14 b.toInt.toNat v, h.2.2.1, h.2.2.2))) rfl ?_
  refine qm_Rp.rt (v := (some (.int v))) (h' := (h.1, qm_up (qm_up (qm_up (qm_up (qm_up (qm_up h.2.1 16 v3.toInt.toNat b) 17 g.toInt.toNat v6) 11 b.toInt.toNat 2) 12 b.toInt.toNat g) 13 b.toInt.toNat (-1)) 14 b.toInt.toNat v, h.2.2.1, h.2.2.2)) rfl ?_
  exact k (qm_up (qm_up (qm_up (qm_up (qm_up (qm_up h.2.1 16 v3.toInt.toNat b) 17 g.toInt.toNat v6) 11 b.toInt.toNat 2) 12 b.toInt.toNat g) 13 b.toInt.toNat (-1)) 14 b.toInt.toNat v) (fun o ho i => ((hk_mod ho rfl).trans ((hk_mod ho rfl).trans ((hk_mod ho rfl).trans ((hk_mod ho rfl).trans ((hk_mod ho rfl).trans ((hk_mod ho rfl).trans rfl))))))) ((pI_sk rfl).trans ((pI_sk rfl).trans ((pI_sk rfl).trans (pI_up.trans (congrArg (fun f => fu_up f (b.toInt.toNat) (Int32.toInt 2)) ((pI_sk rfl).trans (pI_sk rfl))))))) ((pI_sk rfl).trans ((pI_sk rfl).trans (pI_up.trans (congrArg (fun f => fu_up f (b.toInt.toNat) (Int32.toInt g)) ((pI_sk rfl).trans ((pI_sk rfl).trans (pI_sk rfl))))))) ((pI_sk rfl).trans (pI_up.trans (congrArg (fun f => fu_up f (b.toInt.toNat) (Int32.toInt (-1))) ((pI_sk rfl).trans ((pI_sk rfl).trans ((pI_sk rfl).trans (pI_sk rfl))))))) (pI_up.trans (congrArg (fun f => fu_up f (b.toInt.toNat) (Int32.toInt v)) ((pI_sk rfl).trans ((pI_sk rfl).trans ((pI_sk rfl).trans ((pI_sk rfl).trans (pI_sk rfl))))))) (((pI_sk rfl).trans ((pI_sk rfl).trans ((pI_sk rfl).trans ((pI_sk rfl).trans ((pI_sk rfl).trans pI_up))))).trans (by rw [show v3.toInt.toNat = (4 * g.toInt + v.toInt).toNat by omega])) (((pI_sk rfl).trans ((pI_sk rfl).trans ((pI_sk rfl).trans ((pI_sk rfl).trans (pI_up.trans (congrArg (fun f => fu_up f (g.toInt.toNat) (Int32.toInt v6)) (pI_sk rfl))))))).trans (by rw [show (v6).toInt = v.toInt + 1 by omega]))
theorem px_cth {X : Option (Nat × (Nat → Int32))} {Z : Option Value → qm_H → Prop} {h : qm_H} {fu : Nat} (hH : hk_H h) {b g v : Int32} (hg : 0 ≤ g.toInt ∧ g.toInt ≤ 3) (q_v : h.2.1 17 g.toInt.toNat = v) (hv : 1 ≤ v.toInt ∧ v.toInt ≤ 4) (q_b : h.2.1 16 (4 * g.toInt + v.toInt - 1).toNat = b) (hbb : 0 ≤ b.toInt ∧ b.toInt ≤ 29) (k : ∀ (I : Nat → Nat → Int32), (∀ o, [11, 12, 13, 14, 17].contains o = false → ∀ i, I o i = h.2.1 o i) → pI I 11 = fu_up (pI h.2.1 11) (b.toInt.toNat) (0 : Int32).toInt → pI I 12 = fu_up (pI h.2.1 12) (b.toInt.toNat) (-1 : Int32).toInt → pI I 13 = fu_up (pI h.2.1 13) (b.toInt.toNat) (-1 : Int32).toInt → pI I 14 = fu_up (pI h.2.1 14) (b.toInt.toNat) (-1 : Int32).toInt → pI I 17 = fu_up (pI h.2.1 17) g.toInt.toNat (v.toInt - 1) → Z none (h.1, I, h.2.2.1, h.2.2.2)) : qm_Rp fu X cd_84 (qm_ent 3 [.ref 15, .int g] h) Z := by
  refine qm_Rp.go 0 (c' := (0, [.ref 15, .int g, .float 0], [], h)) rfl ?_
  have kz0 : (0 : Int32).toInt = 0 := rfl
  have kz1 : (1 : Int32).toInt = 1 := rfl
  have kz2 : (2 : Int32).toInt = 2 := rfl
  have kz3 : (3 : Int32).toInt = 3 := rfl
  have kz4 : (4 : Int32).toInt = 4 := rfl
  have kz5 : (5 : Int32).toInt = 5 := rfl
  have kz6 : (6 : Int32).toInt = 6 := rfl
  have kz7 : (7 : Int32).toInt = 7 := rfl
  have kz8 : (8 : Int32).toInt = 8 := rfl
  have kz9 : (9 : Int32).toInt = 9 := rfl
  have kzm1 : ((-1) : Int32).toInt = (-1) := rfl
  have kzm2 : ((-2) : Int32).toInt = (-2) := rfl
  have kzm3 : ((-3) : Int32).toInt = (-3) := rfl
  refine qm_Rp.go 2 (c' := (2, [.ref 15, .int g, .float 0], [.int g, .ref 15], h)) rfl ?_
  refine hp_inv (o := 15) (r := []) (as := [.ref 15, .int g]) rfl rfl (hH.1 15 (15, 8) rfl) rfl rfl rfl ?_
  refine qm_Rp.go 1 (c' := (1, [.ref 15, .int g], [.ref 15], h)) rfl ?_
  refine hp_getr rfl (hH.1 15 (15, 8) rfl) rfl (hH.2 15 2 (some 17) rfl) ?_
  refine qm_Rp.go 1 (c' := (5, [.ref 15, .int g], [.int g, .ref 17], h)) rfl ?_
  refine hp_ial (v := v) rfl (hH.1 17 (0, 4) rfl) q_v (fun ia_0 ib_0 => ?_)
  refine qm_Rp.go 0 (c' := (6, [.ref 15, .int g], [.int v], h)) rfl ?_
  refine hp_zne (ix := v.toInt) rfl rfl (fun z2 => ?_) (fun z2 => by exfalso; omega)
  refine qm_Rp.go 1 (c' := (14, [.ref 15, .int g], [.ref 15], h)) rfl ?_
  refine hp_getr rfl (hH.1 15 (15, 8) rfl) rfl (hH.2 15 1 (some 16) rfl) ?_
  refine qm_Rp.go 3 (c' := (20, [.ref 15, .int g], [.int (g * 4), .ref 16], h)) rfl ?_
  obtain ⟨v3, q_v3, e_v3⟩ := hk_mul (x := g) (y := 4) (a := g.toInt) (b := 4) rfl rfl (by omega) (by omega)
  rw [q_v3]
  refine qm_Rp.go 1 (c' := (21, [.ref 15, .int g], [.ref 15, .int v3, .ref 16], h)) rfl ?_
  refine hp_getr rfl (hH.1 15 (15, 8) rfl) rfl (hH.2 15 2 (some 17) rfl) ?_
  refine qm_Rp.go 1 (c' := (25, [.ref 15, .int g], [.int g, .ref 17, .int v3, .ref 16], h)) rfl ?_
  refine hp_ial (v := v) rfl (hH.1 17 (0, 4) rfl) q_v (fun ia_3 ib_3 => ?_)
  refine qm_Rp.go 1 (c' := (27, [.ref 15, .int g], [.int (v3 + v), .ref 16], h)) rfl ?_
  obtain ⟨v5, q_v5, e_v5⟩ := hk_add (x := v3) (y := v) (a := v3.toInt) (b := v.toInt) rfl rfl (by omega) (by omega)
  rw [q_v5]
  refine qm_Rp.go 2 (c' := (29, [.ref 15, .int g], [.int (v5 - 1), .ref 16], h)) rfl ?_
  obtain ⟨v6, q_v6, e_v6⟩ := hk_sub (x := v5) (y := 1) (a := v5.toInt) (b := 1) rfl rfl (by omega) (by omega)
  rw [q_v6]
  have q_top : h.2.1 16 v6.toInt.toNat = b := by rw [show v6.toInt.toNat = (4 * g.toInt + v.toInt - 1).toNat by omega]; exact q_b
  refine hp_ial (v := b) rfl (hH.1 16 (0, 16) rfl) q_top (fun ia_6 ib_6 => ?_)
  refine qm_Rp.go 0 (c' := (30, [.ref 15, .int g], [.int b], h)) rfl ?_
  refine qm_Rp.rt (v := (some (.int b))) (h' := h) rfl ?_
  refine qm_Rp.go 3 (c' := (8, [.ref 15, .int g, .int b], [.int (-1), .int b], h)) rfl ?_
  refine hp_ceq (ix := b.toInt) (iy := (-1)) rfl rfl rfl (fun z8 => by exfalso; omega) (fun z8 => ?_)
  refine qm_Rp.go 1 (c' := (12, [.ref 15, .int g, .int b], [.ref 15], h)) rfl ?_
  refine hp_getr rfl (hH.1 15 (15, 8) rfl) rfl (hH.2 15 2 (some 17) rfl) ?_
  refine qm_Rp.go 2 (c' := (17, [.ref 15, .int g, .int b], [.int g, .ref 17, .int g, .ref 17], h)) rfl ?_
  refine hp_ial (v := v) rfl (hH.1 17 (0, 4) rfl) q_v (fun ia_8 ib_8 => ?_)
  refine qm_Rp.go 2 (c' := (20, [.ref 15, .int g, .int b], [.int (v - 1), .int g, .ref 17], h)) rfl ?_
  obtain ⟨v10, q_v10, e_v10⟩ := hk_sub (x := v) (y := 1) (a := v.toInt) (b := 1) rfl rfl (by omega) (by omega)
  rw [q_v10]
  refine hp_ias rfl (hH.1 17 (0, 4) rfl) (fun ia_10 ib_10 => ?_)
  refine qm_Rp.go 1 (c' := (22, [.ref 15, .int g, .int b], [.ref 15], (h.1, qm_up h.2.1 17 g.toInt.toNat v10, h.2.2.1, h.2.2.2))) rfl ?_
  refine hp_getr rfl (hH.1 15 (15, 8) rfl) rfl (hH.2 15 0 (some 6) rfl) ?_
  refine qm_Rp.go 1 (c' := (26, [.ref 15, .int g, .int b], [.int b, .ref 6], (h.1, qm_up h.2.1 17 g.toInt.toNat v10, h.2.2.1, h.2.2.2))) rfl ?_
  refine hp_inv (o := 6) (r := []) (as := [.ref 6, .int b]) rfl rfl (hH.1 6 (6, 9) rfl) rfl rfl rfl ?_
  refine qm_Rp.go 6 (c' := (6, [.ref 6, .int b], [.int (-1), .int (-1), .int (-1), .int 0, .int b, .ref 6], (h.1, qm_up h.2.1 17 g.toInt.toNat v10, h.2.2.1, h.2.2.2))) rfl ?_
  refine hp_inv (o := 6) (r := []) (as := [.ref 6, .int b, .int 0, .int (-1), .int (-1), .int (-1)]) rfl rfl (hH.1 6 (6, 9) rfl) rfl rfl rfl ?_
  refine qm_Rp.go 1 (c' := (1, [.ref 6, .int b, .int 0, .int (-1), .int (-1), .int (-1)], [.ref 6], (h.1, qm_up h.2.1 17 g.toInt.toNat v10, h.2.2.1, h.2.2.2))) rfl ?_
  refine hp_getr rfl (hH.1 6 (6, 9) rfl) rfl (hH.2 6 5 (some 11) rfl) ?_
  refine qm_Rp.go 2 (c' := (6, [.ref 6, .int b, .int 0, .int (-1), .int (-1), .int (-1)], [.int 0, .int b, .ref 11], (h.1, qm_up h.2.1 17 g.toInt.toNat v10, h.2.2.1, h.2.2.2))) rfl ?_
  refine hp_ias rfl (hH.1 11 (0, 30) rfl) (fun ia_11 ib_11 => ?_)
  refine qm_Rp.go 1 (c' := (8, [.ref 6, .int b, .int 0, .int (-1), .int (-1), .int (-1)], [.ref 6], (h.1, qm_up (qm_up h.2.1 17 g.toInt.toNat v10) 11 b.toInt.toNat 0, h.2.2.1, h.2.2.2))) rfl ?_
  refine hp_getr rfl (hH.1 6 (6, 9) rfl) rfl (hH.2 6 6 (some 12) rfl) ?_
  refine qm_Rp.go 2 (c' := (13, [.ref 6, .int b, .int 0, .int (-1), .int (-1), .int (-1)], [.int (-1), .int b, .ref 12], (h.1, qm_up (qm_up h.2.1 17 g.toInt.toNat v10) 11 b.toInt.toNat 0, h.2.2.1, h.2.2.2))) rfl ?_
  refine hp_ias rfl (hH.1 12 (0, 30) rfl) (fun ia_12 ib_12 => ?_)
  refine qm_Rp.go 1 (c' := (15, [.ref 6, .int b, .int 0, .int (-1), .int (-1), .int (-1)], [.ref 6], (h.1, qm_up (qm_up (qm_up h.2.1 17 g.toInt.toNat v10) 11 b.toInt.toNat 0) 12 b.toInt.toNat (-1), h.2.2.1, h.2.2.2))) rfl ?_
  refine hp_getr rfl (hH.1 6 (6, 9) rfl) rfl (hH.2 6 7 (some 13) rfl) ?_
  refine qm_Rp.go 2 (c' := (21, [.ref 6, .int b, .int 0, .int (-1), .int (-1), .int (-1)], [.int (-1), .int b, .ref 13], (h.1, qm_up (qm_up (qm_up h.2.1 17 g.toInt.toNat v10) 11 b.toInt.toNat 0) 12 b.toInt.toNat (-1), h.2.2.1, h.2.2.2))) rfl ?_
  refine hp_ias rfl (hH.1 13 (0, 30) rfl) (fun ia_13 ib_13 => ?_)
  refine qm_Rp.go 1 (c' := (23, [.ref 6, .int b, .int 0, .int (-1), .int (-1), .int (-1)], [.ref 6], (h.1, qm_up (qm_up (qm_up (qm_up h.2.1 17 g.toInt.toNat v10) 11 b.toInt.toNat 0) 12 b.toInt.toNat (-1)) 13 b.toInt.toNat (-1), h.2.2.1, h.2.2.2))) rfl ?_
  refine hp_getr rfl (hH.1 6 (6, 9) rfl) rfl (hH.2 6 8 (some 14) rfl) ?_
  refine qm_Rp.go 2 (c' := (29, [.ref 6, .int b, .int 0, .int (-1), .int (-1), .int (-1)], [.int (-1), .int b, .ref 14], (h.1, qm_up (qm_up (qm_up (qm_up h.2.1 17 g.toInt.toNat v10) 11 b.toInt.toNat 0) 12 b.toInt.toNat (-1)) 13 b.toInt.toNat (-1), h.2.2.1, h.2.2.2))) rfl ?_
  refine hp_ias rfl (hH.1 14 (0, 30) rfl) (fun ia_14 ib_14 => ?_)
  refine qm_Rp.go 0 (c' := (30, [.ref 6, .int b, .int 0, .int (-1), .int (-1), .int (-1)], [], (h.1, qm_up (qm_up (qm_up (qm_up (qm_up h.2.1 17 g.toInt.toNat v10) 11 b.toInt.toNat 0) 12 b.toInt.toNat (-1)) 13 b.toInt.toNat (-1)) 14 b.toInt.toNat (-1), h.2.2.1, h.2.2.2))) rfl ?_
  refine qm_Rp.rt (v := none) (h' := (h.1, qm_up (qm_up (qm_up (qm_up (qm_up h.2.1 17 g.toInt.toNat v10) 11 b.toInt.toNat 0) 12 b.toInt.toNat (-1)) 13 b.toInt.toNat (-1)) 14 b.toInt.toNat (-1), h.2.2.1, h.2.2.2)) rfl ?_
  refine qm_Rp.go 0 (c' := (9, [.ref 6, .int b], [], (h.1, qm_up (qm_up (qm_up (qm_up (qm_up h.2.1 17 g.toInt.toNat v10) 11 b.toInt.toNat 0) 12 b.toInt.toNat (-1)) 13 b.toInt.toNat (-1)) 14 b.toInt.toNat (-1), h.2.2.1, h.2.2.2))) rfl ?_
  refine qm_Rp.rt (v := none) (h' := (h.1, qm_up (qm_up (qm_up (qm_up (qm_up h.2.1 17 g.toInt.toNat v10) 11 b.toInt.toNat 0) 12 b.toInt.toNat (-1)) 13 b.toInt.toNat (-1)) 14 b.toInt.toNat (-1), h.2.2.1, h.2.2.2)) rfl ?_
  refine qm_Rp.go 0 (c' := (29, [.ref 15, .int g, .int b], [], (h.1, qm_up (qm_up (qm_up (qm_up (qm_up h.2.1 17 g.toInt.toNat v10) 11 b.toInt.toNat 0) 12 b.toInt.toNat (-1)) 13 b.toInt.toNat (-1)) 14 b.toInt.toNat (-1), h.2.2.1, h.2.2.2))) rfl ?_
  refine qm_Rp.rt (v := none) (h' := (h.1, qm_up (qm_up (qm_up (qm_up (qm_up h.2.1 17 g.toInt.toNat v10) 11 b.toInt.toNat 0) 12 b.toInt.toNat (-1)) 13 b.toInt.toNat (-1)) 14 b.toInt.toNat (-1), h.2.2.1, h.2.2.2)) rfl ?_
  exact k (qm_up (qm_up (qm_up (qm_up (qm_up h.2.1 17 g.toInt.toNat v10) 11 b.toInt.toNat 0) 12 b.toInt.toNat (-1)) 13 b.toInt.toNat (-1)) 14 b.toInt.toNat (-1)) (fun o ho i => ((hk_mod ho rfl).trans ((hk_mod ho rfl).trans ((hk_mod ho rfl).trans ((hk_mod ho rfl).trans ((hk_mod ho rfl).trans rfl)))))) ((pI_sk rfl).trans ((pI_sk rfl).trans ((pI_sk rfl).trans (pI_up.trans (congrArg (fun f => fu_up f (b.toInt.toNat) (Int32.toInt 0)) (pI_sk rfl)))))) ((pI_sk rfl).trans ((pI_sk rfl).trans (pI_up.trans (congrArg (fun f => fu_up f (b.toInt.toNat) (Int32.toInt (-1))) ((pI_sk rfl).trans (pI_sk rfl)))))) ((pI_sk rfl).trans (pI_up.trans (congrArg (fun f => fu_up f (b.toInt.toNat) (Int32.toInt (-1))) ((pI_sk rfl).trans ((pI_sk rfl).trans (pI_sk rfl)))))) (pI_up.trans (congrArg (fun f => fu_up f (b.toInt.toNat) (Int32.toInt (-1))) ((pI_sk rfl).trans ((pI_sk rfl).trans ((pI_sk rfl).trans (pI_sk rfl)))))) (((pI_sk rfl).trans ((pI_sk rfl).trans ((pI_sk rfl).trans ((pI_sk rfl).trans pI_up)))).trans (by rw [show (v10).toInt = v.toInt - 1 by omega]))
theorem try_inv {n b : Int} {had : Bool} {y x B fr w lift : Int} {ok : Bool} (h : 0 ≤ tryV n b had y x B fr w lift ok) : (0 ≤ b ∧ b < n ∧ 0 ≤ y ∧ y < B ∧ 0 ≤ x ∧ x ≤ 3) ∧ had = true ∧ ¬ fr = -1 ∧ ¬ lift < w ∧ ok = true ∧ tryV n b had y x B fr w lift ok = fr % 4 := by
  by_cases c1 : 0 ≤ b ∧ b < n ∧ 0 ≤ y ∧ y < B ∧ 0 ≤ x ∧ x ≤ 3 ∧ had = true
  · have c2 : 0 ≤ b ∧ b < n ∧ 0 ≤ y ∧ y < B ∧ 0 ≤ x ∧ x ≤ 3 := ⟨c1.1, c1.2.1, c1.2.2.1, c1.2.2.2.1, c1.2.2.2.2.1, c1.2.2.2.2.2.1⟩
    have c3 := c1.2.2.2.2.2.2
    by_cases c4 : fr = -1
    · rw [try_b c2 c3 c4] at h
      omega
    · by_cases c5 : lift < w
      · rw [try_c c2 c3 c4 c5] at h
        omega
      · cases ok with
        | false =>
          rw [try_d c2 c3 c4 c5 rfl] at h
          omega
        | true => exact ⟨c2, c3, c4, c5, rfl, try_e c2 c3 c4 c5 rfl⟩
  · rw [try_a c1] at h
    omega
set_option maxHeartbeats 4000000 in
theorem px_ctry29 {X : Option (Nat × (Nat → Int32))} {Z : Option Value → qm_H → Prop} {h : qm_H} {fu : Nat} (hH : hk_H h) {b y x : Int32} {n : Int32} (q_n : h.2.1 6 0 = n) (hn : 0 ≤ n.toInt ∧ n.toInt ≤ 30) {w wh yb rb tb c yc hi bw : Nat → Int} (eW : pI h.2.1 7 = w) (eH : pI h.2.1 11 = wh) (e12 : pI h.2.1 12 = yb) (e13 : pI h.2.1 13 = rb) (e14 : pI h.2.1 14 = tb) (eC : pI h.2.1 36 = c) (eY : pI h.2.1 16 = yc) (eI : pI h.2.1 17 = hi) (eV : pI h.2.1 37 = bw) (hw : ∀ b, 0 ≤ w b ∧ w b ≤ 40) (hh : ∀ b, 0 ≤ wh b ∧ wh b ≤ 2) (hc : ∀ k, -1 ≤ c k ∧ c k ≤ 29) (hi4 : ∀ x, 0 ≤ hi x ∧ hi x ≤ 4) (hy29 : ∀ k, 0 ≤ yc k ∧ yc k ≤ 29) (hb : ∀ c, c < 5 → 0 ≤ bw c ∧ bw c ≤ 1200) {ls wt cv : Int32} (q_ls : h.2.1 28 5 = ls) (hls : -3600 ≤ ls.toInt ∧ ls.toInt ≤ 3600) (q_wt : h.2.1 28 6 = wt) (hwt : 0 ≤ wt.toInt ∧ wt.toInt ≤ 1200) (q_cv : h.2.1 28 4 = cv) (hT : h.2.2.2 28 2 = some 29) {B l g0 g1 g2 : Int32} (q_B : h.2.1 29 0 = B) (hB : 1 ≤ B.toInt ∧ B.toInt ≤ 5) (q_g0 : h.2.1 29 1 = g0) (q_g1 : h.2.1 29 2 = g1) (q_g2 : h.2.1 29 3 = g2) (q_l : h.2.1 29 4 = l) (k : ∀ r : Int32, r.toInt = tryV n.toInt b.toInt (okb (wh b.toInt.toNat = 0 ∨ (wh b.toInt.toNat = 2 ∧ hi (yb b.toInt.toNat).toNat ≠ 0 ∧ yc (4 * yb b.toInt.toNat + hi (yb b.toInt.toNat).toNat - 1).toNat = b.toInt))) y.toInt x.toInt B.toInt (frV cv y x.toInt c) (w b.toInt.toNat) l.toInt (okb (mayC B.toInt g0.toInt g1.toInt g2.toInt ls.toInt wt.toInt bw y.toInt x.toInt (w b.toInt.toNat))) → Z (some (.int r)) h) : qm_Rp fu X cd_87 (qm_ent 6 [.ref 28, .int b, .int y, .int x] h) Z := by
  refine qm_Rp.go 0 (c' := (0, [.ref 28, .int b, .int y, .int x, .float 0, .float 0], [], h)) rfl ?_
  have kz0 : (0 : Int32).toInt = 0 := rfl
  have kz1 : (1 : Int32).toInt = 1 := rfl
  have kz2 : (2 : Int32).toInt = 2 := rfl
  have kz3 : (3 : Int32).toInt = 3 := rfl
  have kz4 : (4 : Int32).toInt = 4 := rfl
  have kz5 : (5 : Int32).toInt = 5 := rfl
  have kz6 : (6 : Int32).toInt = 6 := rfl
  have kz7 : (7 : Int32).toInt = 7 := rfl
  have kz8 : (8 : Int32).toInt = 8 := rfl
  have kz9 : (9 : Int32).toInt = 9 := rfl
  have kzm1 : ((-1) : Int32).toInt = (-1) := rfl
  have kzm2 : ((-2) : Int32).toInt = (-2) := rfl
  have kzm3 : ((-3) : Int32).toInt = (-3) := rfl
  refine qm_Rp.go 3 (c' := (3, [.ref 28, .int b, .int y, .int x, .float 0, .float 0], [.int x, .int y, .ref 28], h)) rfl ?_
  refine hp_inv (o := 28) (r := []) (as := [.ref 28, .int y, .int x]) rfl rfl (hH.1 28 (9, 8) rfl) rfl rfl rfl ?_
  refine qm_Rp.go 2 (c' := (2, [.ref 28, .int y, .int x], [.int y, .ref 28], h)) rfl ?_
  refine hp_inv (o := 28) (r := []) (as := [.ref 28, .int y]) rfl rfl (hH.1 28 (9, 8) rfl) rfl rfl rfl ?_
  refine qm_Rp.go 1 (c' := (1, [.ref 28, .int y], [.int y], h)) rfl ?_
  refine hp_zlt (ix := y.toInt) rfl rfl (fun z1 => ?_) (fun z1 => ?_)
  · refine qm_Rp.go 1 (c' := (20, [.ref 28, .int y], [.int 0], h)) rfl ?_
    refine qm_Rp.rt (v := (some (.int 0))) (h' := h) rfl ?_
    refine qm_Rp.go 2 (c' := (22, [.ref 28, .int y, .int x], [.int 0], h)) rfl ?_
    refine qm_Rp.rt (v := (some (.int 0))) (h' := h) rfl ?_
    refine qm_Rp.go 2 (c' := (18, [.ref 28, .int b, .int y, .int x, .float 0, .float 0], [.int (-1)], h)) rfl ?_
    refine qm_Rp.rt (v := (some (.int (-1)))) (h' := h) rfl ?_
    exact k (-1) (try_a (fun z => by omega)).symm
  · refine qm_Rp.go 2 (c' := (6, [.ref 28, .int y], [.ref 28, .int y], h)) rfl ?_
    refine hp_getr rfl (hH.1 28 (9, 8) rfl) rfl hT ?_
    refine qm_Rp.go 0 (c' := (9, [.ref 28, .int y], [.ref 29, .int y], h)) rfl ?_
    refine hp_geti (v := B) rfl (hH.1 29 (11, 16) rfl) rfl q_B ?_
    refine qm_Rp.go 0 (c' := (12, [.ref 28, .int y], [.int B, .int y], h)) rfl ?_
    refine hp_cge (ix := y.toInt) (iy := B.toInt) rfl rfl rfl (fun z2 => ?_) (fun z2 => ?_)
    · refine qm_Rp.go 1 (c' := (20, [.ref 28, .int y], [.int 0], h)) rfl ?_
      refine qm_Rp.rt (v := (some (.int 0))) (h' := h) rfl ?_
      refine qm_Rp.go 2 (c' := (22, [.ref 28, .int y, .int x], [.int 0], h)) rfl ?_
      refine qm_Rp.rt (v := (some (.int 0))) (h' := h) rfl ?_
      refine qm_Rp.go 2 (c' := (18, [.ref 28, .int b, .int y, .int x, .float 0, .float 0], [.int (-1)], h)) rfl ?_
      refine qm_Rp.rt (v := (some (.int (-1)))) (h' := h) rfl ?_
      exact k (-1) (try_a (fun z => by omega)).symm
    · refine qm_Rp.go 2 (c' := (20, [.ref 28, .int y], [.int 1], h)) rfl ?_
      refine qm_Rp.rt (v := (some (.int 1))) (h' := h) rfl ?_
      refine qm_Rp.go 2 (c' := (9, [.ref 28, .int y, .int x], [.int x], h)) rfl ?_
      refine hp_zlt (ix := x.toInt) rfl rfl (fun z3 => ?_) (fun z3 => ?_)
      · refine qm_Rp.go 1 (c' := (22, [.ref 28, .int y, .int x], [.int 0], h)) rfl ?_
        refine qm_Rp.rt (v := (some (.int 0))) (h' := h) rfl ?_
        refine qm_Rp.go 2 (c' := (18, [.ref 28, .int b, .int y, .int x, .float 0, .float 0], [.int (-1)], h)) rfl ?_
        refine qm_Rp.rt (v := (some (.int (-1)))) (h' := h) rfl ?_
        exact k (-1) (try_a (fun z => by omega)).symm
      · refine qm_Rp.go 2 (c' := (14, [.ref 28, .int y, .int x], [.int 4, .int x], h)) rfl ?_
        refine hp_cge (ix := x.toInt) (iy := 4) rfl rfl rfl (fun z4 => ?_) (fun z4 => ?_)
        · refine qm_Rp.go 1 (c' := (22, [.ref 28, .int y, .int x], [.int 0], h)) rfl ?_
          refine qm_Rp.rt (v := (some (.int 0))) (h' := h) rfl ?_
          refine qm_Rp.go 2 (c' := (18, [.ref 28, .int b, .int y, .int x, .float 0, .float 0], [.int (-1)], h)) rfl ?_
          refine qm_Rp.rt (v := (some (.int (-1)))) (h' := h) rfl ?_
          exact k (-1) (try_a (fun z => by omega)).symm
        · refine qm_Rp.go 2 (c' := (22, [.ref 28, .int y, .int x], [.int 1], h)) rfl ?_
          refine qm_Rp.rt (v := (some (.int 1))) (h' := h) rfl ?_
          refine qm_Rp.go 3 (c' := (11, [.ref 28, .int b, .int y, .int x, .float 0, .float 0], [.int b, .ref 28], h)) rfl ?_
          refine hp_inv (o := 28) (r := []) (as := [.ref 28, .int b]) rfl rfl (hH.1 28 (9, 8) rfl) rfl rfl rfl ?_
          refine qm_Rp.go 1 (c' := (1, [.ref 28, .int b], [.ref 28], h)) rfl ?_
          refine hp_getr rfl (hH.1 28 (9, 8) rfl) rfl (hH.2 28 0 (some 6) rfl) ?_
          refine qm_Rp.go 1 (c' := (5, [.ref 28, .int b], [.int b, .ref 6], h)) rfl ?_
          refine hp_inv (o := 6) (r := []) (as := [.ref 6, .int b]) rfl rfl (hH.1 6 (6, 9) rfl) rfl rfl rfl ?_
          refine qm_Rp.go 2 (c' := (2, [.ref 6, .int b], [.int b, .ref 6], h)) rfl ?_
          refine hp_inv (o := 6) (r := []) (as := [.ref 6, .int b]) rfl rfl (hH.1 6 (6, 9) rfl) rfl rfl rfl ?_
          refine qm_Rp.go 1 (c' := (1, [.ref 6, .int b], [.int b], h)) rfl ?_
          refine hp_zlt (ix := b.toInt) rfl rfl (fun z5 => ?_) (fun z5 => ?_)
          · refine qm_Rp.go 1 (c' := (17, [.ref 6, .int b], [.int 0], h)) rfl ?_
            refine qm_Rp.rt (v := (some (.int 0))) (h' := h) rfl ?_
            refine qm_Rp.go 2 (c' := (22, [.ref 6, .int b], [.int 0], h)) rfl ?_
            refine qm_Rp.rt (v := (some (.int 0))) (h' := h) rfl ?_
            refine qm_Rp.go 2 (c' := (12, [.ref 28, .int b], [.ref 28], h)) rfl ?_
            refine hp_getr rfl (hH.1 28 (9, 8) rfl) rfl (hH.2 28 0 (some 6) rfl) ?_
            refine qm_Rp.go 1 (c' := (16, [.ref 28, .int b], [.int b, .ref 6], h)) rfl ?_
            refine hp_inv (o := 6) (r := []) (as := [.ref 6, .int b]) rfl rfl (hH.1 6 (6, 9) rfl) rfl rfl rfl ?_
            refine qm_Rp.go 2 (c' := (2, [.ref 6, .int b], [.int b, .ref 6], h)) rfl ?_
            refine hp_inv (o := 6) (r := []) (as := [.ref 6, .int b]) rfl rfl (hH.1 6 (6, 9) rfl) rfl rfl rfl ?_
            refine qm_Rp.go 1 (c' := (1, [.ref 6, .int b], [.int b], h)) rfl ?_
            refine hp_zlt (ix := b.toInt) rfl rfl (fun z6 => ?_) (fun z6 => by exfalso; omega)
            refine qm_Rp.go 1 (c' := (17, [.ref 6, .int b], [.int 0], h)) rfl ?_
            refine qm_Rp.rt (v := (some (.int 0))) (h' := h) rfl ?_
            refine qm_Rp.go 2 (c' := (23, [.ref 6, .int b], [.int 0], h)) rfl ?_
            refine qm_Rp.rt (v := (some (.int 0))) (h' := h) rfl ?_
            refine qm_Rp.go 2 (c' := (47, [.ref 28, .int b], [.int 0], h)) rfl ?_
            refine qm_Rp.rt (v := (some (.int 0))) (h' := h) rfl ?_
            refine qm_Rp.go 0 (c' := (14, [.ref 28, .int b, .int y, .int x, .float 0, .float 0], [.int 0], h)) rfl ?_
            refine qm_Rp.go 2 (c' := (18, [.ref 28, .int b, .int y, .int x, .float 0, .float 0], [.int (-1)], h)) rfl ?_
            refine qm_Rp.rt (v := (some (.int (-1)))) (h' := h) rfl ?_
            exact k (-1) (try_a (fun z => by omega)).symm
          · refine qm_Rp.go 2 (c' := (6, [.ref 6, .int b], [.ref 6, .int b], h)) rfl ?_
            refine hp_geti (v := n) rfl (hH.1 6 (6, 9) rfl) rfl q_n ?_
            refine qm_Rp.go 0 (c' := (9, [.ref 6, .int b], [.int n, .int b], h)) rfl ?_
            refine hp_cge (ix := b.toInt) (iy := n.toInt) rfl rfl rfl (fun z7 => ?_) (fun z7 => ?_)
            · refine qm_Rp.go 1 (c' := (17, [.ref 6, .int b], [.int 0], h)) rfl ?_
              refine qm_Rp.rt (v := (some (.int 0))) (h' := h) rfl ?_
              refine qm_Rp.go 2 (c' := (22, [.ref 6, .int b], [.int 0], h)) rfl ?_
              refine qm_Rp.rt (v := (some (.int 0))) (h' := h) rfl ?_
              refine qm_Rp.go 2 (c' := (12, [.ref 28, .int b], [.ref 28], h)) rfl ?_
              refine hp_getr rfl (hH.1 28 (9, 8) rfl) rfl (hH.2 28 0 (some 6) rfl) ?_
              refine qm_Rp.go 1 (c' := (16, [.ref 28, .int b], [.int b, .ref 6], h)) rfl ?_
              refine hp_inv (o := 6) (r := []) (as := [.ref 6, .int b]) rfl rfl (hH.1 6 (6, 9) rfl) rfl rfl rfl ?_
              refine qm_Rp.go 2 (c' := (2, [.ref 6, .int b], [.int b, .ref 6], h)) rfl ?_
              refine hp_inv (o := 6) (r := []) (as := [.ref 6, .int b]) rfl rfl (hH.1 6 (6, 9) rfl) rfl rfl rfl ?_
              refine qm_Rp.go 1 (c' := (1, [.ref 6, .int b], [.int b], h)) rfl ?_
              refine hp_zlt (ix := b.toInt) rfl rfl (fun z8 => by exfalso; omega) (fun z8 => ?_)
              refine qm_Rp.go 2 (c' := (6, [.ref 6, .int b], [.ref 6, .int b], h)) rfl ?_
              refine hp_geti (v := n) rfl (hH.1 6 (6, 9) rfl) rfl q_n ?_
              refine qm_Rp.go 0 (c' := (9, [.ref 6, .int b], [.int n, .int b], h)) rfl ?_
              refine hp_cge (ix := b.toInt) (iy := n.toInt) rfl rfl rfl (fun z9 => ?_) (fun z9 => by exfalso; omega)
              refine qm_Rp.go 1 (c' := (17, [.ref 6, .int b], [.int 0], h)) rfl ?_
              refine qm_Rp.rt (v := (some (.int 0))) (h' := h) rfl ?_
              refine qm_Rp.go 2 (c' := (23, [.ref 6, .int b], [.int 0], h)) rfl ?_
              refine qm_Rp.rt (v := (some (.int 0))) (h' := h) rfl ?_
              refine qm_Rp.go 2 (c' := (47, [.ref 28, .int b], [.int 0], h)) rfl ?_
              refine qm_Rp.rt (v := (some (.int 0))) (h' := h) rfl ?_
              refine qm_Rp.go 0 (c' := (14, [.ref 28, .int b, .int y, .int x, .float 0, .float 0], [.int 0], h)) rfl ?_
              refine qm_Rp.go 2 (c' := (18, [.ref 28, .int b, .int y, .int x, .float 0, .float 0], [.int (-1)], h)) rfl ?_
              refine qm_Rp.rt (v := (some (.int (-1)))) (h' := h) rfl ?_
              exact k (-1) (try_a (fun z => by omega)).symm
            · refine qm_Rp.go 2 (c' := (17, [.ref 6, .int b], [.int 1], h)) rfl ?_
              refine qm_Rp.rt (v := (some (.int 1))) (h' := h) rfl ?_
              refine qm_Rp.go 2 (c' := (9, [.ref 6, .int b], [.ref 6], h)) rfl ?_
              refine hp_getr rfl (hH.1 6 (6, 9) rfl) rfl (hH.2 6 5 (some 11) rfl) ?_
              refine qm_Rp.go 1 (c' := (13, [.ref 6, .int b], [.int b, .ref 11], h)) rfl ?_
              obtain ⟨v10, q_v10⟩ : ∃ v_, h.2.1 11 b.toInt.toNat = v_ := ⟨_, rfl⟩
              refine hp_ial (v := v10) rfl (hH.1 11 (0, 30) rfl) q_v10 (fun ia_10 ib_10 => ?_)
              refine qm_Rp.go 0 (c' := (14, [.ref 6, .int b], [.int v10], h)) rfl ?_
              have ew : wh b.toInt.toNat = v10.toInt := by rw [← eH]; exact congrArg Int32.toInt q_v10
              have bwh := hh (b.toInt.toNat)
              rw [ew] at bwh
              refine hp_zne (ix := v10.toInt) rfl rfl (fun z12 => ?_) (fun z12 => ?_)
              · refine qm_Rp.go 1 (c' := (22, [.ref 6, .int b], [.int 0], h)) rfl ?_
                refine qm_Rp.rt (v := (some (.int 0))) (h' := h) rfl ?_
                refine qm_Rp.go 2 (c' := (12, [.ref 28, .int b], [.ref 28], h)) rfl ?_
                refine hp_getr rfl (hH.1 28 (9, 8) rfl) rfl (hH.2 28 0 (some 6) rfl) ?_
                refine qm_Rp.go 1 (c' := (16, [.ref 28, .int b], [.int b, .ref 6], h)) rfl ?_
                refine hp_inv (o := 6) (r := []) (as := [.ref 6, .int b]) rfl rfl (hH.1 6 (6, 9) rfl) rfl rfl rfl ?_
                refine qm_Rp.go 2 (c' := (2, [.ref 6, .int b], [.int b, .ref 6], h)) rfl ?_
                refine hp_inv (o := 6) (r := []) (as := [.ref 6, .int b]) rfl rfl (hH.1 6 (6, 9) rfl) rfl rfl rfl ?_
                refine qm_Rp.go 1 (c' := (1, [.ref 6, .int b], [.int b], h)) rfl ?_
                refine hp_zlt (ix := b.toInt) rfl rfl (fun z13 => by exfalso; omega) (fun z13 => ?_)
                refine qm_Rp.go 2 (c' := (6, [.ref 6, .int b], [.ref 6, .int b], h)) rfl ?_
                refine hp_geti (v := n) rfl (hH.1 6 (6, 9) rfl) rfl q_n ?_
                refine qm_Rp.go 0 (c' := (9, [.ref 6, .int b], [.int n, .int b], h)) rfl ?_
                refine hp_cge (ix := b.toInt) (iy := n.toInt) rfl rfl rfl (fun z14 => by exfalso; omega) (fun z14 => ?_)
                refine qm_Rp.go 2 (c' := (17, [.ref 6, .int b], [.int 1], h)) rfl ?_
                refine qm_Rp.rt (v := (some (.int 1))) (h' := h) rfl ?_
                refine qm_Rp.go 2 (c' := (9, [.ref 6, .int b], [.ref 6], h)) rfl ?_
                refine hp_getr rfl (hH.1 6 (6, 9) rfl) rfl (hH.2 6 5 (some 11) rfl) ?_
                refine qm_Rp.go 1 (c' := (13, [.ref 6, .int b], [.int b, .ref 11], h)) rfl ?_
                refine hp_ial (v := v10) rfl (hH.1 11 (0, 30) rfl) q_v10 (fun ia_14 ib_14 => ?_)
                refine qm_Rp.go 0 (c' := (14, [.ref 6, .int b], [.int v10], h)) rfl ?_
                refine qm_Rp.go 1 (c' := (15, [.ref 6, .int b], [.int 1, .int v10], h)) rfl ?_
                refine hp_ceq (ix := v10.toInt) (iy := 1) rfl rfl rfl (fun z16 => ?_) (fun z16 => ?_)
                · refine qm_Rp.go 1 (c' := (23, [.ref 6, .int b], [.int 0], h)) rfl ?_
                  refine qm_Rp.rt (v := (some (.int 0))) (h' := h) rfl ?_
                  refine qm_Rp.go 2 (c' := (47, [.ref 28, .int b], [.int 0], h)) rfl ?_
                  refine qm_Rp.rt (v := (some (.int 0))) (h' := h) rfl ?_
                  refine qm_Rp.go 0 (c' := (14, [.ref 28, .int b, .int y, .int x, .float 0, .float 0], [.int 0], h)) rfl ?_
                  refine qm_Rp.go 2 (c' := (18, [.ref 28, .int b, .int y, .int x, .float 0, .float 0], [.int (-1)], h)) rfl ?_
                  refine qm_Rp.rt (v := (some (.int (-1)))) (h' := h) rfl ?_
                  exact k (-1) (try_a (fun z => absurd (okb_iff.mp z.2.2.2.2.2.2) (by omega))).symm
                · refine qm_Rp.go 2 (c' := (23, [.ref 6, .int b], [.int 1], h)) rfl ?_
                  refine qm_Rp.rt (v := (some (.int 1))) (h' := h) rfl ?_
                  refine qm_Rp.go 2 (c' := (23, [.ref 28, .int b], [.ref 28], h)) rfl ?_
                  refine hp_getr rfl (hH.1 28 (9, 8) rfl) rfl (hH.2 28 1 (some 15) rfl) ?_
                  refine qm_Rp.go 1 (c' := (27, [.ref 28, .int b], [.ref 28, .ref 15], h)) rfl ?_
                  refine hp_getr rfl (hH.1 28 (9, 8) rfl) rfl (hH.2 28 0 (some 6) rfl) ?_
                  refine qm_Rp.go 0 (c' := (30, [.ref 28, .int b], [.ref 6, .ref 15], h)) rfl ?_
                  refine hp_getr rfl (hH.1 6 (6, 9) rfl) rfl (hH.2 6 6 (some 12) rfl) ?_
                  refine qm_Rp.go 1 (c' := (34, [.ref 28, .int b], [.int b, .ref 12, .ref 15], h)) rfl ?_
                  obtain ⟨v17, q_v17⟩ : ∃ v_, h.2.1 12 b.toInt.toNat = v_ := ⟨_, rfl⟩
                  refine hp_ial (v := v17) rfl (hH.1 12 (0, 30) rfl) q_v17 (fun ia_17 ib_17 => ?_)
                  refine qm_Rp.go 0 (c' := (35, [.ref 28, .int b], [.int v17, .ref 15], h)) rfl ?_
                  have ey : yb b.toInt.toNat = v17.toInt := by rw [← e12]; exact congrArg Int32.toInt q_v17
                  refine hp_inv (o := 15) (r := []) (as := [.ref 15, .int v17]) rfl rfl (hH.1 15 (15, 8) rfl) rfl rfl rfl ?_
                  refine qm_Rp.go 1 (c' := (1, [.ref 15, .int v17], [.ref 15], h)) rfl ?_
                  refine hp_getr rfl (hH.1 15 (15, 8) rfl) rfl (hH.2 15 2 (some 17) rfl) ?_
                  refine qm_Rp.go 1 (c' := (5, [.ref 15, .int v17], [.int v17, .ref 17], h)) rfl ?_
                  obtain ⟨v19, q_v19⟩ : ∃ v_, h.2.1 17 v17.toInt.toNat = v_ := ⟨_, rfl⟩
                  refine hp_ial (v := v19) rfl (hH.1 17 (0, 4) rfl) q_v19 (fun ia_19 ib_19 => ?_)
                  refine qm_Rp.go 0 (c' := (6, [.ref 15, .int v17], [.int v19], h)) rfl ?_
                  have eh : hi (yb b.toInt.toNat).toNat = v19.toInt := by rw [ey, ← eI]; exact congrArg Int32.toInt q_v19
                  have bh := hi4 (yb b.toInt.toNat).toNat
                  rw [eh] at bh
                  refine hp_zne (ix := v19.toInt) rfl rfl (fun z21 => ?_) (fun z21 => ?_)
                  · refine qm_Rp.go 1 (c' := (14, [.ref 15, .int v17], [.ref 15], h)) rfl ?_
                    refine hp_getr rfl (hH.1 15 (15, 8) rfl) rfl (hH.2 15 1 (some 16) rfl) ?_
                    refine qm_Rp.go 3 (c' := (20, [.ref 15, .int v17], [.int (v17 * 4), .ref 16], h)) rfl ?_
                    obtain ⟨v22, q_v22, e_v22⟩ := hk_mul (x := v17) (y := 4) (a := v17.toInt) (b := 4) rfl rfl (by omega) (by omega)
                    rw [q_v22]
                    refine qm_Rp.go 1 (c' := (21, [.ref 15, .int v17], [.ref 15, .int v22, .ref 16], h)) rfl ?_
                    refine hp_getr rfl (hH.1 15 (15, 8) rfl) rfl (hH.2 15 2 (some 17) rfl) ?_
                    refine qm_Rp.go 1 (c' := (25, [.ref 15, .int v17], [.int v17, .ref 17, .int v22, .ref 16], h)) rfl ?_
                    refine hp_ial (v := v19) rfl (hH.1 17 (0, 4) rfl) q_v19 (fun ia_22 ib_22 => ?_)
                    refine qm_Rp.go 0 (c' := (26, [.ref 15, .int v17], [.int v19, .int v22, .ref 16], h)) rfl ?_
                    refine qm_Rp.go 1 (c' := (27, [.ref 15, .int v17], [.int (v22 + v19), .ref 16], h)) rfl ?_
                    obtain ⟨v24, q_v24, e_v24⟩ := hk_add (x := v22) (y := v19) (a := v22.toInt) (b := v19.toInt) rfl rfl (by omega) (by omega)
                    rw [q_v24]
                    refine qm_Rp.go 2 (c' := (29, [.ref 15, .int v17], [.int (v24 - 1), .ref 16], h)) rfl ?_
                    obtain ⟨v25, q_v25, e_v25⟩ := hk_sub (x := v24) (y := 1) (a := v24.toInt) (b := 1) rfl rfl (by omega) (by omega)
                    rw [q_v25]
                    obtain ⟨v26, q_v26⟩ : ∃ v_, h.2.1 16 v25.toInt.toNat = v_ := ⟨_, rfl⟩
                    refine hp_ial (v := v26) rfl (hH.1 16 (0, 16) rfl) q_v26 (fun ia_26 ib_26 => ?_)
                    refine qm_Rp.go 0 (c' := (30, [.ref 15, .int v17], [.int v26], h)) rfl ?_
                    have et : yc (4 * yb b.toInt.toNat + hi (yb b.toInt.toNat).toNat - 1).toNat = v26.toInt := by rw [eh, ey, show (4 * v17.toInt + v19.toInt - 1).toNat = v25.toInt.toNat by omega, ← eY]; exact congrArg Int32.toInt q_v26
                    refine qm_Rp.rt (v := (some (.int v26))) (h' := h) rfl ?_
                    refine qm_Rp.go 1 (c' := (39, [.ref 28, .int b], [.int b, .int v26], h)) rfl ?_
                    refine hp_cne (ix := v26.toInt) (iy := b.toInt) rfl rfl rfl (fun z28 => ?_) (fun z28 => ?_)
                    · refine qm_Rp.go 1 (c' := (47, [.ref 28, .int b], [.int 0], h)) rfl ?_
                      refine qm_Rp.rt (v := (some (.int 0))) (h' := h) rfl ?_
                      refine qm_Rp.go 0 (c' := (14, [.ref 28, .int b, .int y, .int x, .float 0, .float 0], [.int 0], h)) rfl ?_
                      refine qm_Rp.go 2 (c' := (18, [.ref 28, .int b, .int y, .int x, .float 0, .float 0], [.int (-1)], h)) rfl ?_
                      refine qm_Rp.rt (v := (some (.int (-1)))) (h' := h) rfl ?_
                      exact k (-1) (try_a (fun z => absurd (okb_iff.mp z.2.2.2.2.2.2) (by omega))).symm
                    · refine qm_Rp.go 2 (c' := (47, [.ref 28, .int b], [.int 1], h)) rfl ?_
                      refine qm_Rp.rt (v := (some (.int 1))) (h' := h) rfl ?_
                      refine qm_Rp.go 0 (c' := (14, [.ref 28, .int b, .int y, .int x, .float 0, .float 0], [.int 1], h)) rfl ?_
                      refine qm_Rp.go 4 (c' := (22, [.ref 28, .int b, .int y, .int x, .float 0, .float 0], [.int x, .int y, .ref 28], h)) rfl ?_
                      refine hp_inv (o := 28) (r := []) (as := [.ref 28, .int y, .int x]) rfl rfl (hH.1 28 (9, 8) rfl) rfl rfl rfl (px_cft hH ⟨by omega, by omega⟩ ⟨by omega, by omega⟩ q_cv (fun fr29 e_fr29 => ?_))
                      rw [eC] at e_fr29
                      refine qm_Rp.go 3 (c' := (30, [.ref 28, .int b, .int y, .int x, .int fr29, .float 0], [.int (-1), .int fr29], h)) rfl ?_
                      refine hp_cne (ix := fr29.toInt) (iy := (-1)) rfl rfl rfl (fun z30 => ?_) (fun z30 => ?_)
                      · refine qm_Rp.go 1 (c' := (36, [.ref 28, .int b, .int y, .int x, .int fr29, .float 0], [.ref 28], h)) rfl ?_
                        refine hp_getr rfl (hH.1 28 (9, 8) rfl) rfl (hH.2 28 0 (some 6) rfl) ?_
                        refine qm_Rp.go 0 (c' := (39, [.ref 28, .int b, .int y, .int x, .int fr29, .float 0], [.ref 6], h)) rfl ?_
                        refine hp_getr rfl (hH.1 6 (6, 9) rfl) rfl (hH.2 6 1 (some 7) rfl) ?_
                        refine qm_Rp.go 1 (c' := (43, [.ref 28, .int b, .int y, .int x, .int fr29, .float 0], [.int b, .ref 7], h)) rfl ?_
                        obtain ⟨v31, q_v31⟩ : ∃ v_, h.2.1 7 b.toInt.toNat = v_ := ⟨_, rfl⟩
                        refine hp_ial (v := v31) rfl (hH.1 7 (0, 30) rfl) q_v31 (fun ia_31 ib_31 => ?_)
                        refine qm_Rp.go 0 (c' := (44, [.ref 28, .int b, .int y, .int x, .int fr29, .float 0], [.int v31], h)) rfl ?_
                        have e_w : w b.toInt.toNat = v31.toInt := by rw [← eW]; exact congrArg Int32.toInt q_v31
                        have b_w := hw (b.toInt.toNat)
                        rw [e_w] at b_w
                        refine qm_Rp.go 3 (c' := (49, [.ref 28, .int b, .int y, .int x, .int fr29, .int v31], [.ref 28, .int v31], h)) rfl ?_
                        refine hp_getr rfl (hH.1 28 (9, 8) rfl) rfl hT ?_
                        refine qm_Rp.go 0 (c' := (52, [.ref 28, .int b, .int y, .int x, .int fr29, .int v31], [.ref 29, .int v31], h)) rfl ?_
                        refine hp_geti (v := l) rfl (hH.1 29 (11, 16) rfl) rfl q_l ?_
                        refine qm_Rp.go 0 (c' := (55, [.ref 28, .int b, .int y, .int x, .int fr29, .int v31], [.int l, .int v31], h)) rfl ?_
                        refine hp_cle (ix := v31.toInt) (iy := l.toInt) rfl rfl rfl (fun z33 => ?_) (fun z33 => ?_)
                        · refine qm_Rp.go 4 (c' := (66, [.ref 28, .int b, .int y, .int x, .int fr29, .int v31], [.int v31, .int x, .int y, .ref 28], h)) rfl ?_
                          refine hp_inv (o := 28) (r := []) (as := [.ref 28, .int y, .int x, .int v31]) rfl rfl (hH.1 28 (9, 8) rfl) rfl rfl rfl (px_cbo29 (m := v31) hH hT q_B hB eV hb q_ls hls q_wt hwt ⟨by omega, by omega⟩ ⟨by omega, by omega⟩ ⟨by omega, by omega⟩ q_g0 q_g1 q_g2 (fun r34 e_r34 => ?_))
                          rcases e_r34 with ⟨hr, hbo⟩ | ⟨hr, hbo⟩
                          · obtain rfl : r34 = 1 := hk_eqi.mpr (hr.trans rfl)
                            refine qm_Rp.go 3 (c' := (90, [.ref 28, .int b, .int y, .int x, .int fr29, .int v31], [.int fr29], h)) rfl ?_
                            refine qm_Rp.rt (v := (some (.int fr29))) (h' := h) rfl ?_
                            exact k fr29 ((try_e ⟨by omega, by omega, by omega, by omega, by omega, by omega⟩ (okb_t (by omega)) (by omega) (by omega) (okb_t (by rw [e_w]; exact Or.inl hbo))).trans (by omega)).symm
                          · obtain rfl : r34 = 0 := hk_eqi.mpr (hr.trans rfl)
                            refine qm_Rp.go 5 (c' := (77, [.ref 28, .int b, .int y, .int x, .int fr29, .int v31], [.int v31, .int x, .int y, .ref 28], h)) rfl ?_
                            refine hp_inv (o := 28) (r := []) (as := [.ref 28, .int y, .int x, .int v31]) rfl rfl (hH.1 28 (9, 8) rfl) rfl rfl rfl (px_cnw29 (m := v31) hH hT q_B hB eV hb q_ls hls q_wt hwt ⟨by omega, by omega⟩ ⟨by omega, by omega⟩ ⟨by omega, by omega⟩ (fun r35 e_r35 => ?_))
                            rcases e_r35 with ⟨hr, hnw⟩ | ⟨hr, hnw⟩
                            · obtain rfl : r35 = 1 := hk_eqi.mpr (hr.trans rfl)
                              refine qm_Rp.go 3 (c' := (90, [.ref 28, .int b, .int y, .int x, .int fr29, .int v31], [.int fr29], h)) rfl ?_
                              refine qm_Rp.rt (v := (some (.int fr29))) (h' := h) rfl ?_
                              exact k fr29 ((try_e ⟨by omega, by omega, by omega, by omega, by omega, by omega⟩ (okb_t (by omega)) (by omega) (by omega) (okb_t (by rw [e_w]; exact Or.inr hnw))).trans (by omega)).symm
                            · obtain rfl : r35 = 0 := hk_eqi.mpr (hr.trans rfl)
                              refine qm_Rp.go 2 (c' := (90, [.ref 28, .int b, .int y, .int x, .int fr29, .int v31], [.int (-3)], h)) rfl ?_
                              refine qm_Rp.rt (v := (some (.int (-3)))) (h' := h) rfl ?_
                              exact k (-3) (try_d ⟨by omega, by omega, by omega, by omega, by omega, by omega⟩ (okb_t (by omega)) (by omega) (by omega) (okb_f (by rw [e_w]; exact fun z => z.elim hbo hnw))).symm
                        · refine qm_Rp.go 1 (c' := (60, [.ref 28, .int b, .int y, .int x, .int fr29, .int v31], [.int (-2)], h)) rfl ?_
                          refine qm_Rp.rt (v := (some (.int (-2)))) (h' := h) rfl ?_
                          exact k (-2) (try_c ⟨by omega, by omega, by omega, by omega, by omega, by omega⟩ (okb_t (by omega)) (by omega) (by omega)).symm
                      · refine qm_Rp.go 1 (c' := (34, [.ref 28, .int b, .int y, .int x, .int fr29, .float 0], [.int (-1)], h)) rfl ?_
                        refine qm_Rp.rt (v := (some (.int (-1)))) (h' := h) rfl ?_
                        exact k (-1) (try_b ⟨by omega, by omega, by omega, by omega, by omega, by omega⟩ (okb_t (by omega)) (by omega)).symm
                  · refine qm_Rp.go 2 (c' := (30, [.ref 15, .int v17], [.int (-1)], h)) rfl ?_
                    refine qm_Rp.rt (v := (some (.int (-1)))) (h' := h) rfl ?_
                    refine qm_Rp.go 1 (c' := (39, [.ref 28, .int b], [.int b, .int (-1)], h)) rfl ?_
                    refine hp_cne (ix := (-1)) (iy := b.toInt) rfl rfl rfl (fun z36 => ?_) (fun z36 => by exfalso; omega)
                    refine qm_Rp.go 1 (c' := (47, [.ref 28, .int b], [.int 0], h)) rfl ?_
                    refine qm_Rp.rt (v := (some (.int 0))) (h' := h) rfl ?_
                    refine qm_Rp.go 0 (c' := (14, [.ref 28, .int b, .int y, .int x, .float 0, .float 0], [.int 0], h)) rfl ?_
                    refine qm_Rp.go 2 (c' := (18, [.ref 28, .int b, .int y, .int x, .float 0, .float 0], [.int (-1)], h)) rfl ?_
                    refine qm_Rp.rt (v := (some (.int (-1)))) (h' := h) rfl ?_
                    exact k (-1) (try_a (fun z => absurd (okb_iff.mp z.2.2.2.2.2.2) (by omega))).symm
              · refine qm_Rp.go 2 (c' := (22, [.ref 6, .int b], [.int 1], h)) rfl ?_
                refine qm_Rp.rt (v := (some (.int 1))) (h' := h) rfl ?_
                refine qm_Rp.go 3 (c' := (47, [.ref 28, .int b], [.int 1], h)) rfl ?_
                refine qm_Rp.rt (v := (some (.int 1))) (h' := h) rfl ?_
                refine qm_Rp.go 0 (c' := (14, [.ref 28, .int b, .int y, .int x, .float 0, .float 0], [.int 1], h)) rfl ?_
                refine qm_Rp.go 4 (c' := (22, [.ref 28, .int b, .int y, .int x, .float 0, .float 0], [.int x, .int y, .ref 28], h)) rfl ?_
                refine hp_inv (o := 28) (r := []) (as := [.ref 28, .int y, .int x]) rfl rfl (hH.1 28 (9, 8) rfl) rfl rfl rfl (px_cft hH ⟨by omega, by omega⟩ ⟨by omega, by omega⟩ q_cv (fun fr37 e_fr37 => ?_))
                rw [eC] at e_fr37
                refine qm_Rp.go 3 (c' := (30, [.ref 28, .int b, .int y, .int x, .int fr37, .float 0], [.int (-1), .int fr37], h)) rfl ?_
                refine hp_cne (ix := fr37.toInt) (iy := (-1)) rfl rfl rfl (fun z38 => ?_) (fun z38 => ?_)
                · refine qm_Rp.go 1 (c' := (36, [.ref 28, .int b, .int y, .int x, .int fr37, .float 0], [.ref 28], h)) rfl ?_
                  refine hp_getr rfl (hH.1 28 (9, 8) rfl) rfl (hH.2 28 0 (some 6) rfl) ?_
                  refine qm_Rp.go 0 (c' := (39, [.ref 28, .int b, .int y, .int x, .int fr37, .float 0], [.ref 6], h)) rfl ?_
                  refine hp_getr rfl (hH.1 6 (6, 9) rfl) rfl (hH.2 6 1 (some 7) rfl) ?_
                  refine qm_Rp.go 1 (c' := (43, [.ref 28, .int b, .int y, .int x, .int fr37, .float 0], [.int b, .ref 7], h)) rfl ?_
                  obtain ⟨v39, q_v39⟩ : ∃ v_, h.2.1 7 b.toInt.toNat = v_ := ⟨_, rfl⟩
                  refine hp_ial (v := v39) rfl (hH.1 7 (0, 30) rfl) q_v39 (fun ia_39 ib_39 => ?_)
                  refine qm_Rp.go 0 (c' := (44, [.ref 28, .int b, .int y, .int x, .int fr37, .float 0], [.int v39], h)) rfl ?_
                  have e_w : w b.toInt.toNat = v39.toInt := by rw [← eW]; exact congrArg Int32.toInt q_v39
                  have b_w := hw (b.toInt.toNat)
                  rw [e_w] at b_w
                  refine qm_Rp.go 3 (c' := (49, [.ref 28, .int b, .int y, .int x, .int fr37, .int v39], [.ref 28, .int v39], h)) rfl ?_
                  refine hp_getr rfl (hH.1 28 (9, 8) rfl) rfl hT ?_
                  refine qm_Rp.go 0 (c' := (52, [.ref 28, .int b, .int y, .int x, .int fr37, .int v39], [.ref 29, .int v39], h)) rfl ?_
                  refine hp_geti (v := l) rfl (hH.1 29 (11, 16) rfl) rfl q_l ?_
                  refine qm_Rp.go 0 (c' := (55, [.ref 28, .int b, .int y, .int x, .int fr37, .int v39], [.int l, .int v39], h)) rfl ?_
                  refine hp_cle (ix := v39.toInt) (iy := l.toInt) rfl rfl rfl (fun z41 => ?_) (fun z41 => ?_)
                  · refine qm_Rp.go 4 (c' := (66, [.ref 28, .int b, .int y, .int x, .int fr37, .int v39], [.int v39, .int x, .int y, .ref 28], h)) rfl ?_
                    refine hp_inv (o := 28) (r := []) (as := [.ref 28, .int y, .int x, .int v39]) rfl rfl (hH.1 28 (9, 8) rfl) rfl rfl rfl (px_cbo29 (m := v39) hH hT q_B hB eV hb q_ls hls q_wt hwt ⟨by omega, by omega⟩ ⟨by omega, by omega⟩ ⟨by omega, by omega⟩ q_g0 q_g1 q_g2 (fun r42 e_r42 => ?_))
                    rcases e_r42 with ⟨hr, hbo⟩ | ⟨hr, hbo⟩
                    · obtain rfl : r42 = 1 := hk_eqi.mpr (hr.trans rfl)
                      refine qm_Rp.go 3 (c' := (90, [.ref 28, .int b, .int y, .int x, .int fr37, .int v39], [.int fr37], h)) rfl ?_
                      refine qm_Rp.rt (v := (some (.int fr37))) (h' := h) rfl ?_
                      exact k fr37 ((try_e ⟨by omega, by omega, by omega, by omega, by omega, by omega⟩ (okb_t (by omega)) (by omega) (by omega) (okb_t (by rw [e_w]; exact Or.inl hbo))).trans (by omega)).symm
                    · obtain rfl : r42 = 0 := hk_eqi.mpr (hr.trans rfl)
                      refine qm_Rp.go 5 (c' := (77, [.ref 28, .int b, .int y, .int x, .int fr37, .int v39], [.int v39, .int x, .int y, .ref 28], h)) rfl ?_
                      refine hp_inv (o := 28) (r := []) (as := [.ref 28, .int y, .int x, .int v39]) rfl rfl (hH.1 28 (9, 8) rfl) rfl rfl rfl (px_cnw29 (m := v39) hH hT q_B hB eV hb q_ls hls q_wt hwt ⟨by omega, by omega⟩ ⟨by omega, by omega⟩ ⟨by omega, by omega⟩ (fun r43 e_r43 => ?_))
                      rcases e_r43 with ⟨hr, hnw⟩ | ⟨hr, hnw⟩
                      · obtain rfl : r43 = 1 := hk_eqi.mpr (hr.trans rfl)
                        refine qm_Rp.go 3 (c' := (90, [.ref 28, .int b, .int y, .int x, .int fr37, .int v39], [.int fr37], h)) rfl ?_
                        refine qm_Rp.rt (v := (some (.int fr37))) (h' := h) rfl ?_
                        exact k fr37 ((try_e ⟨by omega, by omega, by omega, by omega, by omega, by omega⟩ (okb_t (by omega)) (by omega) (by omega) (okb_t (by rw [e_w]; exact Or.inr hnw))).trans (by omega)).symm
                      · obtain rfl : r43 = 0 := hk_eqi.mpr (hr.trans rfl)
                        refine qm_Rp.go 2 (c' := (90, [.ref 28, .int b, .int y, .int x, .int fr37, .int v39], [.int (-3)], h)) rfl ?_
                        refine qm_Rp.rt (v := (some (.int (-3)))) (h' := h) rfl ?_
                        exact k (-3) (try_d ⟨by omega, by omega, by omega, by omega, by omega, by omega⟩ (okb_t (by omega)) (by omega) (by omega) (okb_f (by rw [e_w]; exact fun z => z.elim hbo hnw))).symm
                  · refine qm_Rp.go 1 (c' := (60, [.ref 28, .int b, .int y, .int x, .int fr37, .int v39], [.int (-2)], h)) rfl ?_
                    refine qm_Rp.rt (v := (some (.int (-2)))) (h' := h) rfl ?_
                    exact k (-2) (try_c ⟨by omega, by omega, by omega, by omega, by omega, by omega⟩ (okb_t (by omega)) (by omega) (by omega)).symm
                · refine qm_Rp.go 1 (c' := (34, [.ref 28, .int b, .int y, .int x, .int fr37, .float 0], [.int (-1)], h)) rfl ?_
                  refine qm_Rp.rt (v := (some (.int (-1)))) (h' := h) rfl ?_
                  exact k (-1) (try_b ⟨by omega, by omega, by omega, by omega, by omega, by omega⟩ (okb_t (by omega)) (by omega)).symm
set_option maxHeartbeats 4000000 in
theorem px_cload29 {X : Option (Nat × (Nat → Int32))} {Z : Option Value → qm_H → Prop} {h : qm_H} {fu : Nat} (hH : hk_H h) {b y x : Int32} {n : Int32} (q_n : h.2.1 6 0 = n) (hn : 0 ≤ n.toInt ∧ n.toInt ≤ 30) {w wh yb rb tb c yc hi bw : Nat → Int} (eW : pI h.2.1 7 = w) (eH : pI h.2.1 11 = wh) (e12 : pI h.2.1 12 = yb) (e13 : pI h.2.1 13 = rb) (e14 : pI h.2.1 14 = tb) (eC : pI h.2.1 36 = c) (eY : pI h.2.1 16 = yc) (eI : pI h.2.1 17 = hi) (eV : pI h.2.1 37 = bw) (hw : ∀ b, 0 ≤ w b ∧ w b ≤ 40) (hh : ∀ b, 0 ≤ wh b ∧ wh b ≤ 2) (hc : ∀ k, -1 ≤ c k ∧ c k ≤ 29) (hi4 : ∀ x, 0 ≤ hi x ∧ hi x ≤ 4) (hy29 : ∀ k, 0 ≤ yc k ∧ yc k ≤ 29) (hb : ∀ c, c < 5 → 0 ≤ bw c ∧ bw c ≤ 1200) {ls wt cv : Int32} (q_ls : h.2.1 28 5 = ls) (hls : -3600 ≤ ls.toInt ∧ ls.toInt ≤ 3600) (q_wt : h.2.1 28 6 = wt) (hwt : 0 ≤ wt.toInt ∧ wt.toInt ≤ 1200) (q_cv : h.2.1 28 4 = cv) (hT : h.2.2.2 28 2 = some 29) {B l g0 g1 g2 : Int32} (q_B : h.2.1 29 0 = B) (hB : 1 ≤ B.toInt ∧ B.toInt ≤ 5) (q_g0 : h.2.1 29 1 = g0) (q_g1 : h.2.1 29 2 = g1) (q_g2 : h.2.1 29 3 = g2) (q_l : h.2.1 29 4 = l) (hyb : ∀ b, wh b = 2 → 0 ≤ yb b ∧ yb b ≤ 3) (k0 : ∀ r : Int32, r.toInt = tryV n.toInt b.toInt (okb (wh b.toInt.toNat = 0 ∨ (wh b.toInt.toNat = 2 ∧ hi (yb b.toInt.toNat).toNat ≠ 0 ∧ yc (4 * yb b.toInt.toNat + hi (yb b.toInt.toNat).toNat - 1).toNat = b.toInt))) y.toInt x.toInt B.toInt (frV cv y x.toInt c) (w b.toInt.toNat) l.toInt (okb (mayC B.toInt g0.toInt g1.toInt g2.toInt ls.toInt wt.toInt bw y.toInt x.toInt (w b.toInt.toNat))) → r.toInt < 0 → Z (some (.int r)) h) (k1 : ∀ (I : Nat → Nat → Int32) (r l2 w2 : Int32), (∀ o, [11, 12, 13, 14, 16, 17, 28, 36, 37].contains o = false → ∀ i, I o i = h.2.1 o i) → (∀ i, [5, 6].contains i = false → I 28 i = h.2.1 28 i) → I 28 5 = l2 → I 28 6 = w2 → r.toInt = tryV n.toInt b.toInt (okb (wh b.toInt.toNat = 0 ∨ (wh b.toInt.toNat = 2 ∧ hi (yb b.toInt.toNat).toNat ≠ 0 ∧ yc (4 * yb b.toInt.toNat + hi (yb b.toInt.toNat).toNat - 1).toNat = b.toInt))) y.toInt x.toInt B.toInt (frV cv y x.toInt c) (w b.toInt.toNat) l.toInt (okb (mayC B.toInt g0.toInt g1.toInt g2.toInt ls.toInt wt.toInt bw y.toInt x.toInt (w b.toInt.toNat))) → 0 ≤ r.toInt → l2.toInt = ls.toInt + w b.toInt.toNat * (2 * x.toInt - 3) → w2.toInt = wt.toInt + w b.toInt.toNat → pI I 11 = fu_up wh (b.toInt.toNat) 1 → pI I 12 = fu_up yb (b.toInt.toNat) y.toInt → pI I 13 = fu_up rb (b.toInt.toNat) x.toInt → pI I 14 = fu_up tb (b.toInt.toNat) ((frV cv y x.toInt c) % 4) → pI I 36 = fu_up c (frV cv y x.toInt c).toNat b.toInt → pI I 16 = yc → pI I 17 = (if wh b.toInt.toNat = 2 then fu_up hi (yb b.toInt.toNat).toNat (hi (yb b.toInt.toNat).toNat - 1) else hi) → pI I 37 = fu_up bw y.toInt.toNat (bw y.toInt.toNat + w b.toInt.toNat) → Z (some (.int r)) (h.1, I, h.2.2.1, h.2.2.2)) : qm_Rp fu X cd_86 (qm_ent 5 [.ref 28, .int b, .int y, .int x] h) Z := by
  refine qm_Rp.go 0 (c' := (0, [.ref 28, .int b, .int y, .int x, .float 0], [], h)) rfl ?_
  have kz0 : (0 : Int32).toInt = 0 := rfl
  have kz1 : (1 : Int32).toInt = 1 := rfl
  have kz2 : (2 : Int32).toInt = 2 := rfl
  have kz3 : (3 : Int32).toInt = 3 := rfl
  have kz4 : (4 : Int32).toInt = 4 := rfl
  have kz5 : (5 : Int32).toInt = 5 := rfl
  have kz6 : (6 : Int32).toInt = 6 := rfl
  have kz7 : (7 : Int32).toInt = 7 := rfl
  have kz8 : (8 : Int32).toInt = 8 := rfl
  have kz9 : (9 : Int32).toInt = 9 := rfl
  have kzm1 : ((-1) : Int32).toInt = (-1) := rfl
  have kzm2 : ((-2) : Int32).toInt = (-2) := rfl
  have kzm3 : ((-3) : Int32).toInt = (-3) := rfl
  refine qm_Rp.go 4 (c' := (4, [.ref 28, .int b, .int y, .int x, .float 0], [.int x, .int y, .int b, .ref 28], h)) rfl ?_
  refine hp_inv (o := 28) (r := []) (as := [.ref 28, .int b, .int y, .int x]) rfl rfl (hH.1 28 (9, 8) rfl) rfl rfl rfl (px_ctry29 hH q_n hn eW eH e12 e13 e14 eC eY eI eV hw hh hc hi4 hy29 hb q_ls hls q_wt hwt q_cv hT q_B hB q_g0 q_g1 q_g2 q_l (fun r1 e_r1 => ?_))
  refine qm_Rp.go 2 (c' := (11, [.ref 28, .int b, .int y, .int x, .int r1], [.int r1], h)) rfl ?_
  refine hp_zlt (ix := r1.toInt) rfl rfl (fun z2 => ?_) (fun z2 => ?_)
  · refine qm_Rp.go 1 (c' := (54, [.ref 28, .int b, .int y, .int x, .int r1], [.int r1], h)) rfl ?_
    refine qm_Rp.rt (v := (some (.int r1))) (h' := h) rfl ?_
    exact k0 r1 e_r1 (by omega)
  · refine qm_Rp.go 0 (c' := (14, [.ref 28, .int b, .int y, .int x, .int r1], [], h)) rfl ?_
    obtain ⟨⟨i1, i2, i3, i4, i5, i6⟩, i7, i8, i9, i10, i11⟩ := try_inv (show 0 ≤ tryV n.toInt b.toInt (okb (wh b.toInt.toNat = 0 ∨ (wh b.toInt.toNat = 2 ∧ hi (yb b.toInt.toNat).toNat ≠ 0 ∧ yc (4 * yb b.toInt.toNat + hi (yb b.toInt.toNat).toNat - 1).toNat = b.toInt))) y.toInt x.toInt B.toInt (frV cv y x.toInt c) (w b.toInt.toNat) l.toInt (okb (mayC B.toInt g0.toInt g1.toInt g2.toInt ls.toInt wt.toInt bw y.toInt x.toInt (w b.toInt.toNat))) by rw [← e_r1]; omega)
    have i7 := okb_iff.mp i7
    have fb := fr_in (c := c) (cv := cv) (y := y) (x := x.toInt) ⟨i3, by omega⟩ ⟨i5, i6⟩ i8
    rw [← e_r1] at i11
    refine qm_Rp.go 1 (c' := (15, [.ref 28, .int b, .int y, .int x, .int r1], [.ref 28], h)) rfl ?_
    refine hp_getr rfl (hH.1 28 (9, 8) rfl) rfl (hH.2 28 0 (some 6) rfl) ?_
    refine qm_Rp.go 0 (c' := (18, [.ref 28, .int b, .int y, .int x, .int r1], [.ref 6], h)) rfl ?_
    refine hp_getr rfl (hH.1 6 (6, 9) rfl) rfl (hH.2 6 5 (some 11) rfl) ?_
    refine qm_Rp.go 1 (c' := (22, [.ref 28, .int b, .int y, .int x, .int r1], [.int b, .ref 11], h)) rfl ?_
    obtain ⟨v3, q_v3⟩ : ∃ v_, h.2.1 11 b.toInt.toNat = v_ := ⟨_, rfl⟩
    refine hp_ial (v := v3) rfl (hH.1 11 (0, 30) rfl) q_v3 (fun ia_3 ib_3 => ?_)
    refine qm_Rp.go 0 (c' := (23, [.ref 28, .int b, .int y, .int x, .int r1], [.int v3], h)) rfl ?_
    have ew : wh b.toInt.toNat = v3.toInt := by rw [← eH]; exact congrArg Int32.toInt q_v3
    have bwh := hh (b.toInt.toNat)
    rw [ew] at bwh
    refine qm_Rp.go 1 (c' := (24, [.ref 28, .int b, .int y, .int x, .int r1], [.int 2, .int v3], h)) rfl ?_
    refine hp_cne (ix := v3.toInt) (iy := 2) rfl rfl rfl (fun z5 => ?_) (fun z5 => ?_)
    · refine qm_Rp.go 5 (c' := (49, [.ref 28, .int b, .int y, .int x, .int r1], [.int r1, .int x, .int y, .int b, .ref 28], h)) rfl ?_
      refine hp_inv (o := 28) (r := []) (as := [.ref 28, .int b, .int y, .int x, .int r1]) rfl rfl (hH.1 28 (9, 8) rfl) rfl rfl rfl (px_cput (h := h) hH q_ls (by omega) q_wt (by omega) (w := h.2.1 7 (b.toInt.toNat)) (show (h.2.1) 7 (b.toInt.toNat) = _ from rfl) (pz_in eW hw (b.toInt.toNat)) (pz_w eV (by have := hb y.toInt.toNat (by omega); omega)) ⟨by omega, by omega⟩ ⟨by omega, by omega⟩ ⟨by omega, by omega⟩ (fun I6 l_I6 w_I6 e_I6 x28_I6 q_l2 q_w2 e_l2 e_w2 x11 x12 x13 x14 x36 x37 => ?_))
      have x28_I6 : (∀ i, [5, 6].contains i = false → I6 28 i = (h.2.1) 28 i) := x28_I6
      have x11 : pI I6 11 = fu_up (pI (h.2.1) 11) (b.toInt.toNat) (Int32.toInt 1) := x11
      have x12 : pI I6 12 = fu_up (pI (h.2.1) 12) (b.toInt.toNat) y.toInt := x12
      have x13 : pI I6 13 = fu_up (pI (h.2.1) 13) (b.toInt.toNat) x.toInt := x13
      have x14 : pI I6 14 = fu_up (pI (h.2.1) 14) (b.toInt.toNat) r1.toInt := x14
      have x36 : pI I6 36 = fu_up (pI (h.2.1) 36) (16 * y.toInt + 4 * x.toInt + r1.toInt).toNat b.toInt := x36
      have x37 : pI I6 37 = fu_up (pI (h.2.1) 37) y.toInt.toNat (pI (h.2.1) 37 y.toInt.toNat + (h.2.1 7 (b.toInt.toNat)).toInt) := x37
      have e9 : (h.2.1 7 (b.toInt.toNat)).toInt = w b.toInt.toNat := by rw [← eW]; rfl
      rw [e9] at x37 e_l2 e_w2
      have e_I6 : ∀ o, [11, 12, 13, 14, 28, 36, 37].contains o = false → ∀ i, I6 o i = (h.2.1) o i := e_I6
      have p11_I6 : pI I6 11 = fu_up wh (b.toInt.toNat) 1 := by rw [x11, eH]; exact rfl
      have p12_I6 : pI I6 12 = fu_up yb (b.toInt.toNat) y.toInt := by rw [x12, e12]
      have p13_I6 : pI I6 13 = fu_up rb (b.toInt.toNat) x.toInt := by rw [x13, e13]
      have p14_I6 : pI I6 14 = fu_up tb (b.toInt.toNat) r1.toInt := by rw [x14, e14]
      have p36_I6 : pI I6 36 = fu_up c (frV cv y x.toInt c).toNat b.toInt := by rw [x36, eC, show (16 * y.toInt + 4 * x.toInt + r1.toInt) = frV cv y x.toInt c by omega]
      have p16_I6 : pI I6 16 = yc := (funext fun i => congrArg Int32.toInt (e_I6 16 rfl i)).trans eY
      have p17_I6 : pI I6 17 = hi := (funext fun i => congrArg Int32.toInt (e_I6 17 rfl i)).trans eI
      have p37_I6 : pI I6 37 = fu_up bw y.toInt.toNat (bw y.toInt.toNat + w b.toInt.toNat) := by rw [x37, eV]
      refine qm_Rp.go 1 (c' := (54, [.ref 28, .int b, .int y, .int x, .int r1], [.int r1], (h.1, I6, h.2.2.1, h.2.2.2))) rfl ?_
      refine qm_Rp.rt (v := (some (.int r1))) (h' := (h.1, I6, h.2.2.1, h.2.2.2)) rfl ?_
      exact k1 (I6) r1 l_I6 w_I6 (fun o ho i => ((e_I6 o (hk_ms rfl ho) i).trans rfl)) (fun i hi => ((x28_I6 i (hk_ms rfl hi)).trans rfl)) q_l2 q_w2 e_r1 (by omega) e_l2 e_w2 p11_I6 p12_I6 p13_I6 (p14_I6.trans (by rw [i11])) p36_I6 p16_I6 (p17_I6.trans (if_neg (by omega)).symm) p37_I6
    · refine qm_Rp.go 1 (c' := (28, [.ref 28, .int b, .int y, .int x, .int r1], [.ref 28], h)) rfl ?_
      refine hp_getr rfl (hH.1 28 (9, 8) rfl) rfl (hH.2 28 1 (some 15) rfl) ?_
      refine qm_Rp.go 1 (c' := (32, [.ref 28, .int b, .int y, .int x, .int r1], [.ref 28, .ref 15], h)) rfl ?_
      refine hp_getr rfl (hH.1 28 (9, 8) rfl) rfl (hH.2 28 0 (some 6) rfl) ?_
      refine qm_Rp.go 0 (c' := (35, [.ref 28, .int b, .int y, .int x, .int r1], [.ref 6, .ref 15], h)) rfl ?_
      refine hp_getr rfl (hH.1 6 (6, 9) rfl) rfl (hH.2 6 6 (some 12) rfl) ?_
      refine qm_Rp.go 1 (c' := (39, [.ref 28, .int b, .int y, .int x, .int r1], [.int b, .ref 12, .ref 15], h)) rfl ?_
      obtain ⟨v7, q_v7⟩ : ∃ v_, h.2.1 12 b.toInt.toNat = v_ := ⟨_, rfl⟩
      refine hp_ial (v := v7) rfl (hH.1 12 (0, 30) rfl) q_v7 (fun ia_7 ib_7 => ?_)
      refine qm_Rp.go 0 (c' := (40, [.ref 28, .int b, .int y, .int x, .int r1], [.int v7, .ref 15], h)) rfl ?_
      have ey : yb b.toInt.toNat = v7.toInt := by rw [← e12]; exact congrArg Int32.toInt q_v7
      obtain ⟨j1, j2, j3⟩ := i7.resolve_left (by omega)
      rw [ey] at j2 j3
      have b4 := hi4 v7.toInt.toNat
      have by4 := hyb (b.toInt.toNat) (by omega)
      rw [ey] at by4
      obtain ⟨hv, q_hv⟩ : ∃ v_, h.2.1 17 v7.toInt.toNat = v_ := ⟨_, rfl⟩
      have eh : hi v7.toInt.toNat = hv.toInt := by rw [← eI]; exact congrArg Int32.toInt q_hv
      rw [eh] at j2 j3 b4
      refine hp_inv (o := 15) (r := []) (as := [.ref 15, .int v7]) rfl rfl (hH.1 15 (15, 8) rfl) rfl rfl rfl (px_cth (h := h) (b := b) (v := hv) hH ⟨by omega, by omega⟩ q_hv ⟨by omega, by omega⟩ (pz_at eY j3) ⟨by omega, by omega⟩ (fun I9 e_I9 x11 x12 x13 x14 x17 => ?_))
      have x11 : pI I9 11 = fu_up (pI (h.2.1) 11) (b.toInt.toNat) (Int32.toInt 0) := x11
      have x12 : pI I9 12 = fu_up (pI (h.2.1) 12) (b.toInt.toNat) (Int32.toInt (-1)) := x12
      have x13 : pI I9 13 = fu_up (pI (h.2.1) 13) (b.toInt.toNat) (Int32.toInt (-1)) := x13
      have x14 : pI I9 14 = fu_up (pI (h.2.1) 14) (b.toInt.toNat) (Int32.toInt (-1)) := x14
      have x17 : pI I9 17 = fu_up (pI (h.2.1) 17) v7.toInt.toNat (hv.toInt - 1) := x17
      have e_I9 : ∀ o, [11, 12, 13, 14, 17].contains o = false → ∀ i, I9 o i = (h.2.1) o i := e_I9
      have p11_I9 : pI I9 11 = fu_up wh (b.toInt.toNat) 0 := by rw [x11, eH]; exact rfl
      have p12_I9 : pI I9 12 = fu_up yb (b.toInt.toNat) (-1) := by rw [x12, e12]; exact rfl
      have p13_I9 : pI I9 13 = fu_up rb (b.toInt.toNat) (-1) := by rw [x13, e13]; exact rfl
      have p14_I9 : pI I9 14 = fu_up tb (b.toInt.toNat) (-1) := by rw [x14, e14]; exact rfl
      have p36_I9 : pI I9 36 = c := (funext fun i => congrArg Int32.toInt (e_I9 36 rfl i)).trans eC
      have p16_I9 : pI I9 16 = yc := (funext fun i => congrArg Int32.toInt (e_I9 16 rfl i)).trans eY
      have p17_I9 : pI I9 17 = fu_up hi (yb b.toInt.toNat).toNat (hi (yb b.toInt.toNat).toNat - 1) := by rw [x17, eI, ey, eh]
      have p37_I9 : pI I9 37 = bw := (funext fun i => congrArg Int32.toInt (e_I9 37 rfl i)).trans eV
      refine qm_Rp.go 5 (c' := (49, [.ref 28, .int b, .int y, .int x, .int r1], [.int r1, .int x, .int y, .int b, .ref 28], (h.1, I9, h.2.2.1, h.2.2.2))) rfl ?_
      refine hp_inv (o := 28) (r := []) (as := [.ref 28, .int b, .int y, .int x, .int r1]) rfl rfl (hH.1 28 (9, 8) rfl) rfl rfl rfl (px_cput (h := (h.1, I9, h.2.2.1, h.2.2.2)) hH (show (I9) 28 5 = _ from ((e_I9 28 rfl 5).trans q_ls)) (by omega) (show (I9) 28 6 = _ from ((e_I9 28 rfl 6).trans q_wt)) (by omega) (w := h.2.1 7 (b.toInt.toNat)) (show (I9) 7 (b.toInt.toNat) = _ from ((e_I9 7 rfl (b.toInt.toNat)).trans rfl)) (pz_in eW hw (b.toInt.toNat)) (pz_w p37_I9 (by have := hb y.toInt.toNat (by omega); omega)) ⟨by omega, by omega⟩ ⟨by omega, by omega⟩ ⟨by omega, by omega⟩ (fun I10 l_I10 w_I10 e_I10 x28_I10 q_l2 q_w2 e_l2 e_w2 x11 x12 x13 x14 x36 x37 => ?_))
      have x28_I10 : (∀ i, [5, 6].contains i = false → I10 28 i = (I9) 28 i) := x28_I10
      have x11 : pI I10 11 = fu_up (pI (I9) 11) (b.toInt.toNat) (Int32.toInt 1) := x11
      have x12 : pI I10 12 = fu_up (pI (I9) 12) (b.toInt.toNat) y.toInt := x12
      have x13 : pI I10 13 = fu_up (pI (I9) 13) (b.toInt.toNat) x.toInt := x13
      have x14 : pI I10 14 = fu_up (pI (I9) 14) (b.toInt.toNat) r1.toInt := x14
      have x36 : pI I10 36 = fu_up (pI (I9) 36) (16 * y.toInt + 4 * x.toInt + r1.toInt).toNat b.toInt := x36
      have x37 : pI I10 37 = fu_up (pI (I9) 37) y.toInt.toNat (pI (I9) 37 y.toInt.toNat + (h.2.1 7 (b.toInt.toNat)).toInt) := x37
      have e9 : (h.2.1 7 (b.toInt.toNat)).toInt = w b.toInt.toNat := by rw [← eW]; rfl
      rw [e9] at x37 e_l2 e_w2
      have e_I10 : ∀ o, [11, 12, 13, 14, 28, 36, 37].contains o = false → ∀ i, I10 o i = (I9) o i := e_I10
      have p11_I10 : pI I10 11 = fu_up wh (b.toInt.toNat) 1 := by rw [x11, p11_I9]; exact fu_fu2
      have p12_I10 : pI I10 12 = fu_up yb (b.toInt.toNat) y.toInt := by rw [x12, p12_I9]; exact fu_fu2
      have p13_I10 : pI I10 13 = fu_up rb (b.toInt.toNat) x.toInt := by rw [x13, p13_I9]; exact fu_fu2
      have p14_I10 : pI I10 14 = fu_up tb (b.toInt.toNat) r1.toInt := by rw [x14, p14_I9]; exact fu_fu2
      have p36_I10 : pI I10 36 = fu_up c (frV cv y x.toInt c).toNat b.toInt := by rw [x36, p36_I9, show (16 * y.toInt + 4 * x.toInt + r1.toInt) = frV cv y x.toInt c by omega]
      have p16_I10 : pI I10 16 = yc := (funext fun i => congrArg Int32.toInt (e_I10 16 rfl i)).trans p16_I9
      have p17_I10 : pI I10 17 = fu_up hi (yb b.toInt.toNat).toNat (hi (yb b.toInt.toNat).toNat - 1) := (funext fun i => congrArg Int32.toInt (e_I10 17 rfl i)).trans p17_I9
      have p37_I10 : pI I10 37 = fu_up bw y.toInt.toNat (bw y.toInt.toNat + w b.toInt.toNat) := by rw [x37, p37_I9]
      refine qm_Rp.go 1 (c' := (54, [.ref 28, .int b, .int y, .int x, .int r1], [.int r1], (h.1, I10, h.2.2.1, h.2.2.2))) rfl ?_
      refine qm_Rp.rt (v := (some (.int r1))) (h' := (h.1, I10, h.2.2.1, h.2.2.2)) rfl ?_
      exact k1 (I10) r1 l_I10 w_I10 (fun o ho i => ((e_I10 o (hk_ms rfl ho) i).trans ((e_I9 o (hk_ms rfl ho) i).trans rfl))) (fun i hi => ((x28_I10 i (hk_ms rfl hi)).trans ((e_I9 28 rfl i).trans rfl))) q_l2 q_w2 e_r1 (by omega) e_l2 e_w2 p11_I10 p12_I10 p13_I10 (p14_I10.trans (by rw [i11])) p36_I10 p16_I10 (p17_I10.trans (if_pos (by omega)).symm) p37_I10
set_option maxHeartbeats 4000000 in
theorem px_ctry111 {X : Option (Nat × (Nat → Int32))} {Z : Option Value → qm_H → Prop} {h : qm_H} {fu : Nat} (hH : hk_H h) {b y x : Int32} {n : Int32} (q_n : h.2.1 6 0 = n) (hn : 0 ≤ n.toInt ∧ n.toInt ≤ 30) {w wh yb rb tb c yc hi bw : Nat → Int} (eW : pI h.2.1 7 = w) (eH : pI h.2.1 11 = wh) (e12 : pI h.2.1 12 = yb) (e13 : pI h.2.1 13 = rb) (e14 : pI h.2.1 14 = tb) (eC : pI h.2.1 36 = c) (eY : pI h.2.1 16 = yc) (eI : pI h.2.1 17 = hi) (eV : pI h.2.1 37 = bw) (hw : ∀ b, 0 ≤ w b ∧ w b ≤ 40) (hh : ∀ b, 0 ≤ wh b ∧ wh b ≤ 2) (hc : ∀ k, -1 ≤ c k ∧ c k ≤ 29) (hi4 : ∀ x, 0 ≤ hi x ∧ hi x ≤ 4) (hy29 : ∀ k, 0 ≤ yc k ∧ yc k ≤ 29) (hb : ∀ c, c < 5 → 0 ≤ bw c ∧ bw c ≤ 1200) {ls wt cv : Int32} (q_ls : h.2.1 28 5 = ls) (hls : -3600 ≤ ls.toInt ∧ ls.toInt ≤ 3600) (q_wt : h.2.1 28 6 = wt) (hwt : 0 ≤ wt.toInt ∧ wt.toInt ≤ 1200) (q_cv : h.2.1 28 4 = cv) (hT : h.2.2.2 28 2 = some 111) {B l g0 g1 g2 : Int32} (q_B : h.2.1 111 0 = B) (hB : 1 ≤ B.toInt ∧ B.toInt ≤ 5) (q_g0 : h.2.1 111 1 = g0) (q_g1 : h.2.1 111 2 = g1) (q_g2 : h.2.1 111 3 = g2) (q_l : h.2.1 111 4 = l) (k : ∀ r : Int32, r.toInt = tryV n.toInt b.toInt (okb (wh b.toInt.toNat = 0 ∨ (wh b.toInt.toNat = 2 ∧ hi (yb b.toInt.toNat).toNat ≠ 0 ∧ yc (4 * yb b.toInt.toNat + hi (yb b.toInt.toNat).toNat - 1).toNat = b.toInt))) y.toInt x.toInt B.toInt (frV cv y x.toInt c) (w b.toInt.toNat) l.toInt (okb (mayC B.toInt g0.toInt g1.toInt g2.toInt ls.toInt wt.toInt bw y.toInt x.toInt (w b.toInt.toNat))) → Z (some (.int r)) h) : qm_Rp fu X cd_87 (qm_ent 6 [.ref 28, .int b, .int y, .int x] h) Z := by
  refine qm_Rp.go 0 (c' := (0, [.ref 28, .int b, .int y, .int x, .float 0, .float 0], [], h)) rfl ?_
  have kz0 : (0 : Int32).toInt = 0 := rfl
  have kz1 : (1 : Int32).toInt = 1 := rfl
  have kz2 : (2 : Int32).toInt = 2 := rfl
  have kz3 : (3 : Int32).toInt = 3 := rfl
  have kz4 : (4 : Int32).toInt = 4 := rfl
  have kz5 : (5 : Int32).toInt = 5 := rfl
  have kz6 : (6 : Int32).toInt = 6 := rfl
  have kz7 : (7 : Int32).toInt = 7 := rfl
  have kz8 : (8 : Int32).toInt = 8 := rfl
  have kz9 : (9 : Int32).toInt = 9 := rfl
  have kzm1 : ((-1) : Int32).toInt = (-1) := rfl
  have kzm2 : ((-2) : Int32).toInt = (-2) := rfl
  have kzm3 : ((-3) : Int32).toInt = (-3) := rfl
  refine qm_Rp.go 3 (c' := (3, [.ref 28, .int b, .int y, .int x, .float 0, .float 0], [.int x, .int y, .ref 28], h)) rfl ?_
  refine hp_inv (o := 28) (r := []) (as := [.ref 28, .int y, .int x]) rfl rfl (hH.1 28 (9, 8) rfl) rfl rfl rfl ?_
  refine qm_Rp.go 2 (c' := (2, [.ref 28, .int y, .int x], [.int y, .ref 28], h)) rfl ?_
  refine hp_inv (o := 28) (r := []) (as := [.ref 28, .int y]) rfl rfl (hH.1 28 (9, 8) rfl) rfl rfl rfl ?_
  refine qm_Rp.go 1 (c' := (1, [.ref 28, .int y], [.int y], h)) rfl ?_
  refine hp_zlt (ix := y.toInt) rfl rfl (fun z1 => ?_) (fun z1 => ?_)
  · refine qm_Rp.go 1 (c' := (20, [.ref 28, .int y], [.int 0], h)) rfl ?_
    refine qm_Rp.rt (v := (some (.int 0))) (h' := h) rfl ?_
    refine qm_Rp.go 2 (c' := (22, [.ref 28, .int y, .int x], [.int 0], h)) rfl ?_
    refine qm_Rp.rt (v := (some (.int 0))) (h' := h) rfl ?_
    refine qm_Rp.go 2 (c' := (18, [.ref 28, .int b, .int y, .int x, .float 0, .float 0], [.int (-1)], h)) rfl ?_
    refine qm_Rp.rt (v := (some (.int (-1)))) (h' := h) rfl ?_
    exact k (-1) (try_a (fun z => by omega)).symm
  · refine qm_Rp.go 2 (c' := (6, [.ref 28, .int y], [.ref 28, .int y], h)) rfl ?_
    refine hp_getr rfl (hH.1 28 (9, 8) rfl) rfl hT ?_
    refine qm_Rp.go 0 (c' := (9, [.ref 28, .int y], [.ref 111, .int y], h)) rfl ?_
    refine hp_geti (v := B) rfl (hH.1 111 (11, 16) rfl) rfl q_B ?_
    refine qm_Rp.go 0 (c' := (12, [.ref 28, .int y], [.int B, .int y], h)) rfl ?_
    refine hp_cge (ix := y.toInt) (iy := B.toInt) rfl rfl rfl (fun z2 => ?_) (fun z2 => ?_)
    · refine qm_Rp.go 1 (c' := (20, [.ref 28, .int y], [.int 0], h)) rfl ?_
      refine qm_Rp.rt (v := (some (.int 0))) (h' := h) rfl ?_
      refine qm_Rp.go 2 (c' := (22, [.ref 28, .int y, .int x], [.int 0], h)) rfl ?_
      refine qm_Rp.rt (v := (some (.int 0))) (h' := h) rfl ?_
      refine qm_Rp.go 2 (c' := (18, [.ref 28, .int b, .int y, .int x, .float 0, .float 0], [.int (-1)], h)) rfl ?_
      refine qm_Rp.rt (v := (some (.int (-1)))) (h' := h) rfl ?_
      exact k (-1) (try_a (fun z => by omega)).symm
    · refine qm_Rp.go 2 (c' := (20, [.ref 28, .int y], [.int 1], h)) rfl ?_
      refine qm_Rp.rt (v := (some (.int 1))) (h' := h) rfl ?_
      refine qm_Rp.go 2 (c' := (9, [.ref 28, .int y, .int x], [.int x], h)) rfl ?_
      refine hp_zlt (ix := x.toInt) rfl rfl (fun z3 => ?_) (fun z3 => ?_)
      · refine qm_Rp.go 1 (c' := (22, [.ref 28, .int y, .int x], [.int 0], h)) rfl ?_
        refine qm_Rp.rt (v := (some (.int 0))) (h' := h) rfl ?_
        refine qm_Rp.go 2 (c' := (18, [.ref 28, .int b, .int y, .int x, .float 0, .float 0], [.int (-1)], h)) rfl ?_
        refine qm_Rp.rt (v := (some (.int (-1)))) (h' := h) rfl ?_
        exact k (-1) (try_a (fun z => by omega)).symm
      · refine qm_Rp.go 2 (c' := (14, [.ref 28, .int y, .int x], [.int 4, .int x], h)) rfl ?_
        refine hp_cge (ix := x.toInt) (iy := 4) rfl rfl rfl (fun z4 => ?_) (fun z4 => ?_)
        · refine qm_Rp.go 1 (c' := (22, [.ref 28, .int y, .int x], [.int 0], h)) rfl ?_
          refine qm_Rp.rt (v := (some (.int 0))) (h' := h) rfl ?_
          refine qm_Rp.go 2 (c' := (18, [.ref 28, .int b, .int y, .int x, .float 0, .float 0], [.int (-1)], h)) rfl ?_
          refine qm_Rp.rt (v := (some (.int (-1)))) (h' := h) rfl ?_
          exact k (-1) (try_a (fun z => by omega)).symm
        · refine qm_Rp.go 2 (c' := (22, [.ref 28, .int y, .int x], [.int 1], h)) rfl ?_
          refine qm_Rp.rt (v := (some (.int 1))) (h' := h) rfl ?_
          refine qm_Rp.go 3 (c' := (11, [.ref 28, .int b, .int y, .int x, .float 0, .float 0], [.int b, .ref 28], h)) rfl ?_
          refine hp_inv (o := 28) (r := []) (as := [.ref 28, .int b]) rfl rfl (hH.1 28 (9, 8) rfl) rfl rfl rfl ?_
          refine qm_Rp.go 1 (c' := (1, [.ref 28, .int b], [.ref 28], h)) rfl ?_
          refine hp_getr rfl (hH.1 28 (9, 8) rfl) rfl (hH.2 28 0 (some 6) rfl) ?_
          refine qm_Rp.go 1 (c' := (5, [.ref 28, .int b], [.int b, .ref 6], h)) rfl ?_
          refine hp_inv (o := 6) (r := []) (as := [.ref 6, .int b]) rfl rfl (hH.1 6 (6, 9) rfl) rfl rfl rfl ?_
          refine qm_Rp.go 2 (c' := (2, [.ref 6, .int b], [.int b, .ref 6], h)) rfl ?_
          refine hp_inv (o := 6) (r := []) (as := [.ref 6, .int b]) rfl rfl (hH.1 6 (6, 9) rfl) rfl rfl rfl ?_
          refine qm_Rp.go 1 (c' := (1, [.ref 6, .int b], [.int b], h)) rfl ?_
          refine hp_zlt (ix := b.toInt) rfl rfl (fun z5 => ?_) (fun z5 => ?_)
          · refine qm_Rp.go 1 (c' := (17, [.ref 6, .int b], [.int 0], h)) rfl ?_
            refine qm_Rp.rt (v := (some (.int 0))) (h' := h) rfl ?_
            refine qm_Rp.go 2 (c' := (22, [.ref 6, .int b], [.int 0], h)) rfl ?_
            refine qm_Rp.rt (v := (some (.int 0))) (h' := h) rfl ?_
            refine qm_Rp.go 2 (c' := (12, [.ref 28, .int b], [.ref 28], h)) rfl ?_
            refine hp_getr rfl (hH.1 28 (9, 8) rfl) rfl (hH.2 28 0 (some 6) rfl) ?_
            refine qm_Rp.go 1 (c' := (16, [.ref 28, .int b], [.int b, .ref 6], h)) rfl ?_
            refine hp_inv (o := 6) (r := []) (as := [.ref 6, .int b]) rfl rfl (hH.1 6 (6, 9) rfl) rfl rfl rfl ?_
            refine qm_Rp.go 2 (c' := (2, [.ref 6, .int b], [.int b, .ref 6], h)) rfl ?_
            refine hp_inv (o := 6) (r := []) (as := [.ref 6, .int b]) rfl rfl (hH.1 6 (6, 9) rfl) rfl rfl rfl ?_
            refine qm_Rp.go 1 (c' := (1, [.ref 6, .int b], [.int b], h)) rfl ?_
            refine hp_zlt (ix := b.toInt) rfl rfl (fun z6 => ?_) (fun z6 => by exfalso; omega)
            refine qm_Rp.go 1 (c' := (17, [.ref 6, .int b], [.int 0], h)) rfl ?_
            refine qm_Rp.rt (v := (some (.int 0))) (h' := h) rfl ?_
            refine qm_Rp.go 2 (c' := (23, [.ref 6, .int b], [.int 0], h)) rfl ?_
            refine qm_Rp.rt (v := (some (.int 0))) (h' := h) rfl ?_
            refine qm_Rp.go 2 (c' := (47, [.ref 28, .int b], [.int 0], h)) rfl ?_
            refine qm_Rp.rt (v := (some (.int 0))) (h' := h) rfl ?_
            refine qm_Rp.go 0 (c' := (14, [.ref 28, .int b, .int y, .int x, .float 0, .float 0], [.int 0], h)) rfl ?_
            refine qm_Rp.go 2 (c' := (18, [.ref 28, .int b, .int y, .int x, .float 0, .float 0], [.int (-1)], h)) rfl ?_
            refine qm_Rp.rt (v := (some (.int (-1)))) (h' := h) rfl ?_
            exact k (-1) (try_a (fun z => by omega)).symm
          · refine qm_Rp.go 2 (c' := (6, [.ref 6, .int b], [.ref 6, .int b], h)) rfl ?_
            refine hp_geti (v := n) rfl (hH.1 6 (6, 9) rfl) rfl q_n ?_
            refine qm_Rp.go 0 (c' := (9, [.ref 6, .int b], [.int n, .int b], h)) rfl ?_
            refine hp_cge (ix := b.toInt) (iy := n.toInt) rfl rfl rfl (fun z7 => ?_) (fun z7 => ?_)
            · refine qm_Rp.go 1 (c' := (17, [.ref 6, .int b], [.int 0], h)) rfl ?_
              refine qm_Rp.rt (v := (some (.int 0))) (h' := h) rfl ?_
              refine qm_Rp.go 2 (c' := (22, [.ref 6, .int b], [.int 0], h)) rfl ?_
              refine qm_Rp.rt (v := (some (.int 0))) (h' := h) rfl ?_
              refine qm_Rp.go 2 (c' := (12, [.ref 28, .int b], [.ref 28], h)) rfl ?_
              refine hp_getr rfl (hH.1 28 (9, 8) rfl) rfl (hH.2 28 0 (some 6) rfl) ?_
              refine qm_Rp.go 1 (c' := (16, [.ref 28, .int b], [.int b, .ref 6], h)) rfl ?_
              refine hp_inv (o := 6) (r := []) (as := [.ref 6, .int b]) rfl rfl (hH.1 6 (6, 9) rfl) rfl rfl rfl ?_
              refine qm_Rp.go 2 (c' := (2, [.ref 6, .int b], [.int b, .ref 6], h)) rfl ?_
              refine hp_inv (o := 6) (r := []) (as := [.ref 6, .int b]) rfl rfl (hH.1 6 (6, 9) rfl) rfl rfl rfl ?_
              refine qm_Rp.go 1 (c' := (1, [.ref 6, .int b], [.int b], h)) rfl ?_
              refine hp_zlt (ix := b.toInt) rfl rfl (fun z8 => by exfalso; omega) (fun z8 => ?_)
              refine qm_Rp.go 2 (c' := (6, [.ref 6, .int b], [.ref 6, .int b], h)) rfl ?_
              refine hp_geti (v := n) rfl (hH.1 6 (6, 9) rfl) rfl q_n ?_
              refine qm_Rp.go 0 (c' := (9, [.ref 6, .int b], [.int n, .int b], h)) rfl ?_
              refine hp_cge (ix := b.toInt) (iy := n.toInt) rfl rfl rfl (fun z9 => ?_) (fun z9 => by exfalso; omega)
              refine qm_Rp.go 1 (c' := (17, [.ref 6, .int b], [.int 0], h)) rfl ?_
              refine qm_Rp.rt (v := (some (.int 0))) (h' := h) rfl ?_
              refine qm_Rp.go 2 (c' := (23, [.ref 6, .int b], [.int 0], h)) rfl ?_
              refine qm_Rp.rt (v := (some (.int 0))) (h' := h) rfl ?_
              refine qm_Rp.go 2 (c' := (47, [.ref 28, .int b], [.int 0], h)) rfl ?_
              refine qm_Rp.rt (v := (some (.int 0))) (h' := h) rfl ?_
              refine qm_Rp.go 0 (c' := (14, [.ref 28, .int b, .int y, .int x, .float 0, .float 0], [.int 0], h)) rfl ?_
              refine qm_Rp.go 2 (c' := (18, [.ref 28, .int b, .int y, .int x, .float 0, .float 0], [.int (-1)], h)) rfl ?_
              refine qm_Rp.rt (v := (some (.int (-1)))) (h' := h) rfl ?_
              exact k (-1) (try_a (fun z => by omega)).symm
            · refine qm_Rp.go 2 (c' := (17, [.ref 6, .int b], [.int 1], h)) rfl ?_
              refine qm_Rp.rt (v := (some (.int 1))) (h' := h) rfl ?_
              refine qm_Rp.go 2 (c' := (9, [.ref 6, .int b], [.ref 6], h)) rfl ?_
              refine hp_getr rfl (hH.1 6 (6, 9) rfl) rfl (hH.2 6 5 (some 11) rfl) ?_
              refine qm_Rp.go 1 (c' := (13, [.ref 6, .int b], [.int b, .ref 11], h)) rfl ?_
              obtain ⟨v10, q_v10⟩ : ∃ v_, h.2.1 11 b.toInt.toNat = v_ := ⟨_, rfl⟩
              refine hp_ial (v := v10) rfl (hH.1 11 (0, 30) rfl) q_v10 (fun ia_10 ib_10 => ?_)
              refine qm_Rp.go 0 (c' := (14, [.ref 6, .int b], [.int v10], h)) rfl ?_
              have ew : wh b.toInt.toNat = v10.toInt := by rw [← eH]; exact congrArg Int32.toInt q_v10
              have bwh := hh (b.toInt.toNat)
              rw [ew] at bwh
              refine hp_zne (ix := v10.toInt) rfl rfl (fun z12 => ?_) (fun z12 => ?_)
              · refine qm_Rp.go 1 (c' := (22, [.ref 6, .int b], [.int 0], h)) rfl ?_
                refine qm_Rp.rt (v := (some (.int 0))) (h' := h) rfl ?_
                refine qm_Rp.go 2 (c' := (12, [.ref 28, .int b], [.ref 28], h)) rfl ?_
                refine hp_getr rfl (hH.1 28 (9, 8) rfl) rfl (hH.2 28 0 (some 6) rfl) ?_
                refine qm_Rp.go 1 (c' := (16, [.ref 28, .int b], [.int b, .ref 6], h)) rfl ?_
                refine hp_inv (o := 6) (r := []) (as := [.ref 6, .int b]) rfl rfl (hH.1 6 (6, 9) rfl) rfl rfl rfl ?_
                refine qm_Rp.go 2 (c' := (2, [.ref 6, .int b], [.int b, .ref 6], h)) rfl ?_
                refine hp_inv (o := 6) (r := []) (as := [.ref 6, .int b]) rfl rfl (hH.1 6 (6, 9) rfl) rfl rfl rfl ?_
                refine qm_Rp.go 1 (c' := (1, [.ref 6, .int b], [.int b], h)) rfl ?_
                refine hp_zlt (ix := b.toInt) rfl rfl (fun z13 => by exfalso; omega) (fun z13 => ?_)
                refine qm_Rp.go 2 (c' := (6, [.ref 6, .int b], [.ref 6, .int b], h)) rfl ?_
                refine hp_geti (v := n) rfl (hH.1 6 (6, 9) rfl) rfl q_n ?_
                refine qm_Rp.go 0 (c' := (9, [.ref 6, .int b], [.int n, .int b], h)) rfl ?_
                refine hp_cge (ix := b.toInt) (iy := n.toInt) rfl rfl rfl (fun z14 => by exfalso; omega) (fun z14 => ?_)
                refine qm_Rp.go 2 (c' := (17, [.ref 6, .int b], [.int 1], h)) rfl ?_
                refine qm_Rp.rt (v := (some (.int 1))) (h' := h) rfl ?_
                refine qm_Rp.go 2 (c' := (9, [.ref 6, .int b], [.ref 6], h)) rfl ?_
                refine hp_getr rfl (hH.1 6 (6, 9) rfl) rfl (hH.2 6 5 (some 11) rfl) ?_
                refine qm_Rp.go 1 (c' := (13, [.ref 6, .int b], [.int b, .ref 11], h)) rfl ?_
                refine hp_ial (v := v10) rfl (hH.1 11 (0, 30) rfl) q_v10 (fun ia_14 ib_14 => ?_)
                refine qm_Rp.go 0 (c' := (14, [.ref 6, .int b], [.int v10], h)) rfl ?_
                refine qm_Rp.go 1 (c' := (15, [.ref 6, .int b], [.int 1, .int v10], h)) rfl ?_
                refine hp_ceq (ix := v10.toInt) (iy := 1) rfl rfl rfl (fun z16 => ?_) (fun z16 => ?_)
                · refine qm_Rp.go 1 (c' := (23, [.ref 6, .int b], [.int 0], h)) rfl ?_
                  refine qm_Rp.rt (v := (some (.int 0))) (h' := h) rfl ?_
                  refine qm_Rp.go 2 (c' := (47, [.ref 28, .int b], [.int 0], h)) rfl ?_
                  refine qm_Rp.rt (v := (some (.int 0))) (h' := h) rfl ?_
                  refine qm_Rp.go 0 (c' := (14, [.ref 28, .int b, .int y, .int x, .float 0, .float 0], [.int 0], h)) rfl ?_
                  refine qm_Rp.go 2 (c' := (18, [.ref 28, .int b, .int y, .int x, .float 0, .float 0], [.int (-1)], h)) rfl ?_
                  refine qm_Rp.rt (v := (some (.int (-1)))) (h' := h) rfl ?_
                  exact k (-1) (try_a (fun z => absurd (okb_iff.mp z.2.2.2.2.2.2) (by omega))).symm
                · refine qm_Rp.go 2 (c' := (23, [.ref 6, .int b], [.int 1], h)) rfl ?_
                  refine qm_Rp.rt (v := (some (.int 1))) (h' := h) rfl ?_
                  refine qm_Rp.go 2 (c' := (23, [.ref 28, .int b], [.ref 28], h)) rfl ?_
                  refine hp_getr rfl (hH.1 28 (9, 8) rfl) rfl (hH.2 28 1 (some 15) rfl) ?_
                  refine qm_Rp.go 1 (c' := (27, [.ref 28, .int b], [.ref 28, .ref 15], h)) rfl ?_
                  refine hp_getr rfl (hH.1 28 (9, 8) rfl) rfl (hH.2 28 0 (some 6) rfl) ?_
                  refine qm_Rp.go 0 (c' := (30, [.ref 28, .int b], [.ref 6, .ref 15], h)) rfl ?_
                  refine hp_getr rfl (hH.1 6 (6, 9) rfl) rfl (hH.2 6 6 (some 12) rfl) ?_
                  refine qm_Rp.go 1 (c' := (34, [.ref 28, .int b], [.int b, .ref 12, .ref 15], h)) rfl ?_
                  obtain ⟨v17, q_v17⟩ : ∃ v_, h.2.1 12 b.toInt.toNat = v_ := ⟨_, rfl⟩
                  refine hp_ial (v := v17) rfl (hH.1 12 (0, 30) rfl) q_v17 (fun ia_17 ib_17 => ?_)
                  refine qm_Rp.go 0 (c' := (35, [.ref 28, .int b], [.int v17, .ref 15], h)) rfl ?_
                  have ey : yb b.toInt.toNat = v17.toInt := by rw [← e12]; exact congrArg Int32.toInt q_v17
                  refine hp_inv (o := 15) (r := []) (as := [.ref 15, .int v17]) rfl rfl (hH.1 15 (15, 8) rfl) rfl rfl rfl ?_
                  refine qm_Rp.go 1 (c' := (1, [.ref 15, .int v17], [.ref 15], h)) rfl ?_
                  refine hp_getr rfl (hH.1 15 (15, 8) rfl) rfl (hH.2 15 2 (some 17) rfl) ?_
                  refine qm_Rp.go 1 (c' := (5, [.ref 15, .int v17], [.int v17, .ref 17], h)) rfl ?_
                  obtain ⟨v19, q_v19⟩ : ∃ v_, h.2.1 17 v17.toInt.toNat = v_ := ⟨_, rfl⟩
                  refine hp_ial (v := v19) rfl (hH.1 17 (0, 4) rfl) q_v19 (fun ia_19 ib_19 => ?_)
                  refine qm_Rp.go 0 (c' := (6, [.ref 15, .int v17], [.int v19], h)) rfl ?_
                  have eh : hi (yb b.toInt.toNat).toNat = v19.toInt := by rw [ey, ← eI]; exact congrArg Int32.toInt q_v19
                  have bh := hi4 (yb b.toInt.toNat).toNat
                  rw [eh] at bh
                  refine hp_zne (ix := v19.toInt) rfl rfl (fun z21 => ?_) (fun z21 => ?_)
                  · refine qm_Rp.go 1 (c' := (14, [.ref 15, .int v17], [.ref 15], h)) rfl ?_
                    refine hp_getr rfl (hH.1 15 (15, 8) rfl) rfl (hH.2 15 1 (some 16) rfl) ?_
                    refine qm_Rp.go 3 (c' := (20, [.ref 15, .int v17], [.int (v17 * 4), .ref 16], h)) rfl ?_
                    obtain ⟨v22, q_v22, e_v22⟩ := hk_mul (x := v17) (y := 4) (a := v17.toInt) (b := 4) rfl rfl (by omega) (by omega)
                    rw [q_v22]
                    refine qm_Rp.go 1 (c' := (21, [.ref 15, .int v17], [.ref 15, .int v22, .ref 16], h)) rfl ?_
                    refine hp_getr rfl (hH.1 15 (15, 8) rfl) rfl (hH.2 15 2 (some 17) rfl) ?_
                    refine qm_Rp.go 1 (c' := (25, [.ref 15, .int v17], [.int v17, .ref 17, .int v22, .ref 16], h)) rfl ?_
                    refine hp_ial (v := v19) rfl (hH.1 17 (0, 4) rfl) q_v19 (fun ia_22 ib_22 => ?_)
                    refine qm_Rp.go 0 (c' := (26, [.ref 15, .int v17], [.int v19, .int v22, .ref 16], h)) rfl ?_
                    refine qm_Rp.go 1 (c' := (27, [.ref 15, .int v17], [.int (v22 + v19), .ref 16], h)) rfl ?_
                    obtain ⟨v24, q_v24, e_v24⟩ := hk_add (x := v22) (y := v19) (a := v22.toInt) (b := v19.toInt) rfl rfl (by omega) (by omega)
                    rw [q_v24]
                    refine qm_Rp.go 2 (c' := (29, [.ref 15, .int v17], [.int (v24 - 1), .ref 16], h)) rfl ?_
                    obtain ⟨v25, q_v25, e_v25⟩ := hk_sub (x := v24) (y := 1) (a := v24.toInt) (b := 1) rfl rfl (by omega) (by omega)
                    rw [q_v25]
                    obtain ⟨v26, q_v26⟩ : ∃ v_, h.2.1 16 v25.toInt.toNat = v_ := ⟨_, rfl⟩
                    refine hp_ial (v := v26) rfl (hH.1 16 (0, 16) rfl) q_v26 (fun ia_26 ib_26 => ?_)
                    refine qm_Rp.go 0 (c' := (30, [.ref 15, .int v17], [.int v26], h)) rfl ?_
                    have et : yc (4 * yb b.toInt.toNat + hi (yb b.toInt.toNat).toNat - 1).toNat = v26.toInt := by rw [eh, ey, show (4 * v17.toInt + v19.toInt - 1).toNat = v25.toInt.toNat by omega, ← eY]; exact congrArg Int32.toInt q_v26
                    refine qm_Rp.rt (v := (some (.int v26))) (h' := h) rfl ?_
                    refine qm_Rp.go 1 (c' := (39, [.ref 28, .int b], [.int b, .int v26], h)) rfl ?_
                    refine hp_cne (ix := v26.toInt) (iy := b.toInt) rfl rfl rfl (fun z28 => ?_) (fun z28 => ?_)
                    · refine qm_Rp.go 1 (c' := (47, [.ref 28, .int b], [.int 0], h)) rfl ?_
                      refine qm_Rp.rt (v := (some (.int 0))) (h' := h) rfl ?_
                      refine qm_Rp.go 0 (c' := (14, [.ref 28, .int b, .int y, .int x, .float 0, .float 0], [.int 0], h)) rfl ?_
                      refine qm_Rp.go 2 (c' := (18, [.ref 28, .int b, .int y, .int x, .float 0, .float 0], [.int (-1)], h)) rfl ?_
                      refine qm_Rp.rt (v := (some (.int (-1)))) (h' := h) rfl ?_
                      exact k (-1) (try_a (fun z => absurd (okb_iff.mp z.2.2.2.2.2.2) (by omega))).symm
                    · refine qm_Rp.go 2 (c' := (47, [.ref 28, .int b], [.int 1], h)) rfl ?_
                      refine qm_Rp.rt (v := (some (.int 1))) (h' := h) rfl ?_
                      refine qm_Rp.go 0 (c' := (14, [.ref 28, .int b, .int y, .int x, .float 0, .float 0], [.int 1], h)) rfl ?_
                      refine qm_Rp.go 4 (c' := (22, [.ref 28, .int b, .int y, .int x, .float 0, .float 0], [.int x, .int y, .ref 28], h)) rfl ?_
                      refine hp_inv (o := 28) (r := []) (as := [.ref 28, .int y, .int x]) rfl rfl (hH.1 28 (9, 8) rfl) rfl rfl rfl (px_cft hH ⟨by omega, by omega⟩ ⟨by omega, by omega⟩ q_cv (fun fr29 e_fr29 => ?_))
                      rw [eC] at e_fr29
                      refine qm_Rp.go 3 (c' := (30, [.ref 28, .int b, .int y, .int x, .int fr29, .float 0], [.int (-1), .int fr29], h)) rfl ?_
                      refine hp_cne (ix := fr29.toInt) (iy := (-1)) rfl rfl rfl (fun z30 => ?_) (fun z30 => ?_)
                      · refine qm_Rp.go 1 (c' := (36, [.ref 28, .int b, .int y, .int x, .int fr29, .float 0], [.ref 28], h)) rfl ?_
                        refine hp_getr rfl (hH.1 28 (9, 8) rfl) rfl (hH.2 28 0 (some 6) rfl) ?_
                        refine qm_Rp.go 0 (c' := (39, [.ref 28, .int b, .int y, .int x, .int fr29, .float 0], [.ref 6], h)) rfl ?_
                        refine hp_getr rfl (hH.1 6 (6, 9) rfl) rfl (hH.2 6 1 (some 7) rfl) ?_
                        refine qm_Rp.go 1 (c' := (43, [.ref 28, .int b, .int y, .int x, .int fr29, .float 0], [.int b, .ref 7], h)) rfl ?_
                        obtain ⟨v31, q_v31⟩ : ∃ v_, h.2.1 7 b.toInt.toNat = v_ := ⟨_, rfl⟩
                        refine hp_ial (v := v31) rfl (hH.1 7 (0, 30) rfl) q_v31 (fun ia_31 ib_31 => ?_)
                        refine qm_Rp.go 0 (c' := (44, [.ref 28, .int b, .int y, .int x, .int fr29, .float 0], [.int v31], h)) rfl ?_
                        have e_w : w b.toInt.toNat = v31.toInt := by rw [← eW]; exact congrArg Int32.toInt q_v31
                        have b_w := hw (b.toInt.toNat)
                        rw [e_w] at b_w
                        refine qm_Rp.go 3 (c' := (49, [.ref 28, .int b, .int y, .int x, .int fr29, .int v31], [.ref 28, .int v31], h)) rfl ?_
                        refine hp_getr rfl (hH.1 28 (9, 8) rfl) rfl hT ?_
                        refine qm_Rp.go 0 (c' := (52, [.ref 28, .int b, .int y, .int x, .int fr29, .int v31], [.ref 111, .int v31], h)) rfl ?_
                        refine hp_geti (v := l) rfl (hH.1 111 (11, 16) rfl) rfl q_l ?_
                        refine qm_Rp.go 0 (c' := (55, [.ref 28, .int b, .int y, .int x, .int fr29, .int v31], [.int l, .int v31], h)) rfl ?_
                        refine hp_cle (ix := v31.toInt) (iy := l.toInt) rfl rfl rfl (fun z33 => ?_) (fun z33 => ?_)
                        · refine qm_Rp.go 4 (c' := (66, [.ref 28, .int b, .int y, .int x, .int fr29, .int v31], [.int v31, .int x, .int y, .ref 28], h)) rfl ?_
                          refine hp_inv (o := 28) (r := []) (as := [.ref 28, .int y, .int x, .int v31]) rfl rfl (hH.1 28 (9, 8) rfl) rfl rfl rfl (px_cbo111 (m := v31) hH hT q_B hB eV hb q_ls hls q_wt hwt ⟨by omega, by omega⟩ ⟨by omega, by omega⟩ ⟨by omega, by omega⟩ q_g0 q_g1 q_g2 (fun r34 e_r34 => ?_))
                          rcases e_r34 with ⟨hr, hbo⟩ | ⟨hr, hbo⟩
                          · obtain rfl : r34 = 1 := hk_eqi.mpr (hr.trans rfl)
                            refine qm_Rp.go 3 (c' := (90, [.ref 28, .int b, .int y, .int x, .int fr29, .int v31], [.int fr29], h)) rfl ?_
                            refine qm_Rp.rt (v := (some (.int fr29))) (h' := h) rfl ?_
                            exact k fr29 ((try_e ⟨by omega, by omega, by omega, by omega, by omega, by omega⟩ (okb_t (by omega)) (by omega) (by omega) (okb_t (by rw [e_w]; exact Or.inl hbo))).trans (by omega)).symm
                          · obtain rfl : r34 = 0 := hk_eqi.mpr (hr.trans rfl)
                            refine qm_Rp.go 5 (c' := (77, [.ref 28, .int b, .int y, .int x, .int fr29, .int v31], [.int v31, .int x, .int y, .ref 28], h)) rfl ?_
                            refine hp_inv (o := 28) (r := []) (as := [.ref 28, .int y, .int x, .int v31]) rfl rfl (hH.1 28 (9, 8) rfl) rfl rfl rfl (px_cnw111 (m := v31) hH hT q_B hB eV hb q_ls hls q_wt hwt ⟨by omega, by omega⟩ ⟨by omega, by omega⟩ ⟨by omega, by omega⟩ (fun r35 e_r35 => ?_))
                            rcases e_r35 with ⟨hr, hnw⟩ | ⟨hr, hnw⟩
                            · obtain rfl : r35 = 1 := hk_eqi.mpr (hr.trans rfl)
                              refine qm_Rp.go 3 (c' := (90, [.ref 28, .int b, .int y, .int x, .int fr29, .int v31], [.int fr29], h)) rfl ?_
                              refine qm_Rp.rt (v := (some (.int fr29))) (h' := h) rfl ?_
                              exact k fr29 ((try_e ⟨by omega, by omega, by omega, by omega, by omega, by omega⟩ (okb_t (by omega)) (by omega) (by omega) (okb_t (by rw [e_w]; exact Or.inr hnw))).trans (by omega)).symm
                            · obtain rfl : r35 = 0 := hk_eqi.mpr (hr.trans rfl)
                              refine qm_Rp.go 2 (c' := (90, [.ref 28, .int b, .int y, .int x, .int fr29, .int v31], [.int (-3)], h)) rfl ?_
                              refine qm_Rp.rt (v := (some (.int (-3)))) (h' := h) rfl ?_
                              exact k (-3) (try_d ⟨by omega, by omega, by omega, by omega, by omega, by omega⟩ (okb_t (by omega)) (by omega) (by omega) (okb_f (by rw [e_w]; exact fun z => z.elim hbo hnw))).symm
                        · refine qm_Rp.go 1 (c' := (60, [.ref 28, .int b, .int y, .int x, .int fr29, .int v31], [.int (-2)], h)) rfl ?_
                          refine qm_Rp.rt (v := (some (.int (-2)))) (h' := h) rfl ?_
                          exact k (-2) (try_c ⟨by omega, by omega, by omega, by omega, by omega, by omega⟩ (okb_t (by omega)) (by omega) (by omega)).symm
                      · refine qm_Rp.go 1 (c' := (34, [.ref 28, .int b, .int y, .int x, .int fr29, .float 0], [.int (-1)], h)) rfl ?_
                        refine qm_Rp.rt (v := (some (.int (-1)))) (h' := h) rfl ?_
                        exact k (-1) (try_b ⟨by omega, by omega, by omega, by omega, by omega, by omega⟩ (okb_t (by omega)) (by omega)).symm
                  · refine qm_Rp.go 2 (c' := (30, [.ref 15, .int v17], [.int (-1)], h)) rfl ?_
                    refine qm_Rp.rt (v := (some (.int (-1)))) (h' := h) rfl ?_
                    refine qm_Rp.go 1 (c' := (39, [.ref 28, .int b], [.int b, .int (-1)], h)) rfl ?_
                    refine hp_cne (ix := (-1)) (iy := b.toInt) rfl rfl rfl (fun z36 => ?_) (fun z36 => by exfalso; omega)
                    refine qm_Rp.go 1 (c' := (47, [.ref 28, .int b], [.int 0], h)) rfl ?_
                    refine qm_Rp.rt (v := (some (.int 0))) (h' := h) rfl ?_
                    refine qm_Rp.go 0 (c' := (14, [.ref 28, .int b, .int y, .int x, .float 0, .float 0], [.int 0], h)) rfl ?_
                    refine qm_Rp.go 2 (c' := (18, [.ref 28, .int b, .int y, .int x, .float 0, .float 0], [.int (-1)], h)) rfl ?_
                    refine qm_Rp.rt (v := (some (.int (-1)))) (h' := h) rfl ?_
                    exact k (-1) (try_a (fun z => absurd (okb_iff.mp z.2.2.2.2.2.2) (by omega))).symm
              · refine qm_Rp.go 2 (c' := (22, [.ref 6, .int b], [.int 1], h)) rfl ?_
                refine qm_Rp.rt (v := (some (.int 1))) (h' := h) rfl ?_
                refine qm_Rp.go 3 (c' := (47, [.ref 28, .int b], [.int 1], h)) rfl ?_
                refine qm_Rp.rt (v := (some (.int 1))) (h' := h) rfl ?_
                refine qm_Rp.go 0 (c' := (14, [.ref 28, .int b, .int y, .int x, .float 0, .float 0], [.int 1], h)) rfl ?_
                refine qm_Rp.go 4 (c' := (22, [.ref 28, .int b, .int y, .int x, .float 0, .float 0], [.int x, .int y, .ref 28], h)) rfl ?_
                refine hp_inv (o := 28) (r := []) (as := [.ref 28, .int y, .int x]) rfl rfl (hH.1 28 (9, 8) rfl) rfl rfl rfl (px_cft hH ⟨by omega, by omega⟩ ⟨by omega, by omega⟩ q_cv (fun fr37 e_fr37 => ?_))
                rw [eC] at e_fr37
                refine qm_Rp.go 3 (c' := (30, [.ref 28, .int b, .int y, .int x, .int fr37, .float 0], [.int (-1), .int fr37], h)) rfl ?_
                refine hp_cne (ix := fr37.toInt) (iy := (-1)) rfl rfl rfl (fun z38 => ?_) (fun z38 => ?_)
                · refine qm_Rp.go 1 (c' := (36, [.ref 28, .int b, .int y, .int x, .int fr37, .float 0], [.ref 28], h)) rfl ?_
                  refine hp_getr rfl (hH.1 28 (9, 8) rfl) rfl (hH.2 28 0 (some 6) rfl) ?_
                  refine qm_Rp.go 0 (c' := (39, [.ref 28, .int b, .int y, .int x, .int fr37, .float 0], [.ref 6], h)) rfl ?_
                  refine hp_getr rfl (hH.1 6 (6, 9) rfl) rfl (hH.2 6 1 (some 7) rfl) ?_
                  refine qm_Rp.go 1 (c' := (43, [.ref 28, .int b, .int y, .int x, .int fr37, .float 0], [.int b, .ref 7], h)) rfl ?_
                  obtain ⟨v39, q_v39⟩ : ∃ v_, h.2.1 7 b.toInt.toNat = v_ := ⟨_, rfl⟩
                  refine hp_ial (v := v39) rfl (hH.1 7 (0, 30) rfl) q_v39 (fun ia_39 ib_39 => ?_)
                  refine qm_Rp.go 0 (c' := (44, [.ref 28, .int b, .int y, .int x, .int fr37, .float 0], [.int v39], h)) rfl ?_
                  have e_w : w b.toInt.toNat = v39.toInt := by rw [← eW]; exact congrArg Int32.toInt q_v39
                  have b_w := hw (b.toInt.toNat)
                  rw [e_w] at b_w
                  refine qm_Rp.go 3 (c' := (49, [.ref 28, .int b, .int y, .int x, .int fr37, .int v39], [.ref 28, .int v39], h)) rfl ?_
                  refine hp_getr rfl (hH.1 28 (9, 8) rfl) rfl hT ?_
                  refine qm_Rp.go 0 (c' := (52, [.ref 28, .int b, .int y, .int x, .int fr37, .int v39], [.ref 111, .int v39], h)) rfl ?_
                  refine hp_geti (v := l) rfl (hH.1 111 (11, 16) rfl) rfl q_l ?_
                  refine qm_Rp.go 0 (c' := (55, [.ref 28, .int b, .int y, .int x, .int fr37, .int v39], [.int l, .int v39], h)) rfl ?_
                  refine hp_cle (ix := v39.toInt) (iy := l.toInt) rfl rfl rfl (fun z41 => ?_) (fun z41 => ?_)
                  · refine qm_Rp.go 4 (c' := (66, [.ref 28, .int b, .int y, .int x, .int fr37, .int v39], [.int v39, .int x, .int y, .ref 28], h)) rfl ?_
                    refine hp_inv (o := 28) (r := []) (as := [.ref 28, .int y, .int x, .int v39]) rfl rfl (hH.1 28 (9, 8) rfl) rfl rfl rfl (px_cbo111 (m := v39) hH hT q_B hB eV hb q_ls hls q_wt hwt ⟨by omega, by omega⟩ ⟨by omega, by omega⟩ ⟨by omega, by omega⟩ q_g0 q_g1 q_g2 (fun r42 e_r42 => ?_))
                    rcases e_r42 with ⟨hr, hbo⟩ | ⟨hr, hbo⟩
                    · obtain rfl : r42 = 1 := hk_eqi.mpr (hr.trans rfl)
                      refine qm_Rp.go 3 (c' := (90, [.ref 28, .int b, .int y, .int x, .int fr37, .int v39], [.int fr37], h)) rfl ?_
                      refine qm_Rp.rt (v := (some (.int fr37))) (h' := h) rfl ?_
                      exact k fr37 ((try_e ⟨by omega, by omega, by omega, by omega, by omega, by omega⟩ (okb_t (by omega)) (by omega) (by omega) (okb_t (by rw [e_w]; exact Or.inl hbo))).trans (by omega)).symm
                    · obtain rfl : r42 = 0 := hk_eqi.mpr (hr.trans rfl)
                      refine qm_Rp.go 5 (c' := (77, [.ref 28, .int b, .int y, .int x, .int fr37, .int v39], [.int v39, .int x, .int y, .ref 28], h)) rfl ?_
                      refine hp_inv (o := 28) (r := []) (as := [.ref 28, .int y, .int x, .int v39]) rfl rfl (hH.1 28 (9, 8) rfl) rfl rfl rfl (px_cnw111 (m := v39) hH hT q_B hB eV hb q_ls hls q_wt hwt ⟨by omega, by omega⟩ ⟨by omega, by omega⟩ ⟨by omega, by omega⟩ (fun r43 e_r43 => ?_))
                      rcases e_r43 with ⟨hr, hnw⟩ | ⟨hr, hnw⟩
                      · obtain rfl : r43 = 1 := hk_eqi.mpr (hr.trans rfl)
                        refine qm_Rp.go 3 (c' := (90, [.ref 28, .int b, .int y, .int x, .int fr37, .int v39], [.int fr37], h)) rfl ?_
                        refine qm_Rp.rt (v := (some (.int fr37))) (h' := h) rfl ?_
                        exact k fr37 ((try_e ⟨by omega, by omega, by omega, by omega, by omega, by omega⟩ (okb_t (by omega)) (by omega) (by omega) (okb_t (by rw [e_w]; exact Or.inr hnw))).trans (by omega)).symm
                      · obtain rfl : r43 = 0 := hk_eqi.mpr (hr.trans rfl)
                        refine qm_Rp.go 2 (c' := (90, [.ref 28, .int b, .int y, .int x, .int fr37, .int v39], [.int (-3)], h)) rfl ?_
                        refine qm_Rp.rt (v := (some (.int (-3)))) (h' := h) rfl ?_
                        exact k (-3) (try_d ⟨by omega, by omega, by omega, by omega, by omega, by omega⟩ (okb_t (by omega)) (by omega) (by omega) (okb_f (by rw [e_w]; exact fun z => z.elim hbo hnw))).symm
                  · refine qm_Rp.go 1 (c' := (60, [.ref 28, .int b, .int y, .int x, .int fr37, .int v39], [.int (-2)], h)) rfl ?_
                    refine qm_Rp.rt (v := (some (.int (-2)))) (h' := h) rfl ?_
                    exact k (-2) (try_c ⟨by omega, by omega, by omega, by omega, by omega, by omega⟩ (okb_t (by omega)) (by omega) (by omega)).symm
                · refine qm_Rp.go 1 (c' := (34, [.ref 28, .int b, .int y, .int x, .int fr37, .float 0], [.int (-1)], h)) rfl ?_
                  refine qm_Rp.rt (v := (some (.int (-1)))) (h' := h) rfl ?_
                  exact k (-1) (try_b ⟨by omega, by omega, by omega, by omega, by omega, by omega⟩ (okb_t (by omega)) (by omega)).symm
set_option maxHeartbeats 4000000 in
theorem px_cload111 {X : Option (Nat × (Nat → Int32))} {Z : Option Value → qm_H → Prop} {h : qm_H} {fu : Nat} (hH : hk_H h) {b y x : Int32} {n : Int32} (q_n : h.2.1 6 0 = n) (hn : 0 ≤ n.toInt ∧ n.toInt ≤ 30) {w wh yb rb tb c yc hi bw : Nat → Int} (eW : pI h.2.1 7 = w) (eH : pI h.2.1 11 = wh) (e12 : pI h.2.1 12 = yb) (e13 : pI h.2.1 13 = rb) (e14 : pI h.2.1 14 = tb) (eC : pI h.2.1 36 = c) (eY : pI h.2.1 16 = yc) (eI : pI h.2.1 17 = hi) (eV : pI h.2.1 37 = bw) (hw : ∀ b, 0 ≤ w b ∧ w b ≤ 40) (hh : ∀ b, 0 ≤ wh b ∧ wh b ≤ 2) (hc : ∀ k, -1 ≤ c k ∧ c k ≤ 29) (hi4 : ∀ x, 0 ≤ hi x ∧ hi x ≤ 4) (hy29 : ∀ k, 0 ≤ yc k ∧ yc k ≤ 29) (hb : ∀ c, c < 5 → 0 ≤ bw c ∧ bw c ≤ 1200) {ls wt cv : Int32} (q_ls : h.2.1 28 5 = ls) (hls : -3600 ≤ ls.toInt ∧ ls.toInt ≤ 3600) (q_wt : h.2.1 28 6 = wt) (hwt : 0 ≤ wt.toInt ∧ wt.toInt ≤ 1200) (q_cv : h.2.1 28 4 = cv) (hT : h.2.2.2 28 2 = some 111) {B l g0 g1 g2 : Int32} (q_B : h.2.1 111 0 = B) (hB : 1 ≤ B.toInt ∧ B.toInt ≤ 5) (q_g0 : h.2.1 111 1 = g0) (q_g1 : h.2.1 111 2 = g1) (q_g2 : h.2.1 111 3 = g2) (q_l : h.2.1 111 4 = l) (hyb : ∀ b, wh b = 2 → 0 ≤ yb b ∧ yb b ≤ 3) (k0 : ∀ r : Int32, r.toInt = tryV n.toInt b.toInt (okb (wh b.toInt.toNat = 0 ∨ (wh b.toInt.toNat = 2 ∧ hi (yb b.toInt.toNat).toNat ≠ 0 ∧ yc (4 * yb b.toInt.toNat + hi (yb b.toInt.toNat).toNat - 1).toNat = b.toInt))) y.toInt x.toInt B.toInt (frV cv y x.toInt c) (w b.toInt.toNat) l.toInt (okb (mayC B.toInt g0.toInt g1.toInt g2.toInt ls.toInt wt.toInt bw y.toInt x.toInt (w b.toInt.toNat))) → r.toInt < 0 → Z (some (.int r)) h) (k1 : ∀ (I : Nat → Nat → Int32) (r l2 w2 : Int32), (∀ o, [11, 12, 13, 14, 16, 17, 28, 36, 37].contains o = false → ∀ i, I o i = h.2.1 o i) → (∀ i, [5, 6].contains i = false → I 28 i = h.2.1 28 i) → I 28 5 = l2 → I 28 6 = w2 → r.toInt = tryV n.toInt b.toInt (okb (wh b.toInt.toNat = 0 ∨ (wh b.toInt.toNat = 2 ∧ hi (yb b.toInt.toNat).toNat ≠ 0 ∧ yc (4 * yb b.toInt.toNat + hi (yb b.toInt.toNat).toNat - 1).toNat = b.toInt))) y.toInt x.toInt B.toInt (frV cv y x.toInt c) (w b.toInt.toNat) l.toInt (okb (mayC B.toInt g0.toInt g1.toInt g2.toInt ls.toInt wt.toInt bw y.toInt x.toInt (w b.toInt.toNat))) → 0 ≤ r.toInt → l2.toInt = ls.toInt + w b.toInt.toNat * (2 * x.toInt - 3) → w2.toInt = wt.toInt + w b.toInt.toNat → pI I 11 = fu_up wh (b.toInt.toNat) 1 → pI I 12 = fu_up yb (b.toInt.toNat) y.toInt → pI I 13 = fu_up rb (b.toInt.toNat) x.toInt → pI I 14 = fu_up tb (b.toInt.toNat) ((frV cv y x.toInt c) % 4) → pI I 36 = fu_up c (frV cv y x.toInt c).toNat b.toInt → pI I 16 = yc → pI I 17 = (if wh b.toInt.toNat = 2 then fu_up hi (yb b.toInt.toNat).toNat (hi (yb b.toInt.toNat).toNat - 1) else hi) → pI I 37 = fu_up bw y.toInt.toNat (bw y.toInt.toNat + w b.toInt.toNat) → Z (some (.int r)) (h.1, I, h.2.2.1, h.2.2.2)) : qm_Rp fu X cd_86 (qm_ent 5 [.ref 28, .int b, .int y, .int x] h) Z := by
  refine qm_Rp.go 0 (c' := (0, [.ref 28, .int b, .int y, .int x, .float 0], [], h)) rfl ?_
  have kz0 : (0 : Int32).toInt = 0 := rfl
  have kz1 : (1 : Int32).toInt = 1 := rfl
  have kz2 : (2 : Int32).toInt = 2 := rfl
  have kz3 : (3 : Int32).toInt = 3 := rfl
  have kz4 : (4 : Int32).toInt = 4 := rfl
  have kz5 : (5 : Int32).toInt = 5 := rfl
  have kz6 : (6 : Int32).toInt = 6 := rfl
  have kz7 : (7 : Int32).toInt = 7 := rfl
  have kz8 : (8 : Int32).toInt = 8 := rfl
  have kz9 : (9 : Int32).toInt = 9 := rfl
  have kzm1 : ((-1) : Int32).toInt = (-1) := rfl
  have kzm2 : ((-2) : Int32).toInt = (-2) := rfl
  have kzm3 : ((-3) : Int32).toInt = (-3) := rfl
  refine qm_Rp.go 4 (c' := (4, [.ref 28, .int b, .int y, .int x, .float 0], [.int x, .int y, .int b, .ref 28], h)) rfl ?_
  refine hp_inv (o := 28) (r := []) (as := [.ref 28, .int b, .int y, .int x]) rfl rfl (hH.1 28 (9, 8) rfl) rfl rfl rfl (px_ctry111 hH q_n hn eW eH e12 e13 e14 eC eY eI eV hw hh hc hi4 hy29 hb q_ls hls q_wt hwt q_cv hT q_B hB q_g0 q_g1 q_g2 q_l (fun r1 e_r1 => ?_))
  refine qm_Rp.go 2 (c' := (11, [.ref 28, .int b, .int y, .int x, .int r1], [.int r1], h)) rfl ?_
  refine hp_zlt (ix := r1.toInt) rfl rfl (fun z2 => ?_) (fun z2 => ?_)
  · refine qm_Rp.go 1 (c' := (54, [.ref 28, .int b, .int y, .int x, .int r1], [.int r1], h)) rfl ?_
    refine qm_Rp.rt (v := (some (.int r1))) (h' := h) rfl ?_
    exact k0 r1 e_r1 (by omega)
  · refine qm_Rp.go 0 (c' := (14, [.ref 28, .int b, .int y, .int x, .int r1], [], h)) rfl ?_
    obtain ⟨⟨i1, i2, i3, i4, i5, i6⟩, i7, i8, i9, i10, i11⟩ := try_inv (show 0 ≤ tryV n.toInt b.toInt (okb (wh b.toInt.toNat = 0 ∨ (wh b.toInt.toNat = 2 ∧ hi (yb b.toInt.toNat).toNat ≠ 0 ∧ yc (4 * yb b.toInt.toNat + hi (yb b.toInt.toNat).toNat - 1).toNat = b.toInt))) y.toInt x.toInt B.toInt (frV cv y x.toInt c) (w b.toInt.toNat) l.toInt (okb (mayC B.toInt g0.toInt g1.toInt g2.toInt ls.toInt wt.toInt bw y.toInt x.toInt (w b.toInt.toNat))) by rw [← e_r1]; omega)
    have i7 := okb_iff.mp i7
    have fb := fr_in (c := c) (cv := cv) (y := y) (x := x.toInt) ⟨i3, by omega⟩ ⟨i5, i6⟩ i8
    rw [← e_r1] at i11
    refine qm_Rp.go 1 (c' := (15, [.ref 28, .int b, .int y, .int x, .int r1], [.ref 28], h)) rfl ?_
    refine hp_getr rfl (hH.1 28 (9, 8) rfl) rfl (hH.2 28 0 (some 6) rfl) ?_
    refine qm_Rp.go 0 (c' := (18, [.ref 28, .int b, .int y, .int x, .int r1], [.ref 6], h)) rfl ?_
    refine hp_getr rfl (hH.1 6 (6, 9) rfl) rfl (hH.2 6 5 (some 11) rfl) ?_
    refine qm_Rp.go 1 (c' := (22, [.ref 28, .int b, .int y, .int x, .int r1], [.int b, .ref 11], h)) rfl ?_
    obtain ⟨v3, q_v3⟩ : ∃ v_, h.2.1 11 b.toInt.toNat = v_ := ⟨_, rfl⟩
    refine hp_ial (v := v3) rfl (hH.1 11 (0, 30) rfl) q_v3 (fun ia_3 ib_3 => ?_)
    refine qm_Rp.go 0 (c' := (23, [.ref 28, .int b, .int y, .int x, .int r1], [.int v3], h)) rfl ?_
    have ew : wh b.toInt.toNat = v3.toInt := by rw [← eH]; exact congrArg Int32.toInt q_v3
    have bwh := hh (b.toInt.toNat)
    rw [ew] at bwh
    refine qm_Rp.go 1 (c' := (24, [.ref 28, .int b, .int y, .int x, .int r1], [.int 2, .int v3], h)) rfl ?_
    refine hp_cne (ix := v3.toInt) (iy := 2) rfl rfl rfl (fun z5 => ?_) (fun z5 => ?_)
    · refine qm_Rp.go 5 (c' := (49, [.ref 28, .int b, .int y, .int x, .int r1], [.int r1, .int x, .int y, .int b, .ref 28], h)) rfl ?_
      refine hp_inv (o := 28) (r := []) (as := [.ref 28, .int b, .int y, .int x, .int r1]) rfl rfl (hH.1 28 (9, 8) rfl) rfl rfl rfl (px_cput (h := h) hH q_ls (by omega) q_wt (by omega) (w := h.2.1 7 (b.toInt.toNat)) (show (h.2.1) 7 (b.toInt.toNat) = _ from rfl) (pz_in eW hw (b.toInt.toNat)) (pz_w eV (by have := hb y.toInt.toNat (by omega); omega)) ⟨by omega, by omega⟩ ⟨by omega, by omega⟩ ⟨by omega, by omega⟩ (fun I6 l_I6 w_I6 e_I6 x28_I6 q_l2 q_w2 e_l2 e_w2 x11 x12 x13 x14 x36 x37 => ?_))
      have x28_I6 : (∀ i, [5, 6].contains i = false → I6 28 i = (h.2.1) 28 i) := x28_I6
      have x11 : pI I6 11 = fu_up (pI (h.2.1) 11) (b.toInt.toNat) (Int32.toInt 1) := x11
      have x12 : pI I6 12 = fu_up (pI (h.2.1) 12) (b.toInt.toNat) y.toInt := x12
      have x13 : pI I6 13 = fu_up (pI (h.2.1) 13) (b.toInt.toNat) x.toInt := x13
      have x14 : pI I6 14 = fu_up (pI (h.2.1) 14) (b.toInt.toNat) r1.toInt := x14
      have x36 : pI I6 36 = fu_up (pI (h.2.1) 36) (16 * y.toInt + 4 * x.toInt + r1.toInt).toNat b.toInt := x36
      have x37 : pI I6 37 = fu_up (pI (h.2.1) 37) y.toInt.toNat (pI (h.2.1) 37 y.toInt.toNat + (h.2.1 7 (b.toInt.toNat)).toInt) := x37
      have e9 : (h.2.1 7 (b.toInt.toNat)).toInt = w b.toInt.toNat := by rw [← eW]; rfl
      rw [e9] at x37 e_l2 e_w2
      have e_I6 : ∀ o, [11, 12, 13, 14, 28, 36, 37].contains o = false → ∀ i, I6 o i = (h.2.1) o i := e_I6
      have p11_I6 : pI I6 11 = fu_up wh (b.toInt.toNat) 1 := by rw [x11, eH]; exact rfl
      have p12_I6 : pI I6 12 = fu_up yb (b.toInt.toNat) y.toInt := by rw [x12, e12]
      have p13_I6 : pI I6 13 = fu_up rb (b.toInt.toNat) x.toInt := by rw [x13, e13]
      have p14_I6 : pI I6 14 = fu_up tb (b.toInt.toNat) r1.toInt := by rw [x14, e14]
      have p36_I6 : pI I6 36 = fu_up c (frV cv y x.toInt c).toNat b.toInt := by rw [x36, eC, show (16 * y.toInt + 4 * x.toInt + r1.toInt) = frV cv y x.toInt c by omega]
      have p16_I6 : pI I6 16 = yc := (funext fun i => congrArg Int32.toInt (e_I6 16 rfl i)).trans eY
      have p17_I6 : pI I6 17 = hi := (funext fun i => congrArg Int32.toInt (e_I6 17 rfl i)).trans eI
      have p37_I6 : pI I6 37 = fu_up bw y.toInt.toNat (bw y.toInt.toNat + w b.toInt.toNat) := by rw [x37, eV]
      refine qm_Rp.go 1 (c' := (54, [.ref 28, .int b, .int y, .int x, .int r1], [.int r1], (h.1, I6, h.2.2.1, h.2.2.2))) rfl ?_
      refine qm_Rp.rt (v := (some (.int r1))) (h' := (h.1, I6, h.2.2.1, h.2.2.2)) rfl ?_
      exact k1 (I6) r1 l_I6 w_I6 (fun o ho i => ((e_I6 o (hk_ms rfl ho) i).trans rfl)) (fun i hi => ((x28_I6 i (hk_ms rfl hi)).trans rfl)) q_l2 q_w2 e_r1 (by omega) e_l2 e_w2 p11_I6 p12_I6 p13_I6 (p14_I6.trans (by rw [i11])) p36_I6 p16_I6 (p17_I6.trans (if_neg (by omega)).symm) p37_I6
    · refine qm_Rp.go 1 (c' := (28, [.ref 28, .int b, .int y, .int x, .int r1], [.ref 28], h)) rfl ?_
      refine hp_getr rfl (hH.1 28 (9, 8) rfl) rfl (hH.2 28 1 (some 15) rfl) ?_
      refine qm_Rp.go 1 (c' := (32, [.ref 28, .int b, .int y, .int x, .int r1], [.ref 28, .ref 15], h)) rfl ?_
      refine hp_getr rfl (hH.1 28 (9, 8) rfl) rfl (hH.2 28 0 (some 6) rfl) ?_
      refine qm_Rp.go 0 (c' := (35, [.ref 28, .int b, .int y, .int x, .int r1], [.ref 6, .ref 15], h)) rfl ?_
      refine hp_getr rfl (hH.1 6 (6, 9) rfl) rfl (hH.2 6 6 (some 12) rfl) ?_
      refine qm_Rp.go 1 (c' := (39, [.ref 28, .int b, .int y, .int x, .int r1], [.int b, .ref 12, .ref 15], h)) rfl ?_
      obtain ⟨v7, q_v7⟩ : ∃ v_, h.2.1 12 b.toInt.toNat = v_ := ⟨_, rfl⟩
      refine hp_ial (v := v7) rfl (hH.1 12 (0, 30) rfl) q_v7 (fun ia_7 ib_7 => ?_)
      refine qm_Rp.go 0 (c' := (40, [.ref 28, .int b, .int y, .int x, .int r1], [.int v7, .ref 15], h)) rfl ?_
      have ey : yb b.toInt.toNat = v7.toInt := by rw [← e12]; exact congrArg Int32.toInt q_v7
      obtain ⟨j1, j2, j3⟩ := i7.resolve_left (by omega)
      rw [ey] at j2 j3
      have b4 := hi4 v7.toInt.toNat
      have by4 := hyb (b.toInt.toNat) (by omega)
      rw [ey] at by4
      obtain ⟨hv, q_hv⟩ : ∃ v_, h.2.1 17 v7.toInt.toNat = v_ := ⟨_, rfl⟩
      have eh : hi v7.toInt.toNat = hv.toInt := by rw [← eI]; exact congrArg Int32.toInt q_hv
      rw [eh] at j2 j3 b4
      refine hp_inv (o := 15) (r := []) (as := [.ref 15, .int v7]) rfl rfl (hH.1 15 (15, 8) rfl) rfl rfl rfl (px_cth (h := h) (b := b) (v := hv) hH ⟨by omega, by omega⟩ q_hv ⟨by omega, by omega⟩ (pz_at eY j3) ⟨by omega, by omega⟩ (fun I9 e_I9 x11 x12 x13 x14 x17 => ?_))
      have x11 : pI I9 11 = fu_up (pI (h.2.1) 11) (b.toInt.toNat) (Int32.toInt 0) := x11
      have x12 : pI I9 12 = fu_up (pI (h.2.1) 12) (b.toInt.toNat) (Int32.toInt (-1)) := x12
      have x13 : pI I9 13 = fu_up (pI (h.2.1) 13) (b.toInt.toNat) (Int32.toInt (-1)) := x13
      have x14 : pI I9 14 = fu_up (pI (h.2.1) 14) (b.toInt.toNat) (Int32.toInt (-1)) := x14
      have x17 : pI I9 17 = fu_up (pI (h.2.1) 17) v7.toInt.toNat (hv.toInt - 1) := x17
      have e_I9 : ∀ o, [11, 12, 13, 14, 17].contains o = false → ∀ i, I9 o i = (h.2.1) o i := e_I9
      have p11_I9 : pI I9 11 = fu_up wh (b.toInt.toNat) 0 := by rw [x11, eH]; exact rfl
      have p12_I9 : pI I9 12 = fu_up yb (b.toInt.toNat) (-1) := by rw [x12, e12]; exact rfl
      have p13_I9 : pI I9 13 = fu_up rb (b.toInt.toNat) (-1) := by rw [x13, e13]; exact rfl
      have p14_I9 : pI I9 14 = fu_up tb (b.toInt.toNat) (-1) := by rw [x14, e14]; exact rfl
      have p36_I9 : pI I9 36 = c := (funext fun i => congrArg Int32.toInt (e_I9 36 rfl i)).trans eC
      have p16_I9 : pI I9 16 = yc := (funext fun i => congrArg Int32.toInt (e_I9 16 rfl i)).trans eY
      have p17_I9 : pI I9 17 = fu_up hi (yb b.toInt.toNat).toNat (hi (yb b.toInt.toNat).toNat - 1) := by rw [x17, eI, ey, eh]
      have p37_I9 : pI I9 37 = bw := (funext fun i => congrArg Int32.toInt (e_I9 37 rfl i)).trans eV
      refine qm_Rp.go 5 (c' := (49, [.ref 28, .int b, .int y, .int x, .int r1], [.int r1, .int x, .int y, .int b, .ref 28], (h.1, I9, h.2.2.1, h.2.2.2))) rfl ?_
      refine hp_inv (o := 28) (r := []) (as := [.ref 28, .int b, .int y, .int x, .int r1]) rfl rfl (hH.1 28 (9, 8) rfl) rfl rfl rfl (px_cput (h := (h.1, I9, h.2.2.1, h.2.2.2)) hH (show (I9) 28 5 = _ from ((e_I9 28 rfl 5).trans q_ls)) (by omega) (show (I9) 28 6 = _ from ((e_I9 28 rfl 6).trans q_wt)) (by omega) (w := h.2.1 7 (b.toInt.toNat)) (show (I9) 7 (b.toInt.toNat) = _ from ((e_I9 7 rfl (b.toInt.toNat)).trans rfl)) (pz_in eW hw (b.toInt.toNat)) (pz_w p37_I9 (by have := hb y.toInt.toNat (by omega); omega)) ⟨by omega, by omega⟩ ⟨by omega, by omega⟩ ⟨by omega, by omega⟩ (fun I10 l_I10 w_I10 e_I10 x28_I10 q_l2 q_w2 e_l2 e_w2 x11 x12 x13 x14 x36 x37 => ?_))
      have x28_I10 : (∀ i, [5, 6].contains i = false → I10 28 i = (I9) 28 i) := x28_I10
      have x11 : pI I10 11 = fu_up (pI (I9) 11) (b.toInt.toNat) (Int32.toInt 1) := x11
      have x12 : pI I10 12 = fu_up (pI (I9) 12) (b.toInt.toNat) y.toInt := x12
      have x13 : pI I10 13 = fu_up (pI (I9) 13) (b.toInt.toNat) x.toInt := x13
      have x14 : pI I10 14 = fu_up (pI (I9) 14) (b.toInt.toNat) r1.toInt := x14
      have x36 : pI I10 36 = fu_up (pI (I9) 36) (16 * y.toInt + 4 * x.toInt + r1.toInt).toNat b.toInt := x36
      have x37 : pI I10 37 = fu_up (pI (I9) 37) y.toInt.toNat (pI (I9) 37 y.toInt.toNat + (h.2.1 7 (b.toInt.toNat)).toInt) := x37
      have e9 : (h.2.1 7 (b.toInt.toNat)).toInt = w b.toInt.toNat := by rw [← eW]; rfl
      rw [e9] at x37 e_l2 e_w2
      have e_I10 : ∀ o, [11, 12, 13, 14, 28, 36, 37].contains o = false → ∀ i, I10 o i = (I9) o i := e_I10
      have p11_I10 : pI I10 11 = fu_up wh (b.toInt.toNat) 1 := by rw [x11, p11_I9]; exact fu_fu2
      have p12_I10 : pI I10 12 = fu_up yb (b.toInt.toNat) y.toInt := by rw [x12, p12_I9]; exact fu_fu2
      have p13_I10 : pI I10 13 = fu_up rb (b.toInt.toNat) x.toInt := by rw [x13, p13_I9]; exact fu_fu2
      have p14_I10 : pI I10 14 = fu_up tb (b.toInt.toNat) r1.toInt := by rw [x14, p14_I9]; exact fu_fu2
      have p36_I10 : pI I10 36 = fu_up c (frV cv y x.toInt c).toNat b.toInt := by rw [x36, p36_I9, show (16 * y.toInt + 4 * x.toInt + r1.toInt) = frV cv y x.toInt c by omega]
      have p16_I10 : pI I10 16 = yc := (funext fun i => congrArg Int32.toInt (e_I10 16 rfl i)).trans p16_I9
      have p17_I10 : pI I10 17 = fu_up hi (yb b.toInt.toNat).toNat (hi (yb b.toInt.toNat).toNat - 1) := (funext fun i => congrArg Int32.toInt (e_I10 17 rfl i)).trans p17_I9
      have p37_I10 : pI I10 37 = fu_up bw y.toInt.toNat (bw y.toInt.toNat + w b.toInt.toNat) := by rw [x37, p37_I9]
      refine qm_Rp.go 1 (c' := (54, [.ref 28, .int b, .int y, .int x, .int r1], [.int r1], (h.1, I10, h.2.2.1, h.2.2.2))) rfl ?_
      refine qm_Rp.rt (v := (some (.int r1))) (h' := (h.1, I10, h.2.2.1, h.2.2.2)) rfl ?_
      exact k1 (I10) r1 l_I10 w_I10 (fun o ho i => ((e_I10 o (hk_ms rfl ho) i).trans ((e_I9 o (hk_ms rfl ho) i).trans rfl))) (fun i hi => ((x28_I10 i (hk_ms rfl hi)).trans ((e_I9 28 rfl i).trans rfl))) q_l2 q_w2 e_r1 (by omega) e_l2 e_w2 p11_I10 p12_I10 p13_I10 (p14_I10.trans (by rw [i11])) p36_I10 p16_I10 (p17_I10.trans (if_pos (by omega)).symm) p37_I10
