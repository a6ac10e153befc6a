set_option maxHeartbeats 4000000 in
theorem px_cl00 {X : Option (Nat × (Nat → Int32))} {Z : Option Value → qm_H → Prop} {h : qm_H} {fu : Nat} (hH : hk_H h) {y x g le b : Int32} {w wh yb rb tb c yc hi bw : Nat → Int} {ls wt : Int32} (q_ls : h.2.1 28 5 = ls) (hls : -3600 ≤ ls.toInt ∧ ls.toInt ≤ 3600) (q_wt : h.2.1 28 6 = wt) (hwt : 0 ≤ wt.toInt ∧ wt.toInt ≤ 1200) (eW : pI h.2.1 7 = w) (eH : pI h.2.1 11 = wh) (e12 : pI h.2.1 12 = yb) (e13 : pI h.2.1 13 = rb) (e14 : pI h.2.1 14 = tb) (eC : pI h.2.1 36 = c) (eY : pI h.2.1 16 = yc) (eI : pI h.2.1 17 = hi) (eV : pI h.2.1 37 = bw) (hw : ∀ b, 0 ≤ w b ∧ w b ≤ 40) (hi4 : ∀ x, 0 ≤ hi x ∧ hi x ≤ 4) (hb : ∀ c, c < 5 → 0 ≤ bw c ∧ bw c ≤ 1200) (by_ : 0 ≤ y.toInt ∧ y.toInt ≤ 4) (bx_ : 0 ≤ x.toInt ∧ x.toInt ≤ 3) (bg_ : -1 ≤ g.toInt ∧ g.toInt ≤ 3) (hm : g.toInt ≠ -1 → hi g.toInt.toNat + 1 ≤ 4) (bb_b : 0 ≤ b.toInt ∧ b.toInt ≤ 29) (eb_b : c (16 * y.toInt + 4 * x.toInt + 0).toNat = b.toInt) (ey_b : yb b.toInt.toNat = y.toInt) (ex_b : rb b.toInt.toNat = x.toInt) (et_b : tb b.toInt.toNat = 0) (k : ∀ (I : Nat → Nat → Int32) (l2 w2 : Int32), (∀ o, [11, 12, 13, 14, 16, 17, 28, 36, 37].contains o = false → ∀ i, I o i = h.2.1 o i) → (∀ i, [5, 6].contains i = false → I 28 i = h.2.1 28 i) → I 28 5 = l2 → I 28 6 = w2 → l2.toInt = ls.toInt - w b.toInt.toNat * (2 * x.toInt - 3) → w2.toInt = wt.toInt - w b.toInt.toNat → pI I 11 = fu_up wh b.toInt.toNat (if g.toInt = -1 then 0 else 2) → pI I 12 = fu_up yb b.toInt.toNat (if g.toInt = -1 then -1 else g.toInt) → pI I 13 = fu_up rb b.toInt.toNat (-1) → pI I 14 = fu_up tb b.toInt.toNat (if g.toInt = -1 then -1 else hi g.toInt.toNat) → pI I 36 = fu_up c (16 * y.toInt + 4 * x.toInt + 0).toNat (-1) → pI I 16 = (if g.toInt = -1 then yc else fu_up yc (4 * g.toInt + hi g.toInt.toNat).toNat b.toInt) → pI I 17 = (if g.toInt = -1 then hi else fu_up hi g.toInt.toNat (hi g.toInt.toNat + 1)) → pI I 37 = fu_up bw y.toInt.toNat (bw y.toInt.toNat + -w b.toInt.toNat) → Z (some (.int 1)) (h.1, I, h.2.2.1, h.2.2.2)) : qm_Rp fu X cd_102 (197, [.ref 28, .int y, .int x, .int g, .int 0, .int b, .int 0, .int 1, .int le, .float 0], [], h) Z := by
  have kz0 : (0 : Int32).toInt = 0 := rfl
  have kz1 : (1 : Int32).toInt = 1 := rfl
  have kz2 : (2 : Int32).toInt = 2 := rfl
  have kz3 : (3 : Int32).toInt = 3 := rfl
  have kz4 : (4 : Int32).toInt = 4 := rfl
  have kz5 : (5 : Int32).toInt = 5 := rfl
  have kz6 : (6 : Int32).toInt = 6 := rfl
  have kz7 : (7 : Int32).toInt = 7 := rfl
  have kz8 : (8 : Int32).toInt = 8 := rfl
  have kz9 : (9 : Int32).toInt = 9 := rfl
  have kzm1 : ((-1) : Int32).toInt = (-1) := rfl
  have kzm2 : ((-2) : Int32).toInt = (-2) := rfl
  have kzm3 : ((-3) : Int32).toInt = (-3) := rfl
  refine qm_Rp.go 6 (c' := (209, [.ref 28, .int y, .int x, .int g, .int 0, .int b, .int 0, .int 1, .int le, .int 0], [.ref 28], h)) rfl ?_
  refine qm_Rp.go 1 (c' := (210, [.ref 28, .int y, .int x, .int g, .int 0, .int b, .int 0, .int 1, .int le, .int 0], [.ref 28, .ref 28], h)) rfl ?_
  refine hp_getr rfl (hH.1 28 (9, 8) rfl) rfl (hH.2 28 3 (some 36) rfl) ?_
  refine qm_Rp.go 3 (c' := (217, [.ref 28, .int y, .int x, .int g, .int 0, .int b, .int 0, .int 1, .int le, .int 0], [.int 0, .int x, .int y, .ref 36, .ref 28], h)) rfl ?_
  refine qm_Rp.call (j := 75) (as := [.int y, .int x, .int 0]) (c' := (220, [.ref 28, .int y, .int x, .int g, .int 0, .int b, .int 0, .int 1, .int le, .int 0], [.ref 36, .ref 28], h)) rfl rfl ?_
  refine qm_Rp.go 3 (c' := (3, [.int y, .int x, .int 0], [.int (y * 4)], h)) rfl ?_
  obtain ⟨v1, q_v1, e_v1⟩ := hk_mul (x := y) (y := 4) (a := y.toInt) (b := 4) rfl rfl (by omega) (by omega)
  rw [q_v1]
  refine qm_Rp.go 2 (c' := (5, [.int y, .int x, .int 0], [.int (v1 + x)], h)) rfl ?_
  obtain ⟨v2, q_v2, e_v2⟩ := hk_add (x := v1) (y := x) (a := v1.toInt) (b := x.toInt) rfl rfl (by omega) (by omega)
  rw [q_v2]
  refine qm_Rp.go 2 (c' := (7, [.int y, .int x, .int 0], [.int (v2 * 4)], h)) rfl ?_
  obtain ⟨v3, q_v3, e_v3⟩ := hk_mul (x := v2) (y := 4) (a := v2.toInt) (b := 4) rfl rfl (by omega) (by omega)
  rw [q_v3]
  refine qm_Rp.go 2 (c' := (9, [.int y, .int x, .int 0], [.int (v3 + 0)], h)) rfl ?_
  obtain ⟨v4, q_v4, e_v4⟩ := hk_add (x := v3) (y := 0) (a := v3.toInt) (b := 0) rfl rfl (by omega) (by omega)
  rw [q_v4]
  refine qm_Rp.rt (v := (some (.int v4))) (h' := h) rfl ?_
  refine qm_Rp.go 0 (c' := (220, [.ref 28, .int y, .int x, .int g, .int 0, .int b, .int 0, .int 1, .int le, .int 0], [.int v4, .ref 36, .ref 28], h)) rfl ?_
  obtain ⟨v5, q_v5⟩ : ∃ v_, h.2.1 36 v4.toInt.toNat = v_ := ⟨_, rfl⟩
  refine hp_ial (v := v5) rfl (hH.1 36 (0, 80) rfl) q_v5 (fun ia_5 ib_5 => ?_)
  refine qm_Rp.go 0 (c' := (221, [.ref 28, .int y, .int x, .int g, .int 0, .int b, .int 0, .int 1, .int le, .int 0], [.int v5, .ref 28], h)) rfl ?_
  obtain rfl : b = v5 := hk_eqi.mpr ((show v5.toInt = (c) ((16 * y.toInt + 4 * x.toInt + 0)).toNat from by rw [show ((16 * y.toInt + 4 * x.toInt + 0)).toNat = v4.toInt.toNat by omega]; exact (congrArg Int32.toInt q_v5).symm.trans (congrFun eC _)).trans (eb_b)).symm
  refine qm_Rp.go 1 (c' := (222, [.ref 28, .int y, .int x, .int g, .int 0, .int b, .int 0, .int 1, .int le, .int 0], [.int g, .int b, .ref 28], h)) rfl ?_
  refine hp_inv (o := 28) (r := []) (as := [.ref 28, .int b, .int g]) rfl rfl (hH.1 28 (9, 8) rfl) rfl rfl rfl ?_
  refine qm_Rp.go 2 (c' := (2, [.ref 28, .int b, .int g], [.int b, .ref 28], h)) rfl ?_
  refine hp_inv (o := 28) (r := []) (as := [.ref 28, .int b]) rfl rfl (hH.1 28 (9, 8) rfl) rfl rfl rfl (px_crem (h := h) hH q_ls (by omega) q_wt (by omega) (w := h.2.1 7 (b.toInt.toNat)) (show (h.2.1) 7 (b.toInt.toNat) = _ from rfl) (pz_in eW hw (b.toInt.toNat)) (pz_w eV (by have := hb y.toInt.toNat (by omega); omega)) (y := y) (x := x) (t := 0) (pz_at e12 (ey_b)) (pz_at e13 (ex_b)) (pz_at e14 ((et_b).trans rfl)) ⟨by omega, by omega⟩ ⟨by omega, by omega⟩ ⟨by decide, by decide⟩ (fun I7 l_I7 w_I7 e_I7 x28_I7 q_l_I7 q_w_I7 e_l_I7 e_w_I7 x11 x12 x13 x14 x36 x37 => ?_))
  have x28_I7 : (∀ i, [5, 6].contains i = false → I7 28 i = (h.2.1) 28 i) := x28_I7
  have x11 : pI I7 11 = fu_up (pI (h.2.1) 11) (b.toInt.toNat) (Int32.toInt 0) := x11
  have x12 : pI I7 12 = fu_up (pI (h.2.1) 12) (b.toInt.toNat) (Int32.toInt (-1)) := x12
  have x13 : pI I7 13 = fu_up (pI (h.2.1) 13) (b.toInt.toNat) (Int32.toInt (-1)) := x13
  have x14 : pI I7 14 = fu_up (pI (h.2.1) 14) (b.toInt.toNat) (Int32.toInt (-1)) := x14
  have x36 : pI I7 36 = fu_up (pI (h.2.1) 36) (16 * y.toInt + 4 * x.toInt + Int32.toInt 0).toNat (Int32.toInt (-1)) := x36
  have x37 : pI I7 37 = fu_up (pI (h.2.1) 37) y.toInt.toNat (pI (h.2.1) 37 y.toInt.toNat + -(h.2.1 7 (b.toInt.toNat)).toInt) := x37
  have e9_b : (h.2.1 7 (b.toInt.toNat)).toInt = w b.toInt.toNat := by rw [← eW]; rfl
  rw [e9_b] at x37 e_l_I7 e_w_I7
  have m_b := zm_bd (x := w b.toInt.toNat) (y := 2 * x.toInt - 3) (u := 40) (p := 3) (q := 3) (hw _).1 (hw _).2 (by omega) (by omega) (by omega) (by omega)
  rw [Int.neg_mul] at e_l_I7
  have bw_b := hw b.toInt.toNat
  have e_I7 : ∀ o, [11, 12, 13, 14, 28, 36, 37].contains o = false → ∀ i, I7 o i = (h.2.1) o i := e_I7
  have p11_I7 : pI I7 11 = fu_up wh (b.toInt.toNat) 0 := by rw [x11, eH]; exact rfl
  have p12_I7 : pI I7 12 = fu_up yb (b.toInt.toNat) (-1) := by rw [x12, e12]; exact rfl
  have p13_I7 : pI I7 13 = fu_up rb (b.toInt.toNat) (-1) := by rw [x13, e13]; exact rfl
  have p14_I7 : pI I7 14 = fu_up tb (b.toInt.toNat) (-1) := by rw [x14, e14]; exact rfl
  have p36_I7 : pI I7 36 = fu_up c ((16 * y.toInt + 4 * x.toInt + 0)).toNat (-1) := by rw [x36, eC]; exact rfl
  have p16_I7 : pI I7 16 = yc := (funext fun i => congrArg Int32.toInt (e_I7 16 rfl i)).trans eY
  have p17_I7 : pI I7 17 = hi := (funext fun i => congrArg Int32.toInt (e_I7 17 rfl i)).trans eI
  have p37_I7 : pI I7 37 = fu_up bw y.toInt.toNat (bw y.toInt.toNat + -w b.toInt.toNat) := by rw [x37, eV]
  refine qm_Rp.go 2 (c' := (7, [.ref 28, .int b, .int g], [.int (-1), .int g], (h.1, I7, h.2.2.1, h.2.2.2))) rfl ?_
  refine hp_ceq (ix := g.toInt) (iy := (-1)) rfl rfl rfl (fun z8 => ?_) (fun z8 => ?_)
  · refine qm_Rp.go 0 (c' := (20, [.ref 28, .int b, .int g], [], (h.1, I7, h.2.2.1, h.2.2.2))) rfl ?_
    refine qm_Rp.rt (v := none) (h' := (h.1, I7, h.2.2.1, h.2.2.2)) rfl ?_
    refine qm_Rp.go 6 (c' := (233, [.ref 28, .int y, .int x, .int g, .int 0, .int b, .int 0, .int 1, .int le, .int 1], [.int 1], (h.1, I7, h.2.2.1, h.2.2.2))) rfl ?_
    refine qm_Rp.rt (v := (some (.int 1))) (h' := (h.1, I7, h.2.2.1, h.2.2.2)) rfl ?_
    exact k (I7) l_I7 w_I7 (fun o ho i => ((e_I7 o (hk_ms rfl ho) i).trans rfl)) (fun i hi => ((x28_I7 i (hk_ms rfl hi)).trans rfl)) q_l_I7 q_w_I7 (by omega) (by omega) (p11_I7.trans (by rw [if_pos (show g.toInt = -1 by omega)])) (p12_I7.trans (by rw [if_pos (show g.toInt = -1 by omega)])) p13_I7 (p14_I7.trans (by rw [if_pos (show g.toInt = -1 by omega)])) p36_I7 (p16_I7.trans (by rw [if_pos (show g.toInt = -1 by omega)])) (p17_I7.trans (by rw [if_pos (show g.toInt = -1 by omega)])) p37_I7
  · refine qm_Rp.go 1 (c' := (11, [.ref 28, .int b, .int g], [.ref 28], (h.1, I7, h.2.2.1, h.2.2.2))) rfl ?_
    refine hp_getr rfl (hH.1 28 (9, 8) rfl) rfl (hH.2 28 1 (some 15) rfl) ?_
    refine qm_Rp.go 2 (c' := (16, [.ref 28, .int b, .int g], [.int g, .int b, .ref 15], (h.1, I7, h.2.2.1, h.2.2.2))) rfl ?_
    have ev : ((I7) 17 g.toInt.toNat).toInt = hi g.toInt.toNat := by rw [show ((I7) 17 g.toInt.toNat).toInt = (hi) g.toInt.toNat from congrFun p17_I7 _]
    have bg := hi4 g.toInt.toNat
    refine hp_inv (o := 15) (r := []) (as := [.ref 15, .int b, .int g]) rfl rfl (hH.1 15 (15, 8) rfl) rfl rfl rfl (px_cyp (h := (h.1, I7, h.2.2.1, h.2.2.2)) hH (v := (I7) 17 g.toInt.toNat) ⟨by omega, by omega⟩ rfl (by rw [ev]; omega) (fun I9 e_I9 x11 x12 x13 x14 x16 x17 => ?_))
    have x11 : pI I9 11 = fu_up (pI (I7) 11) (b.toInt.toNat) (Int32.toInt 2) := x11
    have x12 : pI I9 12 = fu_up (pI (I7) 12) (b.toInt.toNat) g.toInt := x12
    have x13 : pI I9 13 = fu_up (pI (I7) 13) (b.toInt.toNat) (Int32.toInt (-1)) := x13
    have x14 : pI I9 14 = fu_up (pI (I7) 14) (b.toInt.toNat) ((I7) 17 g.toInt.toNat).toInt := x14
    have x16 : pI I9 16 = fu_up (pI (I7) 16) (4 * g.toInt + ((I7) 17 g.toInt.toNat).toInt).toNat b.toInt := x16
    have x17 : pI I9 17 = fu_up (pI (I7) 17) g.toInt.toNat (((I7) 17 g.toInt.toNat).toInt + 1) := x17
    rw [ev] at x14 x16 x17
    have e_I9 : ∀ o, [11, 12, 13, 14, 16, 17].contains o = false → ∀ i, I9 o i = (I7) o i := e_I9
    have p11_I9 : pI I9 11 = fu_up wh (b.toInt.toNat) 2 := by rw [x11, p11_I7]; exact fu_fu2
    have p12_I9 : pI I9 12 = fu_up yb (b.toInt.toNat) g.toInt := by rw [x12, p12_I7]; exact fu_fu2
    have p13_I9 : pI I9 13 = fu_up rb (b.toInt.toNat) (-1) := by rw [x13, p13_I7]; exact fu_fu2
    have p14_I9 : pI I9 14 = fu_up tb (b.toInt.toNat) (hi g.toInt.toNat) := by rw [x14, p14_I7]; exact fu_fu2
    have p36_I9 : pI I9 36 = fu_up c ((16 * y.toInt + 4 * x.toInt + 0)).toNat (-1) := (funext fun i => congrArg Int32.toInt (e_I9 36 rfl i)).trans p36_I7
    have p16_I9 : pI I9 16 = fu_up yc (4 * g.toInt + hi g.toInt.toNat).toNat b.toInt := by rw [x16, p16_I7]
    have p17_I9 : pI I9 17 = fu_up hi g.toInt.toNat (hi g.toInt.toNat + 1) := by rw [x17, p17_I7]
    have p37_I9 : pI I9 37 = fu_up bw y.toInt.toNat (bw y.toInt.toNat + -w b.toInt.toNat) := (funext fun i => congrArg Int32.toInt (e_I9 37 rfl i)).trans p37_I7
    refine qm_Rp.go 1 (c' := (20, [.ref 28, .int b, .int g], [], (h.1, I9, h.2.2.1, h.2.2.2))) rfl ?_
    refine qm_Rp.rt (v := none) (h' := (h.1, I9, h.2.2.1, h.2.2.2)) rfl ?_
    refine qm_Rp.go 6 (c' := (233, [.ref 28, .int y, .int x, .int g, .int 0, .int b, .int 0, .int 1, .int le, .int 1], [.int 1], (h.1, I9, h.2.2.1, h.2.2.2))) rfl ?_
    refine qm_Rp.rt (v := (some (.int 1))) (h' := (h.1, I9, h.2.2.1, h.2.2.2)) rfl ?_
    exact k (I9) l_I7 w_I7 (fun o ho i => ((e_I9 o (hk_ms rfl ho) i).trans ((e_I7 o (hk_ms rfl ho) i).trans rfl))) (fun i hi => ((e_I9 28 rfl i).trans ((x28_I7 i (hk_ms rfl hi)).trans rfl))) (show (I9) 28 5 = _ from ((e_I9 28 rfl 5).trans q_l_I7)) (show (I9) 28 6 = _ from ((e_I9 28 rfl 6).trans q_w_I7)) (by omega) (by omega) (p11_I9.trans (by rw [if_neg (show ¬ g.toInt = -1 by omega)])) (p12_I9.trans (by rw [if_neg (show ¬ g.toInt = -1 by omega)])) p13_I9 (p14_I9.trans (by rw [if_neg (show ¬ g.toInt = -1 by omega)])) p36_I9 (p16_I9.trans (by rw [if_neg (show ¬ g.toInt = -1 by omega)])) (p17_I9.trans (by rw [if_neg (show ¬ g.toInt = -1 by omega)])) p37_I9
set_option maxHeartbeats 4000000 in
theorem px_cl11 {X : Option (Nat × (Nat → Int32))} {Z : Option Value → qm_H → Prop} {h : qm_H} {fu : Nat} (hH : hk_H h) {y x g le b : Int32} {w wh yb rb tb c yc hi bw : Nat → Int} {ls wt : Int32} (q_ls : h.2.1 28 5 = ls) (hls : -3600 ≤ ls.toInt ∧ ls.toInt ≤ 3600) (q_wt : h.2.1 28 6 = wt) (hwt : 0 ≤ wt.toInt ∧ wt.toInt ≤ 1200) (eW : pI h.2.1 7 = w) (eH : pI h.2.1 11 = wh) (e12 : pI h.2.1 12 = yb) (e13 : pI h.2.1 13 = rb) (e14 : pI h.2.1 14 = tb) (eC : pI h.2.1 36 = c) (eY : pI h.2.1 16 = yc) (eI : pI h.2.1 17 = hi) (eV : pI h.2.1 37 = bw) (hw : ∀ b, 0 ≤ w b ∧ w b ≤ 40) (hi4 : ∀ x, 0 ≤ hi x ∧ hi x ≤ 4) (hb : ∀ c, c < 5 → 0 ≤ bw c ∧ bw c ≤ 1200) (by_ : 0 ≤ y.toInt ∧ y.toInt ≤ 4) (bx_ : 0 ≤ x.toInt ∧ x.toInt ≤ 3) (bg_ : -1 ≤ g.toInt ∧ g.toInt ≤ 3) (hm : g.toInt ≠ -1 → hi g.toInt.toNat + 1 ≤ 4) (bb_b : 0 ≤ b.toInt ∧ b.toInt ≤ 29) (eb_b : c (16 * y.toInt + 4 * x.toInt + 1).toNat = b.toInt) (ey_b : yb b.toInt.toNat = y.toInt) (ex_b : rb b.toInt.toNat = x.toInt) (et_b : tb b.toInt.toNat = 1) (k : ∀ (I : Nat → Nat → Int32) (l2 w2 : Int32), (∀ o, [11, 12, 13, 14, 16, 17, 28, 36, 37].contains o = false → ∀ i, I o i = h.2.1 o i) → (∀ i, [5, 6].contains i = false → I 28 i = h.2.1 28 i) → I 28 5 = l2 → I 28 6 = w2 → l2.toInt = ls.toInt - w b.toInt.toNat * (2 * x.toInt - 3) → w2.toInt = wt.toInt - w b.toInt.toNat → pI I 11 = fu_up wh b.toInt.toNat (if g.toInt = -1 then 0 else 2) → pI I 12 = fu_up yb b.toInt.toNat (if g.toInt = -1 then -1 else g.toInt) → pI I 13 = fu_up rb b.toInt.toNat (-1) → pI I 14 = fu_up tb b.toInt.toNat (if g.toInt = -1 then -1 else hi g.toInt.toNat) → pI I 36 = fu_up c (16 * y.toInt + 4 * x.toInt + 1).toNat (-1) → pI I 16 = (if g.toInt = -1 then yc else fu_up yc (4 * g.toInt + hi g.toInt.toNat).toNat b.toInt) → pI I 17 = (if g.toInt = -1 then hi else fu_up hi g.toInt.toNat (hi g.toInt.toNat + 1)) → pI I 37 = fu_up bw y.toInt.toNat (bw y.toInt.toNat + -w b.toInt.toNat) → Z (some (.int 1)) (h.1, I, h.2.2.1, h.2.2.2)) : qm_Rp fu X cd_102 (197, [.ref 28, .int y, .int x, .int g, .int 1, .int b, .int 1, .int 1, .int le, .float 0], [], h) Z := by
  have kz0 : (0 : Int32).toInt = 0 := rfl
  have kz1 : (1 : Int32).toInt = 1 := rfl
  have kz2 : (2 : Int32).toInt = 2 := rfl
  have kz3 : (3 : Int32).toInt = 3 := rfl
  have kz4 : (4 : Int32).toInt = 4 := rfl
  have kz5 : (5 : Int32).toInt = 5 := rfl
  have kz6 : (6 : Int32).toInt = 6 := rfl
  have kz7 : (7 : Int32).toInt = 7 := rfl
  have kz8 : (8 : Int32).toInt = 8 := rfl
  have kz9 : (9 : Int32).toInt = 9 := rfl
  have kzm1 : ((-1) : Int32).toInt = (-1) := rfl
  have kzm2 : ((-2) : Int32).toInt = (-2) := rfl
  have kzm3 : ((-3) : Int32).toInt = (-3) := rfl
  refine qm_Rp.go 6 (c' := (209, [.ref 28, .int y, .int x, .int g, .int 1, .int b, .int 1, .int 1, .int le, .int 1], [.ref 28], h)) rfl ?_
  refine qm_Rp.go 1 (c' := (210, [.ref 28, .int y, .int x, .int g, .int 1, .int b, .int 1, .int 1, .int le, .int 1], [.ref 28, .ref 28], h)) rfl ?_
  refine hp_getr rfl (hH.1 28 (9, 8) rfl) rfl (hH.2 28 3 (some 36) rfl) ?_
  refine qm_Rp.go 3 (c' := (217, [.ref 28, .int y, .int x, .int g, .int 1, .int b, .int 1, .int 1, .int le, .int 1], [.int 1, .int x, .int y, .ref 36, .ref 28], h)) rfl ?_
  refine qm_Rp.call (j := 75) (as := [.int y, .int x, .int 1]) (c' := (220, [.ref 28, .int y, .int x, .int g, .int 1, .int b, .int 1, .int 1, .int le, .int 1], [.ref 36, .ref 28], h)) rfl rfl ?_
  refine qm_Rp.go 3 (c' := (3, [.int y, .int x, .int 1], [.int (y * 4)], h)) rfl ?_
  obtain ⟨v1, q_v1, e_v1⟩ := hk_mul (x := y) (y := 4) (a := y.toInt) (b := 4) rfl rfl (by omega) (by omega)
  rw [q_v1]
  refine qm_Rp.go 2 (c' := (5, [.int y, .int x, .int 1], [.int (v1 + x)], h)) rfl ?_
  obtain ⟨v2, q_v2, e_v2⟩ := hk_add (x := v1) (y := x) (a := v1.toInt) (b := x.toInt) rfl rfl (by omega) (by omega)
  rw [q_v2]
  refine qm_Rp.go 2 (c' := (7, [.int y, .int x, .int 1], [.int (v2 * 4)], h)) rfl ?_
  obtain ⟨v3, q_v3, e_v3⟩ := hk_mul (x := v2) (y := 4) (a := v2.toInt) (b := 4) rfl rfl (by omega) (by omega)
  rw [q_v3]
  refine qm_Rp.go 2 (c' := (9, [.int y, .int x, .int 1], [.int (v3 + 1)], h)) rfl ?_
  obtain ⟨v4, q_v4, e_v4⟩ := hk_add (x := v3) (y := 1) (a := v3.toInt) (b := 1) rfl rfl (by omega) (by omega)
  rw [q_v4]
  refine qm_Rp.rt (v := (some (.int v4))) (h' := h) rfl ?_
  refine qm_Rp.go 0 (c' := (220, [.ref 28, .int y, .int x, .int g, .int 1, .int b, .int 1, .int 1, .int le, .int 1], [.int v4, .ref 36, .ref 28], h)) rfl ?_
  obtain ⟨v5, q_v5⟩ : ∃ v_, h.2.1 36 v4.toInt.toNat = v_ := ⟨_, rfl⟩
  refine hp_ial (v := v5) rfl (hH.1 36 (0, 80) rfl) q_v5 (fun ia_5 ib_5 => ?_)
  refine qm_Rp.go 0 (c' := (221, [.ref 28, .int y, .int x, .int g, .int 1, .int b, .int 1, .int 1, .int le, .int 1], [.int v5, .ref 28], h)) rfl ?_
  obtain rfl : b = v5 := hk_eqi.mpr ((show v5.toInt = (c) ((16 * y.toInt + 4 * x.toInt + 1)).toNat from by rw [show ((16 * y.toInt + 4 * x.toInt + 1)).toNat = v4.toInt.toNat by omega]; exact (congrArg Int32.toInt q_v5).symm.trans (congrFun eC _)).trans (eb_b)).symm
  refine qm_Rp.go 1 (c' := (222, [.ref 28, .int y, .int x, .int g, .int 1, .int b, .int 1, .int 1, .int le, .int 1], [.int g, .int b, .ref 28], h)) rfl ?_
  refine hp_inv (o := 28) (r := []) (as := [.ref 28, .int b, .int g]) rfl rfl (hH.1 28 (9, 8) rfl) rfl rfl rfl ?_
  refine qm_Rp.go 2 (c' := (2, [.ref 28, .int b, .int g], [.int b, .ref 28], h)) rfl ?_
  refine hp_inv (o := 28) (r := []) (as := [.ref 28, .int b]) rfl rfl (hH.1 28 (9, 8) rfl) rfl rfl rfl (px_crem (h := h) hH q_ls (by omega) q_wt (by omega) (w := h.2.1 7 (b.toInt.toNat)) (show (h.2.1) 7 (b.toInt.toNat) = _ from rfl) (pz_in eW hw (b.toInt.toNat)) (pz_w eV (by have := hb y.toInt.toNat (by omega); omega)) (y := y) (x := x) (t := 1) (pz_at e12 (ey_b)) (pz_at e13 (ex_b)) (pz_at e14 ((et_b).trans rfl)) ⟨by omega, by omega⟩ ⟨by omega, by omega⟩ ⟨by decide, by decide⟩ (fun I7 l_I7 w_I7 e_I7 x28_I7 q_l_I7 q_w_I7 e_l_I7 e_w_I7 x11 x12 x13 x14 x36 x37 => ?_))
  have x28_I7 : (∀ i, [5, 6].contains i = false → I7 28 i = (h.2.1) 28 i) := x28_I7
  have x11 : pI I7 11 = fu_up (pI (h.2.1) 11) (b.toInt.toNat) (Int32.toInt 0) := x11
  have x12 : pI I7 12 = fu_up (pI (h.2.1) 12) (b.toInt.toNat) (Int32.toInt (-1)) := x12
  have x13 : pI I7 13 = fu_up (pI (h.2.1) 13) (b.toInt.toNat) (Int32.toInt (-1)) := x13
  have x14 : pI I7 14 = fu_up (pI (h.2.1) 14) (b.toInt.toNat) (Int32.toInt (-1)) := x14
  have x36 : pI I7 36 = fu_up (pI (h.2.1) 36) (16 * y.toInt + 4 * x.toInt + Int32.toInt 1).toNat (Int32.toInt (-1)) := x36
  have x37 : pI I7 37 = fu_up (pI (h.2.1) 37) y.toInt.toNat (pI (h.2.1) 37 y.toInt.toNat + -(h.2.1 7 (b.toInt.toNat)).toInt) := x37
  have e9_b : (h.2.1 7 (b.toInt.toNat)).toInt = w b.toInt.toNat := by rw [← eW]; rfl
  rw [e9_b] at x37 e_l_I7 e_w_I7
  have m_b := zm_bd (x := w b.toInt.toNat) (y := 2 * x.toInt - 3) (u := 40) (p := 3) (q := 3) (hw _).1 (hw _).2 (by omega) (by omega) (by omega) (by omega)
  rw [Int.neg_mul] at e_l_I7
  have bw_b := hw b.toInt.toNat
  have e_I7 : ∀ o, [11, 12, 13, 14, 28, 36, 37].contains o = false → ∀ i, I7 o i = (h.2.1) o i := e_I7
  have p11_I7 : pI I7 11 = fu_up wh (b.toInt.toNat) 0 := by rw [x11, eH]; exact rfl
  have p12_I7 : pI I7 12 = fu_up yb (b.toInt.toNat) (-1) := by rw [x12, e12]; exact rfl
  have p13_I7 : pI I7 13 = fu_up rb (b.toInt.toNat) (-1) := by rw [x13, e13]; exact rfl
  have p14_I7 : pI I7 14 = fu_up tb (b.toInt.toNat) (-1) := by rw [x14, e14]; exact rfl
  have p36_I7 : pI I7 36 = fu_up c ((16 * y.toInt + 4 * x.toInt + 1)).toNat (-1) := by rw [x36, eC]; exact rfl
  have p16_I7 : pI I7 16 = yc := (funext fun i => congrArg Int32.toInt (e_I7 16 rfl i)).trans eY
  have p17_I7 : pI I7 17 = hi := (funext fun i => congrArg Int32.toInt (e_I7 17 rfl i)).trans eI
  have p37_I7 : pI I7 37 = fu_up bw y.toInt.toNat (bw y.toInt.toNat + -w b.toInt.toNat) := by rw [x37, eV]
  refine qm_Rp.go 2 (c' := (7, [.ref 28, .int b, .int g], [.int (-1), .int g], (h.1, I7, h.2.2.1, h.2.2.2))) rfl ?_
  refine hp_ceq (ix := g.toInt) (iy := (-1)) rfl rfl rfl (fun z8 => ?_) (fun z8 => ?_)
  · refine qm_Rp.go 0 (c' := (20, [.ref 28, .int b, .int g], [], (h.1, I7, h.2.2.1, h.2.2.2))) rfl ?_
    refine qm_Rp.rt (v := none) (h' := (h.1, I7, h.2.2.1, h.2.2.2)) rfl ?_
    refine qm_Rp.go 6 (c' := (233, [.ref 28, .int y, .int x, .int g, .int 1, .int b, .int 1, .int 1, .int le, .int 2], [.int 1], (h.1, I7, h.2.2.1, h.2.2.2))) rfl ?_
    refine qm_Rp.rt (v := (some (.int 1))) (h' := (h.1, I7, h.2.2.1, h.2.2.2)) rfl ?_
    exact k (I7) l_I7 w_I7 (fun o ho i => ((e_I7 o (hk_ms rfl ho) i).trans rfl)) (fun i hi => ((x28_I7 i (hk_ms rfl hi)).trans rfl)) q_l_I7 q_w_I7 (by omega) (by omega) (p11_I7.trans (by rw [if_pos (show g.toInt = -1 by omega)])) (p12_I7.trans (by rw [if_pos (show g.toInt = -1 by omega)])) p13_I7 (p14_I7.trans (by rw [if_pos (show g.toInt = -1 by omega)])) p36_I7 (p16_I7.trans (by rw [if_pos (show g.toInt = -1 by omega)])) (p17_I7.trans (by rw [if_pos (show g.toInt = -1 by omega)])) p37_I7
  · refine qm_Rp.go 1 (c' := (11, [.ref 28, .int b, .int g], [.ref 28], (h.1, I7, h.2.2.1, h.2.2.2))) rfl ?_
    refine hp_getr rfl (hH.1 28 (9, 8) rfl) rfl (hH.2 28 1 (some 15) rfl) ?_
    refine qm_Rp.go 2 (c' := (16, [.ref 28, .int b, .int g], [.int g, .int b, .ref 15], (h.1, I7, h.2.2.1, h.2.2.2))) rfl ?_
    have ev : ((I7) 17 g.toInt.toNat).toInt = hi g.toInt.toNat := by rw [show ((I7) 17 g.toInt.toNat).toInt = (hi) g.toInt.toNat from congrFun p17_I7 _]
    have bg := hi4 g.toInt.toNat
    refine hp_inv (o := 15) (r := []) (as := [.ref 15, .int b, .int g]) rfl rfl (hH.1 15 (15, 8) rfl) rfl rfl rfl (px_cyp (h := (h.1, I7, h.2.2.1, h.2.2.2)) hH (v := (I7) 17 g.toInt.toNat) ⟨by omega, by omega⟩ rfl (by rw [ev]; omega) (fun I9 e_I9 x11 x12 x13 x14 x16 x17 => ?_))
    have x11 : pI I9 11 = fu_up (pI (I7) 11) (b.toInt.toNat) (Int32.toInt 2) := x11
    have x12 : pI I9 12 = fu_up (pI (I7) 12) (b.toInt.toNat) g.toInt := x12
    have x13 : pI I9 13 = fu_up (pI (I7) 13) (b.toInt.toNat) (Int32.toInt (-1)) := x13
    have x14 : pI I9 14 = fu_up (pI (I7) 14) (b.toInt.toNat) ((I7) 17 g.toInt.toNat).toInt := x14
    have x16 : pI I9 16 = fu_up (pI (I7) 16) (4 * g.toInt + ((I7) 17 g.toInt.toNat).toInt).toNat b.toInt := x16
    have x17 : pI I9 17 = fu_up (pI (I7) 17) g.toInt.toNat (((I7) 17 g.toInt.toNat).toInt + 1) := x17
    rw [ev] at x14 x16 x17
    have e_I9 : ∀ o, [11, 12, 13, 14, 16, 17].contains o = false → ∀ i, I9 o i = (I7) o i := e_I9
    have p11_I9 : pI I9 11 = fu_up wh (b.toInt.toNat) 2 := by rw [x11, p11_I7]; exact fu_fu2
    have p12_I9 : pI I9 12 = fu_up yb (b.toInt.toNat) g.toInt := by rw [x12, p12_I7]; exact fu_fu2
    have p13_I9 : pI I9 13 = fu_up rb (b.toInt.toNat) (-1) := by rw [x13, p13_I7]; exact fu_fu2
    have p14_I9 : pI I9 14 = fu_up tb (b.toInt.toNat) (hi g.toInt.toNat) := by rw [x14, p14_I7]; exact fu_fu2
    have p36_I9 : pI I9 36 = fu_up c ((16 * y.toInt + 4 * x.toInt + 1)).toNat (-1) := (funext fun i => congrArg Int32.toInt (e_I9 36 rfl i)).trans p36_I7
    have p16_I9 : pI I9 16 = fu_up yc (4 * g.toInt + hi g.toInt.toNat).toNat b.toInt := by rw [x16, p16_I7]
    have p17_I9 : pI I9 17 = fu_up hi g.toInt.toNat (hi g.toInt.toNat + 1) := by rw [x17, p17_I7]
    have p37_I9 : pI I9 37 = fu_up bw y.toInt.toNat (bw y.toInt.toNat + -w b.toInt.toNat) := (funext fun i => congrArg Int32.toInt (e_I9 37 rfl i)).trans p37_I7
    refine qm_Rp.go 1 (c' := (20, [.ref 28, .int b, .int g], [], (h.1, I9, h.2.2.1, h.2.2.2))) rfl ?_
    refine qm_Rp.rt (v := none) (h' := (h.1, I9, h.2.2.1, h.2.2.2)) rfl ?_
    refine qm_Rp.go 6 (c' := (233, [.ref 28, .int y, .int x, .int g, .int 1, .int b, .int 1, .int 1, .int le, .int 2], [.int 1], (h.1, I9, h.2.2.1, h.2.2.2))) rfl ?_
    refine qm_Rp.rt (v := (some (.int 1))) (h' := (h.1, I9, h.2.2.1, h.2.2.2)) rfl ?_
    exact k (I9) l_I7 w_I7 (fun o ho i => ((e_I9 o (hk_ms rfl ho) i).trans ((e_I7 o (hk_ms rfl ho) i).trans rfl))) (fun i hi => ((e_I9 28 rfl i).trans ((x28_I7 i (hk_ms rfl hi)).trans rfl))) (show (I9) 28 5 = _ from ((e_I9 28 rfl 5).trans q_l_I7)) (show (I9) 28 6 = _ from ((e_I9 28 rfl 6).trans q_w_I7)) (by omega) (by omega) (p11_I9.trans (by rw [if_neg (show ¬ g.toInt = -1 by omega)])) (p12_I9.trans (by rw [if_neg (show ¬ g.toInt = -1 by omega)])) p13_I9 (p14_I9.trans (by rw [if_neg (show ¬ g.toInt = -1 by omega)])) p36_I9 (p16_I9.trans (by rw [if_neg (show ¬ g.toInt = -1 by omega)])) (p17_I9.trans (by rw [if_neg (show ¬ g.toInt = -1 by omega)])) p37_I9
set_option maxHeartbeats 4000000 in
theorem px_cl22 {X : Option (Nat × (Nat → Int32))} {Z : Option Value → qm_H → Prop} {h : qm_H} {fu : Nat} (hH : hk_H h) {y x g le b : Int32} {w wh yb rb tb c yc hi bw : Nat → Int} {ls wt : Int32} (q_ls : h.2.1 28 5 = ls) (hls : -3600 ≤ ls.toInt ∧ ls.toInt ≤ 3600) (q_wt : h.2.1 28 6 = wt) (hwt : 0 ≤ wt.toInt ∧ wt.toInt ≤ 1200) (eW : pI h.2.1 7 = w) (eH : pI h.2.1 11 = wh) (e12 : pI h.2.1 12 = yb) (e13 : pI h.2.1 13 = rb) (e14 : pI h.2.1 14 = tb) (eC : pI h.2.1 36 = c) (eY : pI h.2.1 16 = yc) (eI : pI h.2.1 17 = hi) (eV : pI h.2.1 37 = bw) (hw : ∀ b, 0 ≤ w b ∧ w b ≤ 40) (hi4 : ∀ x, 0 ≤ hi x ∧ hi x ≤ 4) (hb : ∀ c, c < 5 → 0 ≤ bw c ∧ bw c ≤ 1200) (by_ : 0 ≤ y.toInt ∧ y.toInt ≤ 4) (bx_ : 0 ≤ x.toInt ∧ x.toInt ≤ 3) (bg_ : -1 ≤ g.toInt ∧ g.toInt ≤ 3) (hm : g.toInt ≠ -1 → hi g.toInt.toNat + 1 ≤ 4) (bb_b : 0 ≤ b.toInt ∧ b.toInt ≤ 29) (eb_b : c (16 * y.toInt + 4 * x.toInt + 2).toNat = b.toInt) (ey_b : yb b.toInt.toNat = y.toInt) (ex_b : rb b.toInt.toNat = x.toInt) (et_b : tb b.toInt.toNat = 2) (k : ∀ (I : Nat → Nat → Int32) (l2 w2 : Int32), (∀ o, [11, 12, 13, 14, 16, 17, 28, 36, 37].contains o = false → ∀ i, I o i = h.2.1 o i) → (∀ i, [5, 6].contains i = false → I 28 i = h.2.1 28 i) → I 28 5 = l2 → I 28 6 = w2 → l2.toInt = ls.toInt - w b.toInt.toNat * (2 * x.toInt - 3) → w2.toInt = wt.toInt - w b.toInt.toNat → pI I 11 = fu_up wh b.toInt.toNat (if g.toInt = -1 then 0 else 2) → pI I 12 = fu_up yb b.toInt.toNat (if g.toInt = -1 then -1 else g.toInt) → pI I 13 = fu_up rb b.toInt.toNat (-1) → pI I 14 = fu_up tb b.toInt.toNat (if g.toInt = -1 then -1 else hi g.toInt.toNat) → pI I 36 = fu_up c (16 * y.toInt + 4 * x.toInt + 2).toNat (-1) → pI I 16 = (if g.toInt = -1 then yc else fu_up yc (4 * g.toInt + hi g.toInt.toNat).toNat b.toInt) → pI I 17 = (if g.toInt = -1 then hi else fu_up hi g.toInt.toNat (hi g.toInt.toNat + 1)) → pI I 37 = fu_up bw y.toInt.toNat (bw y.toInt.toNat + -w b.toInt.toNat) → Z (some (.int 1)) (h.1, I, h.2.2.1, h.2.2.2)) : qm_Rp fu X cd_102 (197, [.ref 28, .int y, .int x, .int g, .int 2, .int b, .int 2, .int 1, .int le, .float 0], [], h) Z := by
  have kz0 : (0 : Int32).toInt = 0 := rfl
  have kz1 : (1 : Int32).toInt = 1 := rfl
  have kz2 : (2 : Int32).toInt = 2 := rfl
  have kz3 : (3 : Int32).toInt = 3 := rfl
  have kz4 : (4 : Int32).toInt = 4 := rfl
  have kz5 : (5 : Int32).toInt = 5 := rfl
  have kz6 : (6 : Int32).toInt = 6 := rfl
  have kz7 : (7 : Int32).toInt = 7 := rfl
  have kz8 : (8 : Int32).toInt = 8 := rfl
  have kz9 : (9 : Int32).toInt = 9 := rfl
  have kzm1 : ((-1) : Int32).toInt = (-1) := rfl
  have kzm2 : ((-2) : Int32).toInt = (-2) := rfl
  have kzm3 : ((-3) : Int32).toInt = (-3) := rfl
  refine qm_Rp.go 6 (c' := (209, [.ref 28, .int y, .int x, .int g, .int 2, .int b, .int 2, .int 1, .int le, .int 2], [.ref 28], h)) rfl ?_
  refine qm_Rp.go 1 (c' := (210, [.ref 28, .int y, .int x, .int g, .int 2, .int b, .int 2, .int 1, .int le, .int 2], [.ref 28, .ref 28], h)) rfl ?_
  refine hp_getr rfl (hH.1 28 (9, 8) rfl) rfl (hH.2 28 3 (some 36) rfl) ?_
  refine qm_Rp.go 3 (c' := (217, [.ref 28, .int y, .int x, .int g, .int 2, .int b, .int 2, .int 1, .int le, .int 2], [.int 2, .int x, .int y, .ref 36, .ref 28], h)) rfl ?_
  refine qm_Rp.call (j := 75) (as := [.int y, .int x, .int 2]) (c' := (220, [.ref 28, .int y, .int x, .int g, .int 2, .int b, .int 2, .int 1, .int le, .int 2], [.ref 36, .ref 28], h)) rfl rfl ?_
  refine qm_Rp.go 3 (c' := (3, [.int y, .int x, .int 2], [.int (y * 4)], h)) rfl ?_
  obtain ⟨v1, q_v1, e_v1⟩ := hk_mul (x := y) (y := 4) (a := y.toInt) (b := 4) rfl rfl (by omega) (by omega)
  rw [q_v1]
  refine qm_Rp.go 2 (c' := (5, [.int y, .int x, .int 2], [.int (v1 + x)], h)) rfl ?_
  obtain ⟨v2, q_v2, e_v2⟩ := hk_add (x := v1) (y := x) (a := v1.toInt) (b := x.toInt) rfl rfl (by omega) (by omega)
  rw [q_v2]
  refine qm_Rp.go 2 (c' := (7, [.int y, .int x, .int 2], [.int (v2 * 4)], h)) rfl ?_
  obtain ⟨v3, q_v3, e_v3⟩ := hk_mul (x := v2) (y := 4) (a := v2.toInt) (b := 4) rfl rfl (by omega) (by omega)
  rw [q_v3]
  refine qm_Rp.go 2 (c' := (9, [.int y, .int x, .int 2], [.int (v3 + 2)], h)) rfl ?_
  obtain ⟨v4, q_v4, e_v4⟩ := hk_add (x := v3) (y := 2) (a := v3.toInt) (b := 2) rfl rfl (by omega) (by omega)
  rw [q_v4]
  refine qm_Rp.rt (v := (some (.int v4))) (h' := h) rfl ?_
  refine qm_Rp.go 0 (c' := (220, [.ref 28, .int y, .int x, .int g, .int 2, .int b, .int 2, .int 1, .int le, .int 2], [.int v4, .ref 36, .ref 28], h)) rfl ?_
  obtain ⟨v5, q_v5⟩ : ∃ v_, h.2.1 36 v4.toInt.toNat = v_ := ⟨_, rfl⟩
  refine hp_ial (v := v5) rfl (hH.1 36 (0, 80) rfl) q_v5 (fun ia_5 ib_5 => ?_)
  refine qm_Rp.go 0 (c' := (221, [.ref 28, .int y, .int x, .int g, .int 2, .int b, .int 2, .int 1, .int le, .int 2], [.int v5, .ref 28], h)) rfl ?_
  obtain rfl : b = v5 := hk_eqi.mpr ((show v5.toInt = (c) ((16 * y.toInt + 4 * x.toInt + 2)).toNat from by rw [show ((16 * y.toInt + 4 * x.toInt + 2)).toNat = v4.toInt.toNat by omega]; exact (congrArg Int32.toInt q_v5).symm.trans (congrFun eC _)).trans (eb_b)).symm
  refine qm_Rp.go 1 (c' := (222, [.ref 28, .int y, .int x, .int g, .int 2, .int b, .int 2, .int 1, .int le, .int 2], [.int g, .int b, .ref 28], h)) rfl ?_
  refine hp_inv (o := 28) (r := []) (as := [.ref 28, .int b, .int g]) rfl rfl (hH.1 28 (9, 8) rfl) rfl rfl rfl ?_
  refine qm_Rp.go 2 (c' := (2, [.ref 28, .int b, .int g], [.int b, .ref 28], h)) rfl ?_
  refine hp_inv (o := 28) (r := []) (as := [.ref 28, .int b]) rfl rfl (hH.1 28 (9, 8) rfl) rfl rfl rfl (px_crem (h := h) hH q_ls (by omega) q_wt (by omega) (w := h.2.1 7 (b.toInt.toNat)) (show (h.2.1) 7 (b.toInt.toNat) = _ from rfl) (pz_in eW hw (b.toInt.toNat)) (pz_w eV (by have := hb y.toInt.toNat (by omega); omega)) (y := y) (x := x) (t := 2) (pz_at e12 (ey_b)) (pz_at e13 (ex_b)) (pz_at e14 ((et_b).trans rfl)) ⟨by omega, by omega⟩ ⟨by omega, by omega⟩ ⟨by decide, by decide⟩ (fun I7 l_I7 w_I7 e_I7 x28_I7 q_l_I7 q_w_I7 e_l_I7 e_w_I7 x11 x12 x13 x14 x36 x37 => ?_))
  have x28_I7 : (∀ i, [5, 6].contains i = false → I7 28 i = (h.2.1) 28 i) := x28_I7
  have x11 : pI I7 11 = fu_up (pI (h.2.1) 11) (b.toInt.toNat) (Int32.toInt 0) := x11
  have x12 : pI I7 12 = fu_up (pI (h.2.1) 12) (b.toInt.toNat) (Int32.toInt (-1)) := x12
  have x13 : pI I7 13 = fu_up (pI (h.2.1) 13) (b.toInt.toNat) (Int32.toInt (-1)) := x13
  have x14 : pI I7 14 = fu_up (pI (h.2.1) 14) (b.toInt.toNat) (Int32.toInt (-1)) := x14
  have x36 : pI I7 36 = fu_up (pI (h.2.1) 36) (16 * y.toInt + 4 * x.toInt + Int32.toInt 2).toNat (Int32.toInt (-1)) := x36
  have x37 : pI I7 37 = fu_up (pI (h.2.1) 37) y.toInt.toNat (pI (h.2.1) 37 y.toInt.toNat + -(h.2.1 7 (b.toInt.toNat)).toInt) := x37
  have e9_b : (h.2.1 7 (b.toInt.toNat)).toInt = w b.toInt.toNat := by rw [← eW]; rfl
  rw [e9_b] at x37 e_l_I7 e_w_I7
  have m_b := zm_bd (x := w b.toInt.toNat) (y := 2 * x.toInt - 3) (u := 40) (p := 3) (q := 3) (hw _).1 (hw _).2 (by omega) (by omega) (by omega) (by omega)
  rw [Int.neg_mul] at e_l_I7
  have bw_b := hw b.toInt.toNat
  have e_I7 : ∀ o, [11, 12, 13, 14, 28, 36, 37].contains o = false → ∀ i, I7 o i = (h.2.1) o i := e_I7
  have p11_I7 : pI I7 11 = fu_up wh (b.toInt.toNat) 0 := by rw [x11, eH]; exact rfl
  have p12_I7 : pI I7 12 = fu_up yb (b.toInt.toNat) (-1) := by rw [x12, e12]; exact rfl
  have p13_I7 : pI I7 13 = fu_up rb (b.toInt.toNat) (-1) := by rw [x13, e13]; exact rfl
  have p14_I7 : pI I7 14 = fu_up tb (b.toInt.toNat) (-1) := by rw [x14, e14]; exact rfl
  have p36_I7 : pI I7 36 = fu_up c ((16 * y.toInt + 4 * x.toInt + 2)).toNat (-1) := by rw [x36, eC]; exact rfl
  have p16_I7 : pI I7 16 = yc := (funext fun i => congrArg Int32.toInt (e_I7 16 rfl i)).trans eY
  have p17_I7 : pI I7 17 = hi := (funext fun i => congrArg Int32.toInt (e_I7 17 rfl i)).trans eI
  have p37_I7 : pI I7 37 = fu_up bw y.toInt.toNat (bw y.toInt.toNat + -w b.toInt.toNat) := by rw [x37, eV]
  refine qm_Rp.go 2 (c' := (7, [.ref 28, .int b, .int g], [.int (-1), .int g], (h.1, I7, h.2.2.1, h.2.2.2))) rfl ?_
  refine hp_ceq (ix := g.toInt) (iy := (-1)) rfl rfl rfl (fun z8 => ?_) (fun z8 => ?_)
  · refine qm_Rp.go 0 (c' := (20, [.ref 28, .int b, .int g], [], (h.1, I7, h.2.2.1, h.2.2.2))) rfl ?_
    refine qm_Rp.rt (v := none) (h' := (h.1, I7, h.2.2.1, h.2.2.2)) rfl ?_
    refine qm_Rp.go 6 (c' := (233, [.ref 28, .int y, .int x, .int g, .int 2, .int b, .int 2, .int 1, .int le, .int 3], [.int 1], (h.1, I7, h.2.2.1, h.2.2.2))) rfl ?_
    refine qm_Rp.rt (v := (some (.int 1))) (h' := (h.1, I7, h.2.2.1, h.2.2.2)) rfl ?_
    exact k (I7) l_I7 w_I7 (fun o ho i => ((e_I7 o (hk_ms rfl ho) i).trans rfl)) (fun i hi => ((x28_I7 i (hk_ms rfl hi)).trans rfl)) q_l_I7 q_w_I7 (by omega) (by omega) (p11_I7.trans (by rw [if_pos (show g.toInt = -1 by omega)])) (p12_I7.trans (by rw [if_pos (show g.toInt = -1 by omega)])) p13_I7 (p14_I7.trans (by rw [if_pos (show g.toInt = -1 by omega)])) p36_I7 (p16_I7.trans (by rw [if_pos (show g.toInt = -1 by omega)])) (p17_I7.trans (by rw [if_pos (show g.toInt = -1 by omega)])) p37_I7
  · refine qm_Rp.go 1 (c' := (11, [.ref 28, .int b, .int g], [.ref 28], (h.1, I7, h.2.2.1, h.2.2.2))) rfl ?_
    refine hp_getr rfl (hH.1 28 (9, 8) rfl) rfl (hH.2 28 1 (some 15) rfl) ?_
    refine qm_Rp.go 2 (c' := (16, [.ref 28, .int b, .int g], [.int g, .int b, .ref 15], (h.1, I7, h.2.2.1, h.2.2.2))) rfl ?_
    have ev : ((I7) 17 g.toInt.toNat).toInt = hi g.toInt.toNat := by rw [show ((I7) 17 g.toInt.toNat).toInt = (hi) g.toInt.toNat from congrFun p17_I7 _]
    have bg := hi4 g.toInt.toNat
    refine hp_inv (o := 15) (r := []) (as := [.ref 15, .int b, .int g]) rfl rfl (hH.1 15 (15, 8) rfl) rfl rfl rfl (px_cyp (h := (h.1, I7, h.2.2.1, h.2.2.2)) hH (v := (I7) 17 g.toInt.toNat) ⟨by omega, by omega⟩ rfl (by rw [ev]; omega) (fun I9 e_I9 x11 x12 x13 x14 x16 x17 => ?_))
    have x11 : pI I9 11 = fu_up (pI (I7) 11) (b.toInt.toNat) (Int32.toInt 2) := x11
    have x12 : pI I9 12 = fu_up (pI (I7) 12) (b.toInt.toNat) g.toInt := x12
    have x13 : pI I9 13 = fu_up (pI (I7) 13) (b.toInt.toNat) (Int32.toInt (-1)) := x13
    have x14 : pI I9 14 = fu_up (pI (I7) 14) (b.toInt.toNat) ((I7) 17 g.toInt.toNat).toInt := x14
    have x16 : pI I9 16 = fu_up (pI (I7) 16) (4 * g.toInt + ((I7) 17 g.toInt.toNat).toInt).toNat b.toInt := x16
    have x17 : pI I9 17 = fu_up (pI (I7) 17) g.toInt.toNat (((I7) 17 g.toInt.toNat).toInt + 1) := x17
    rw [ev] at x14 x16 x17
    have e_I9 : ∀ o, [11, 12, 13, 14, 16, 17].contains o = false → ∀ i, I9 o i = (I7) o i := e_I9
    have p11_I9 : pI I9 11 = fu_up wh (b.toInt.toNat) 2 := by rw [x11, p11_I7]; exact fu_fu2
    have p12_I9 : pI I9 12 = fu_up yb (b.toInt.toNat) g.toInt := by rw [x12, p12_I7]; exact fu_fu2
    have p13_I9 : pI I9 13 = fu_up rb (b.toInt.toNat) (-1) := by rw [x13, p13_I7]; exact fu_fu2
    have p14_I9 : pI I9 14 = fu_up tb (b.toInt.toNat) (hi g.toInt.toNat) := by rw [x14, p14_I7]; exact fu_fu2
    have p36_I9 : pI I9 36 = fu_up c ((16 * y.toInt + 4 * x.toInt + 2)).toNat (-1) := (funext fun i => congrArg Int32.toInt (e_I9 36 rfl i)).trans p36_I7
    have p16_I9 : pI I9 16 = fu_up yc (4 * g.toInt + hi g.toInt.toNat).toNat b.toInt := by rw [x16, p16_I7]
    have p17_I9 : pI I9 17 = fu_up hi g.toInt.toNat (hi g.toInt.toNat + 1) := by rw [x17, p17_I7]
    have p37_I9 : pI I9 37 = fu_up bw y.toInt.toNat (bw y.toInt.toNat + -w b.toInt.toNat) := (funext fun i => congrArg Int32.toInt (e_I9 37 rfl i)).trans p37_I7
    refine qm_Rp.go 1 (c' := (20, [.ref 28, .int b, .int g], [], (h.1, I9, h.2.2.1, h.2.2.2))) rfl ?_
    refine qm_Rp.rt (v := none) (h' := (h.1, I9, h.2.2.1, h.2.2.2)) rfl ?_
    refine qm_Rp.go 6 (c' := (233, [.ref 28, .int y, .int x, .int g, .int 2, .int b, .int 2, .int 1, .int le, .int 3], [.int 1], (h.1, I9, h.2.2.1, h.2.2.2))) rfl ?_
    refine qm_Rp.rt (v := (some (.int 1))) (h' := (h.1, I9, h.2.2.1, h.2.2.2)) rfl ?_
    exact k (I9) l_I7 w_I7 (fun o ho i => ((e_I9 o (hk_ms rfl ho) i).trans ((e_I7 o (hk_ms rfl ho) i).trans rfl))) (fun i hi => ((e_I9 28 rfl i).trans ((x28_I7 i (hk_ms rfl hi)).trans rfl))) (show (I9) 28 5 = _ from ((e_I9 28 rfl 5).trans q_l_I7)) (show (I9) 28 6 = _ from ((e_I9 28 rfl 6).trans q_w_I7)) (by omega) (by omega) (p11_I9.trans (by rw [if_neg (show ¬ g.toInt = -1 by omega)])) (p12_I9.trans (by rw [if_neg (show ¬ g.toInt = -1 by omega)])) p13_I9 (p14_I9.trans (by rw [if_neg (show ¬ g.toInt = -1 by omega)])) p36_I9 (p16_I9.trans (by rw [if_neg (show ¬ g.toInt = -1 by omega)])) (p17_I9.trans (by rw [if_neg (show ¬ g.toInt = -1 by omega)])) p37_I9
set_option maxHeartbeats 4000000 in
theorem px_cl33 {X : Option (Nat × (Nat → Int32))} {Z : Option Value → qm_H → Prop} {h : qm_H} {fu : Nat} (hH : hk_H h) {y x g le b : Int32} {w wh yb rb tb c yc hi bw : Nat → Int} {ls wt : Int32} (q_ls : h.2.1 28 5 = ls) (hls : -3600 ≤ ls.toInt ∧ ls.toInt ≤ 3600) (q_wt : h.2.1 28 6 = wt) (hwt : 0 ≤ wt.toInt ∧ wt.toInt ≤ 1200) (eW : pI h.2.1 7 = w) (eH : pI h.2.1 11 = wh) (e12 : pI h.2.1 12 = yb) (e13 : pI h.2.1 13 = rb) (e14 : pI h.2.1 14 = tb) (eC : pI h.2.1 36 = c) (eY : pI h.2.1 16 = yc) (eI : pI h.2.1 17 = hi) (eV : pI h.2.1 37 = bw) (hw : ∀ b, 0 ≤ w b ∧ w b ≤ 40) (hi4 : ∀ x, 0 ≤ hi x ∧ hi x ≤ 4) (hb : ∀ c, c < 5 → 0 ≤ bw c ∧ bw c ≤ 1200) (by_ : 0 ≤ y.toInt ∧ y.toInt ≤ 4) (bx_ : 0 ≤ x.toInt ∧ x.toInt ≤ 3) (bg_ : -1 ≤ g.toInt ∧ g.toInt ≤ 3) (hm : g.toInt ≠ -1 → hi g.toInt.toNat + 1 ≤ 4) (bb_b : 0 ≤ b.toInt ∧ b.toInt ≤ 29) (eb_b : c (16 * y.toInt + 4 * x.toInt + 3).toNat = b.toInt) (ey_b : yb b.toInt.toNat = y.toInt) (ex_b : rb b.toInt.toNat = x.toInt) (et_b : tb b.toInt.toNat = 3) (k : ∀ (I : Nat → Nat → Int32) (l2 w2 : Int32), (∀ o, [11, 12, 13, 14, 16, 17, 28, 36, 37].contains o = false → ∀ i, I o i = h.2.1 o i) → (∀ i, [5, 6].contains i = false → I 28 i = h.2.1 28 i) → I 28 5 = l2 → I 28 6 = w2 → l2.toInt = ls.toInt - w b.toInt.toNat * (2 * x.toInt - 3) → w2.toInt = wt.toInt - w b.toInt.toNat → pI I 11 = fu_up wh b.toInt.toNat (if g.toInt = -1 then 0 else 2) → pI I 12 = fu_up yb b.toInt.toNat (if g.toInt = -1 then -1 else g.toInt) → pI I 13 = fu_up rb b.toInt.toNat (-1) → pI I 14 = fu_up tb b.toInt.toNat (if g.toInt = -1 then -1 else hi g.toInt.toNat) → pI I 36 = fu_up c (16 * y.toInt + 4 * x.toInt + 3).toNat (-1) → pI I 16 = (if g.toInt = -1 then yc else fu_up yc (4 * g.toInt + hi g.toInt.toNat).toNat b.toInt) → pI I 17 = (if g.toInt = -1 then hi else fu_up hi g.toInt.toNat (hi g.toInt.toNat + 1)) → pI I 37 = fu_up bw y.toInt.toNat (bw y.toInt.toNat + -w b.toInt.toNat) → Z (some (.int 1)) (h.1, I, h.2.2.1, h.2.2.2)) : qm_Rp fu X cd_102 (197, [.ref 28, .int y, .int x, .int g, .int 3, .int b, .int 3, .int 1, .int le, .float 0], [], h) Z := by
  have kz0 : (0 : Int32).toInt = 0 := rfl
  have kz1 : (1 : Int32).toInt = 1 := rfl
  have kz2 : (2 : Int32).toInt = 2 := rfl
  have kz3 : (3 : Int32).toInt = 3 := rfl
  have kz4 : (4 : Int32).toInt = 4 := rfl
  have kz5 : (5 : Int32).toInt = 5 := rfl
  have kz6 : (6 : Int32).toInt = 6 := rfl
  have kz7 : (7 : Int32).toInt = 7 := rfl
  have kz8 : (8 : Int32).toInt = 8 := rfl
  have kz9 : (9 : Int32).toInt = 9 := rfl
  have kzm1 : ((-1) : Int32).toInt = (-1) := rfl
  have kzm2 : ((-2) : Int32).toInt = (-2) := rfl
  have kzm3 : ((-3) : Int32).toInt = (-3) := rfl
  refine qm_Rp.go 6 (c' := (209, [.ref 28, .int y, .int x, .int g, .int 3, .int b, .int 3, .int 1, .int le, .int 3], [.ref 28], h)) rfl ?_
  refine qm_Rp.go 1 (c' := (210, [.ref 28, .int y, .int x, .int g, .int 3, .int b, .int 3, .int 1, .int le, .int 3], [.ref 28, .ref 28], h)) rfl ?_
  refine hp_getr rfl (hH.1 28 (9, 8) rfl) rfl (hH.2 28 3 (some 36) rfl) ?_
  refine qm_Rp.go 3 (c' := (217, [.ref 28, .int y, .int x, .int g, .int 3, .int b, .int 3, .int 1, .int le, .int 3], [.int 3, .int x, .int y, .ref 36, .ref 28], h)) rfl ?_
  refine qm_Rp.call (j := 75) (as := [.int y, .int x, .int 3]) (c' := (220, [.ref 28, .int y, .int x, .int g, .int 3, .int b, .int 3, .int 1, .int le, .int 3], [.ref 36, .ref 28], h)) rfl rfl ?_
  refine qm_Rp.go 3 (c' := (3, [.int y, .int x, .int 3], [.int (y * 4)], h)) rfl ?_
  obtain ⟨v1, q_v1, e_v1⟩ := hk_mul (x := y) (y := 4) (a := y.toInt) (b := 4) rfl rfl (by omega) (by omega)
  rw [q_v1]
  refine qm_Rp.go 2 (c' := (5, [.int y, .int x, .int 3], [.int (v1 + x)], h)) rfl ?_
  obtain ⟨v2, q_v2, e_v2⟩ := hk_add (x := v1) (y := x) (a := v1.toInt) (b := x.toInt) rfl rfl (by omega) (by omega)
  rw [q_v2]
  refine qm_Rp.go 2 (c' := (7, [.int y, .int x, .int 3], [.int (v2 * 4)], h)) rfl ?_
  obtain ⟨v3, q_v3, e_v3⟩ := hk_mul (x := v2) (y := 4) (a := v2.toInt) (b := 4) rfl rfl (by omega) (by omega)
  rw [q_v3]
  refine qm_Rp.go 2 (c' := (9, [.int y, .int x, .int 3], [.int (v3 + 3)], h)) rfl ?_
  obtain ⟨v4, q_v4, e_v4⟩ := hk_add (x := v3) (y := 3) (a := v3.toInt) (b := 3) rfl rfl (by omega) (by omega)
  rw [q_v4]
  refine qm_Rp.rt (v := (some (.int v4))) (h' := h) rfl ?_
  refine qm_Rp.go 0 (c' := (220, [.ref 28, .int y, .int x, .int g, .int 3, .int b, .int 3, .int 1, .int le, .int 3], [.int v4, .ref 36, .ref 28], h)) rfl ?_
  obtain ⟨v5, q_v5⟩ : ∃ v_, h.2.1 36 v4.toInt.toNat = v_ := ⟨_, rfl⟩
  refine hp_ial (v := v5) rfl (hH.1 36 (0, 80) rfl) q_v5 (fun ia_5 ib_5 => ?_)
  refine qm_Rp.go 0 (c' := (221, [.ref 28, .int y, .int x, .int g, .int 3, .int b, .int 3, .int 1, .int le, .int 3], [.int v5, .ref 28], h)) rfl ?_
  obtain rfl : b = v5 := hk_eqi.mpr ((show v5.toInt = (c) ((16 * y.toInt + 4 * x.toInt + 3)).toNat from by rw [show ((16 * y.toInt + 4 * x.toInt + 3)).toNat = v4.toInt.toNat by omega]; exact (congrArg Int32.toInt q_v5).symm.trans (congrFun eC _)).trans (eb_b)).symm
  refine qm_Rp.go 1 (c' := (222, [.ref 28, .int y, .int x, .int g, .int 3, .int b, .int 3, .int 1, .int le, .int 3], [.int g, .int b, .ref 28], h)) rfl ?_
  refine hp_inv (o := 28) (r := []) (as := [.ref 28, .int b, .int g]) rfl rfl (hH.1 28 (9, 8) rfl) rfl rfl rfl ?_
  refine qm_Rp.go 2 (c' := (2, [.ref 28, .int b, .int g], [.int b, .ref 28], h)) rfl ?_
  refine hp_inv (o := 28) (r := []) (as := [.ref 28, .int b]) rfl rfl (hH.1 28 (9, 8) rfl) rfl rfl rfl (px_crem (h := h) hH q_ls (by omega) q_wt (by omega) (w := h.2.1 7 (b.toInt.toNat)) (show (h.2.1) 7 (b.toInt.toNat) = _ from rfl) (pz_in eW hw (b.toInt.toNat)) (pz_w eV (by have := hb y.toInt.toNat (by omega); omega)) (y := y) (x := x) (t := 3) (pz_at e12 (ey_b)) (pz_at e13 (ex_b)) (pz_at e14 ((et_b).trans rfl)) ⟨by omega, by omega⟩ ⟨by omega, by omega⟩ ⟨by decide, by decide⟩ (fun I7 l_I7 w_I7 e_I7 x28_I7 q_l_I7 q_w_I7 e_l_I7 e_w_I7 x11 x12 x13 x14 x36 x37 => ?_))
  have x28_I7 : (∀ i, [5, 6].contains i = false → I7 28 i = (h.2.1) 28 i) := x28_I7
  have x11 : pI I7 11 = fu_up (pI (h.2.1) 11) (b.toInt.toNat) (Int32.toInt 0) := x11
  have x12 : pI I7 12 = fu_up (pI (h.2.1) 12) (b.toInt.toNat) (Int32.toInt (-1)) := x12
  have x13 : pI I7 13 = fu_up (pI (h.2.1) 13) (b.toInt.toNat) (Int32.toInt (-1)) := x13
  have x14 : pI I7 14 = fu_up (pI (h.2.1) 14) (b.toInt.toNat) (Int32.toInt (-1)) := x14
  have x36 : pI I7 36 = fu_up (pI (h.2.1) 36) (16 * y.toInt + 4 * x.toInt + Int32.toInt 3).toNat (Int32.toInt (-1)) := x36
  have x37 : pI I7 37 = fu_up (pI (h.2.1) 37) y.toInt.toNat (pI (h.2.1) 37 y.toInt.toNat + -(h.2.1 7 (b.toInt.toNat)).toInt) := x37
  have e9_b : (h.2.1 7 (b.toInt.toNat)).toInt = w b.toInt.toNat := by rw [← eW]; rfl
  rw [e9_b] at x37 e_l_I7 e_w_I7
  have m_b := zm_bd (x := w b.toInt.toNat) (y := 2 * x.toInt - 3) (u := 40) (p := 3) (q := 3) (hw _).1 (hw _).2 (by omega) (by omega) (by omega) (by omega)
  rw [Int.neg_mul] at e_l_I7
  have bw_b := hw b.toInt.toNat
  have e_I7 : ∀ o, [11, 12, 13, 14, 28, 36, 37].contains o = false → ∀ i, I7 o i = (h.2.1) o i := e_I7
  have p11_I7 : pI I7 11 = fu_up wh (b.toInt.toNat) 0 := by rw [x11, eH]; exact rfl
  have p12_I7 : pI I7 12 = fu_up yb (b.toInt.toNat) (-1) := by rw [x12, e12]; exact rfl
  have p13_I7 : pI I7 13 = fu_up rb (b.toInt.toNat) (-1) := by rw [x13, e13]; exact rfl
  have p14_I7 : pI I7 14 = fu_up tb (b.toInt.toNat) (-1) := by rw [x14, e14]; exact rfl
  have p36_I7 : pI I7 36 = fu_up c ((16 * y.toInt + 4 * x.toInt + 3)).toNat (-1) := by rw [x36, eC]; exact rfl
  have p16_I7 : pI I7 16 = yc := (funext fun i => congrArg Int32.toInt (e_I7 16 rfl i)).trans eY
  have p17_I7 : pI I7 17 = hi := (funext fun i => congrArg Int32.toInt (e_I7 17 rfl i)).trans eI
  have p37_I7 : pI I7 37 = fu_up bw y.toInt.toNat (bw y.toInt.toNat + -w b.toInt.toNat) := by rw [x37, eV]
  refine qm_Rp.go 2 (c' := (7, [.ref 28, .int b, .int g], [.int (-1), .int g], (h.1, I7, h.2.2.1, h.2.2.2))) rfl ?_
  refine hp_ceq (ix := g.toInt) (iy := (-1)) rfl rfl rfl (fun z8 => ?_) (fun z8 => ?_)
  · refine qm_Rp.go 0 (c' := (20, [.ref 28, .int b, .int g], [], (h.1, I7, h.2.2.1, h.2.2.2))) rfl ?_
    refine qm_Rp.rt (v := none) (h' := (h.1, I7, h.2.2.1, h.2.2.2)) rfl ?_
    refine qm_Rp.go 6 (c' := (233, [.ref 28, .int y, .int x, .int g, .int 3, .int b, .int 3, .int 1, .int le, .int 4], [.int 1], (h.1, I7, h.2.2.1, h.2.2.2))) rfl ?_
    refine qm_Rp.rt (v := (some (.int 1))) (h' := (h.1, I7, h.2.2.1, h.2.2.2)) rfl ?_
    exact k (I7) l_I7 w_I7 (fun o ho i => ((e_I7 o (hk_ms rfl ho) i).trans rfl)) (fun i hi => ((x28_I7 i (hk_ms rfl hi)).trans rfl)) q_l_I7 q_w_I7 (by omega) (by omega) (p11_I7.trans (by rw [if_pos (show g.toInt = -1 by omega)])) (p12_I7.trans (by rw [if_pos (show g.toInt = -1 by omega)])) p13_I7 (p14_I7.trans (by rw [if_pos (show g.toInt = -1 by omega)])) p36_I7 (p16_I7.trans (by rw [if_pos (show g.toInt = -1 by omega)])) (p17_I7.trans (by rw [if_pos (show g.toInt = -1 by omega)])) p37_I7
  · refine qm_Rp.go 1 (c' := (11, [.ref 28, .int b, .int g], [.ref 28], (h.1, I7, h.2.2.1, h.2.2.2))) rfl ?_
    refine hp_getr rfl (hH.1 28 (9, 8) rfl) rfl (hH.2 28 1 (some 15) rfl) ?_
    refine qm_Rp.go 2 (c' := (16, [.ref 28, .int b, .int g], [.int g, .int b, .ref 15], (h.1, I7, h.2.2.1, h.2.2.2))) rfl ?_
    have ev : ((I7) 17 g.toInt.toNat).toInt = hi g.toInt.toNat := by rw [show ((I7) 17 g.toInt.toNat).toInt = (hi) g.toInt.toNat from congrFun p17_I7 _]
    have bg := hi4 g.toInt.toNat
    refine hp_inv (o := 15) (r := []) (as := [.ref 15, .int b, .int g]) rfl rfl (hH.1 15 (15, 8) rfl) rfl rfl rfl (px_cyp (h := (h.1, I7, h.2.2.1, h.2.2.2)) hH (v := (I7) 17 g.toInt.toNat) ⟨by omega, by omega⟩ rfl (by rw [ev]; omega) (fun I9 e_I9 x11 x12 x13 x14 x16 x17 => ?_))
    have x11 : pI I9 11 = fu_up (pI (I7) 11) (b.toInt.toNat) (Int32.toInt 2) := x11
    have x12 : pI I9 12 = fu_up (pI (I7) 12) (b.toInt.toNat) g.toInt := x12
    have x13 : pI I9 13 = fu_up (pI (I7) 13) (b.toInt.toNat) (Int32.toInt (-1)) := x13
    have x14 : pI I9 14 = fu_up (pI (I7) 14) (b.toInt.toNat) ((I7) 17 g.toInt.toNat).toInt := x14
    have x16 : pI I9 16 = fu_up (pI (I7) 16) (4 * g.toInt + ((I7) 17 g.toInt.toNat).toInt).toNat b.toInt := x16
    have x17 : pI I9 17 = fu_up (pI (I7) 17) g.toInt.toNat (((I7) 17 g.toInt.toNat).toInt + 1) := x17
    rw [ev] at x14 x16 x17
    have e_I9 : ∀ o, [11, 12, 13, 14, 16, 17].contains o = false → ∀ i, I9 o i = (I7) o i := e_I9
    have p11_I9 : pI I9 11 = fu_up wh (b.toInt.toNat) 2 := by rw [x11, p11_I7]; exact fu_fu2
    have p12_I9 : pI I9 12 = fu_up yb (b.toInt.toNat) g.toInt := by rw [x12, p12_I7]; exact fu_fu2
    have p13_I9 : pI I9 13 = fu_up rb (b.toInt.toNat) (-1) := by rw [x13, p13_I7]; exact fu_fu2
    have p14_I9 : pI I9 14 = fu_up tb (b.toInt.toNat) (hi g.toInt.toNat) := by rw [x14, p14_I7]; exact fu_fu2
    have p36_I9 : pI I9 36 = fu_up c ((16 * y.toInt + 4 * x.toInt + 3)).toNat (-1) := (funext fun i => congrArg Int32.toInt (e_I9 36 rfl i)).trans p36_I7
    have p16_I9 : pI I9 16 = fu_up yc (4 * g.toInt + hi g.toInt.toNat).toNat b.toInt := by rw [x16, p16_I7]
    have p17_I9 : pI I9 17 = fu_up hi g.toInt.toNat (hi g.toInt.toNat + 1) := by rw [x17, p17_I7]
    have p37_I9 : pI I9 37 = fu_up bw y.toInt.toNat (bw y.toInt.toNat + -w b.toInt.toNat) := (funext fun i => congrArg Int32.toInt (e_I9 37 rfl i)).trans p37_I7
    refine qm_Rp.go 1 (c' := (20, [.ref 28, .int b, .int g], [], (h.1, I9, h.2.2.1, h.2.2.2))) rfl ?_
    refine qm_Rp.rt (v := none) (h' := (h.1, I9, h.2.2.1, h.2.2.2)) rfl ?_
    refine qm_Rp.go 6 (c' := (233, [.ref 28, .int y, .int x, .int g, .int 3, .int b, .int 3, .int 1, .int le, .int 4], [.int 1], (h.1, I9, h.2.2.1, h.2.2.2))) rfl ?_
    refine qm_Rp.rt (v := (some (.int 1))) (h' := (h.1, I9, h.2.2.1, h.2.2.2)) rfl ?_
    exact k (I9) l_I7 w_I7 (fun o ho i => ((e_I9 o (hk_ms rfl ho) i).trans ((e_I7 o (hk_ms rfl ho) i).trans rfl))) (fun i hi => ((e_I9 28 rfl i).trans ((x28_I7 i (hk_ms rfl hi)).trans rfl))) (show (I9) 28 5 = _ from ((e_I9 28 rfl 5).trans q_l_I7)) (show (I9) 28 6 = _ from ((e_I9 28 rfl 6).trans q_w_I7)) (by omega) (by omega) (p11_I9.trans (by rw [if_neg (show ¬ g.toInt = -1 by omega)])) (p12_I9.trans (by rw [if_neg (show ¬ g.toInt = -1 by omega)])) p13_I9 (p14_I9.trans (by rw [if_neg (show ¬ g.toInt = -1 by omega)])) p36_I9 (p16_I9.trans (by rw [if_neg (show ¬ g.toInt = -1 by omega)])) (p17_I9.trans (by rw [if_neg (show ¬ g.toInt = -1 by omega)])) p37_I9
set_option maxHeartbeats 4000000 in
theorem px_cl01 {X : Option (Nat × (Nat → Int32))} {Z : Option Value → qm_H → Prop} {h : qm_H} {fu : Nat} (hH : hk_H h) {y x g le b tw : Int32} {w wh yb rb tb c yc hi bw : Nat → Int} {ls wt : Int32} (q_ls : h.2.1 28 5 = ls) (hls : -3600 ≤ ls.toInt ∧ ls.toInt ≤ 3600) (q_wt : h.2.1 28 6 = wt) (hwt : 0 ≤ wt.toInt ∧ wt.toInt ≤ 1200) (eW : pI h.2.1 7 = w) (eH : pI h.2.1 11 = wh) (e12 : pI h.2.1 12 = yb) (e13 : pI h.2.1 13 = rb) (e14 : pI h.2.1 14 = tb) (eC : pI h.2.1 36 = c) (eY : pI h.2.1 16 = yc) (eI : pI h.2.1 17 = hi) (eV : pI h.2.1 37 = bw) (hw : ∀ b, 0 ≤ w b ∧ w b ≤ 40) (hi4 : ∀ x, 0 ≤ hi x ∧ hi x ≤ 4) (hb : ∀ c, c < 5 → 0 ≤ bw c ∧ bw c ≤ 1200) (by_ : 0 ≤ y.toInt ∧ y.toInt ≤ 4) (bx_ : 0 ≤ x.toInt ∧ x.toInt ≤ 3) (bg_ : -1 ≤ g.toInt ∧ g.toInt ≤ 3) (hm : g.toInt ≠ -1 → hi g.toInt.toNat + 2 ≤ 4) (bb_b : 0 ≤ b.toInt ∧ b.toInt ≤ 29) (eb_b : c (16 * y.toInt + 4 * x.toInt + 1).toNat = b.toInt) (ey_b : yb b.toInt.toNat = y.toInt) (ex_b : rb b.toInt.toNat = x.toInt) (et_b : tb b.toInt.toNat = 1) (bb_tw : 0 ≤ tw.toInt ∧ tw.toInt ≤ 29) (eb_tw : c (16 * y.toInt + 4 * x.toInt + 0).toNat = tw.toInt) (ey_tw : yb tw.toInt.toNat = y.toInt) (ex_tw : rb tw.toInt.toNat = x.toInt) (et_tw : tb tw.toInt.toNat = 0) (hne : b.toInt.toNat ≠ tw.toInt.toNat) (k : ∀ (I : Nat → Nat → Int32) (l2 w2 : Int32), (∀ o, [11, 12, 13, 14, 16, 17, 28, 36, 37].contains o = false → ∀ i, I o i = h.2.1 o i) → (∀ i, [5, 6].contains i = false → I 28 i = h.2.1 28 i) → I 28 5 = l2 → I 28 6 = w2 → l2.toInt = ls.toInt - w tw.toInt.toNat * (2 * x.toInt - 3) - w b.toInt.toNat * (2 * x.toInt - 3) → w2.toInt = wt.toInt - w tw.toInt.toNat - w b.toInt.toNat → pI I 11 = (if g.toInt = -1 then fu_up (fu_up wh b.toInt.toNat 0) tw.toInt.toNat 0 else fu_up (fu_up wh tw.toInt.toNat 2) b.toInt.toNat 2) → pI I 12 = (if g.toInt = -1 then fu_up (fu_up yb tw.toInt.toNat (-1)) b.toInt.toNat (-1) else fu_up (fu_up yb tw.toInt.toNat g.toInt) b.toInt.toNat g.toInt) → pI I 13 = fu_up (fu_up rb tw.toInt.toNat (-1)) b.toInt.toNat (-1) → pI I 14 = (if g.toInt = -1 then fu_up (fu_up tb tw.toInt.toNat (-1)) b.toInt.toNat (-1) else fu_up (fu_up tb tw.toInt.toNat (hi g.toInt.toNat)) b.toInt.toNat (hi g.toInt.toNat + 1)) → pI I 36 = fu_up (fu_up c (16 * y.toInt + 4 * x.toInt + 1).toNat (-1)) (16 * y.toInt + 4 * x.toInt + 0).toNat (-1) → pI I 16 = (if g.toInt = -1 then yc else fu_up (fu_up yc (4 * g.toInt + hi g.toInt.toNat).toNat tw.toInt) (4 * g.toInt + (hi g.toInt.toNat + 1)).toNat b.toInt) → pI I 17 = (if g.toInt = -1 then hi else fu_up hi g.toInt.toNat (hi g.toInt.toNat + 1 + 1)) → pI I 37 = fu_up bw y.toInt.toNat (bw y.toInt.toNat + -w tw.toInt.toNat + -w b.toInt.toNat) → Z (some (.int 2)) (h.1, I, h.2.2.1, h.2.2.2)) : qm_Rp fu X cd_102 (197, [.ref 28, .int y, .int x, .int g, .int 1, .int b, .int 0, .int 2, .int le, .float 0], [], h) Z := by
  have kz0 : (0 : Int32).toInt = 0 := rfl
  have kz1 : (1 : Int32).toInt = 1 := rfl
  have kz2 : (2 : Int32).toInt = 2 := rfl
  have kz3 : (3 : Int32).toInt = 3 := rfl
  have kz4 : (4 : Int32).toInt = 4 := rfl
  have kz5 : (5 : Int32).toInt = 5 := rfl
  have kz6 : (6 : Int32).toInt = 6 := rfl
  have kz7 : (7 : Int32).toInt = 7 := rfl
  have kz8 : (8 : Int32).toInt = 8 := rfl
  have kz9 : (9 : Int32).toInt = 9 := rfl
  have kzm1 : ((-1) : Int32).toInt = (-1) := rfl
  have kzm2 : ((-2) : Int32).toInt = (-2) := rfl
  have kzm3 : ((-3) : Int32).toInt = (-3) := rfl
  refine qm_Rp.go 6 (c' := (209, [.ref 28, .int y, .int x, .int g, .int 1, .int b, .int 0, .int 2, .int le, .int 0], [.ref 28], h)) rfl ?_
  refine qm_Rp.go 1 (c' := (210, [.ref 28, .int y, .int x, .int g, .int 1, .int b, .int 0, .int 2, .int le, .int 0], [.ref 28, .ref 28], h)) rfl ?_
  refine hp_getr rfl (hH.1 28 (9, 8) rfl) rfl (hH.2 28 3 (some 36) rfl) ?_
  refine qm_Rp.go 3 (c' := (217, [.ref 28, .int y, .int x, .int g, .int 1, .int b, .int 0, .int 2, .int le, .int 0], [.int 0, .int x, .int y, .ref 36, .ref 28], h)) rfl ?_
  refine qm_Rp.call (j := 75) (as := [.int y, .int x, .int 0]) (c' := (220, [.ref 28, .int y, .int x, .int g, .int 1, .int b, .int 0, .int 2, .int le, .int 0], [.ref 36, .ref 28], h)) rfl rfl ?_
  refine qm_Rp.go 3 (c' := (3, [.int y, .int x, .int 0], [.int (y * 4)], h)) rfl ?_
  obtain ⟨v1, q_v1, e_v1⟩ := hk_mul (x := y) (y := 4) (a := y.toInt) (b := 4) rfl rfl (by omega) (by omega)
  rw [q_v1]
  refine qm_Rp.go 2 (c' := (5, [.int y, .int x, .int 0], [.int (v1 + x)], h)) rfl ?_
  obtain ⟨v2, q_v2, e_v2⟩ := hk_add (x := v1) (y := x) (a := v1.toInt) (b := x.toInt) rfl rfl (by omega) (by omega)
  rw [q_v2]
  refine qm_Rp.go 2 (c' := (7, [.int y, .int x, .int 0], [.int (v2 * 4)], h)) rfl ?_
  obtain ⟨v3, q_v3, e_v3⟩ := hk_mul (x := v2) (y := 4) (a := v2.toInt) (b := 4) rfl rfl (by omega) (by omega)
  rw [q_v3]
  refine qm_Rp.go 2 (c' := (9, [.int y, .int x, .int 0], [.int (v3 + 0)], h)) rfl ?_
  obtain ⟨v4, q_v4, e_v4⟩ := hk_add (x := v3) (y := 0) (a := v3.toInt) (b := 0) rfl rfl (by omega) (by omega)
  rw [q_v4]
  refine qm_Rp.rt (v := (some (.int v4))) (h' := h) rfl ?_
  refine qm_Rp.go 0 (c' := (220, [.ref 28, .int y, .int x, .int g, .int 1, .int b, .int 0, .int 2, .int le, .int 0], [.int v4, .ref 36, .ref 28], h)) rfl ?_
  obtain ⟨v5, q_v5⟩ : ∃ v_, h.2.1 36 v4.toInt.toNat = v_ := ⟨_, rfl⟩
  refine hp_ial (v := v5) rfl (hH.1 36 (0, 80) rfl) q_v5 (fun ia_5 ib_5 => ?_)
  refine qm_Rp.go 0 (c' := (221, [.ref 28, .int y, .int x, .int g, .int 1, .int b, .int 0, .int 2, .int le, .int 0], [.int v5, .ref 28], h)) rfl ?_
  obtain rfl : tw = v5 := hk_eqi.mpr ((show v5.toInt = (c) ((16 * y.toInt + 4 * x.toInt + 0)).toNat from by rw [show ((16 * y.toInt + 4 * x.toInt + 0)).toNat = v4.toInt.toNat by omega]; exact (congrArg Int32.toInt q_v5).symm.trans (congrFun eC _)).trans (eb_tw)).symm
  refine qm_Rp.go 1 (c' := (222, [.ref 28, .int y, .int x, .int g, .int 1, .int b, .int 0, .int 2, .int le, .int 0], [.int g, .int tw, .ref 28], h)) rfl ?_
  refine hp_inv (o := 28) (r := []) (as := [.ref 28, .int tw, .int g]) rfl rfl (hH.1 28 (9, 8) rfl) rfl rfl rfl ?_
  refine qm_Rp.go 2 (c' := (2, [.ref 28, .int tw, .int g], [.int tw, .ref 28], h)) rfl ?_
  refine hp_inv (o := 28) (r := []) (as := [.ref 28, .int tw]) rfl rfl (hH.1 28 (9, 8) rfl) rfl rfl rfl (px_crem (h := h) hH q_ls (by omega) q_wt (by omega) (w := h.2.1 7 (tw.toInt.toNat)) (show (h.2.1) 7 (tw.toInt.toNat) = _ from rfl) (pz_in eW hw (tw.toInt.toNat)) (pz_w eV (by have := hb y.toInt.toNat (by omega); omega)) (y := y) (x := x) (t := 0) (pz_at e12 (ey_tw)) (pz_at e13 (ex_tw)) (pz_at e14 ((et_tw).trans rfl)) ⟨by omega, by omega⟩ ⟨by omega, by omega⟩ ⟨by decide, by decide⟩ (fun I7 l_I7 w_I7 e_I7 x28_I7 q_l_I7 q_w_I7 e_l_I7 e_w_I7 x11 x12 x13 x14 x36 x37 => ?_))
  have x28_I7 : (∀ i, [5, 6].contains i = false → I7 28 i = (h.2.1) 28 i) := x28_I7
  have x11 : pI I7 11 = fu_up (pI (h.2.1) 11) (tw.toInt.toNat) (Int32.toInt 0) := x11
  have x12 : pI I7 12 = fu_up (pI (h.2.1) 12) (tw.toInt.toNat) (Int32.toInt (-1)) := x12
  have x13 : pI I7 13 = fu_up (pI (h.2.1) 13) (tw.toInt.toNat) (Int32.toInt (-1)) := x13
  have x14 : pI I7 14 = fu_up (pI (h.2.1) 14) (tw.toInt.toNat) (Int32.toInt (-1)) := x14
  have x36 : pI I7 36 = fu_up (pI (h.2.1) 36) (16 * y.toInt + 4 * x.toInt + Int32.toInt 0).toNat (Int32.toInt (-1)) := x36
  have x37 : pI I7 37 = fu_up (pI (h.2.1) 37) y.toInt.toNat (pI (h.2.1) 37 y.toInt.toNat + -(h.2.1 7 (tw.toInt.toNat)).toInt) := x37
  have e9_tw : (h.2.1 7 (tw.toInt.toNat)).toInt = w tw.toInt.toNat := by rw [← eW]; rfl
  rw [e9_tw] at x37 e_l_I7 e_w_I7
  have m_tw := zm_bd (x := w tw.toInt.toNat) (y := 2 * x.toInt - 3) (u := 40) (p := 3) (q := 3) (hw _).1 (hw _).2 (by omega) (by omega) (by omega) (by omega)
  rw [Int.neg_mul] at e_l_I7
  have bw_tw := hw tw.toInt.toNat
  have e_I7 : ∀ o, [11, 12, 13, 14, 28, 36, 37].contains o = false → ∀ i, I7 o i = (h.2.1) o i := e_I7
  have p11_I7 : pI I7 11 = fu_up wh (tw.toInt.toNat) 0 := by rw [x11, eH]; exact rfl
  have p12_I7 : pI I7 12 = fu_up yb (tw.toInt.toNat) (-1) := by rw [x12, e12]; exact rfl
  have p13_I7 : pI I7 13 = fu_up rb (tw.toInt.toNat) (-1) := by rw [x13, e13]; exact rfl
  have p14_I7 : pI I7 14 = fu_up tb (tw.toInt.toNat) (-1) := by rw [x14, e14]; exact rfl
  have p36_I7 : pI I7 36 = fu_up c ((16 * y.toInt + 4 * x.toInt + 0)).toNat (-1) := by rw [x36, eC]; exact rfl
  have p16_I7 : pI I7 16 = yc := (funext fun i => congrArg Int32.toInt (e_I7 16 rfl i)).trans eY
  have p17_I7 : pI I7 17 = hi := (funext fun i => congrArg Int32.toInt (e_I7 17 rfl i)).trans eI
  have p37_I7 : pI I7 37 = fu_up bw y.toInt.toNat (bw y.toInt.toNat + -w tw.toInt.toNat) := by rw [x37, eV]
  refine qm_Rp.go 2 (c' := (7, [.ref 28, .int tw, .int g], [.int (-1), .int g], (h.1, I7, h.2.2.1, h.2.2.2))) rfl ?_
  refine hp_ceq (ix := g.toInt) (iy := (-1)) rfl rfl rfl (fun z8 => ?_) (fun z8 => ?_)
  · refine qm_Rp.go 0 (c' := (20, [.ref 28, .int tw, .int g], [], (h.1, I7, h.2.2.1, h.2.2.2))) rfl ?_
    refine qm_Rp.rt (v := none) (h' := (h.1, I7, h.2.2.1, h.2.2.2)) rfl ?_
    refine qm_Rp.go 6 (c' := (209, [.ref 28, .int y, .int x, .int g, .int 1, .int b, .int 0, .int 2, .int le, .int 1], [.ref 28], (h.1, I7, h.2.2.1, h.2.2.2))) rfl ?_
    refine qm_Rp.go 1 (c' := (210, [.ref 28, .int y, .int x, .int g, .int 1, .int b, .int 0, .int 2, .int le, .int 1], [.ref 28, .ref 28], (h.1, I7, h.2.2.1, h.2.2.2))) rfl ?_
    refine hp_getr rfl (hH.1 28 (9, 8) rfl) rfl (hH.2 28 3 (some 36) rfl) ?_
    refine qm_Rp.go 3 (c' := (217, [.ref 28, .int y, .int x, .int g, .int 1, .int b, .int 0, .int 2, .int le, .int 1], [.int 1, .int x, .int y, .ref 36, .ref 28], (h.1, I7, h.2.2.1, h.2.2.2))) rfl ?_
    refine qm_Rp.call (j := 75) (as := [.int y, .int x, .int 1]) (c' := (220, [.ref 28, .int y, .int x, .int g, .int 1, .int b, .int 0, .int 2, .int le, .int 1], [.ref 36, .ref 28], (h.1, I7, h.2.2.1, h.2.2.2))) rfl rfl ?_
    refine qm_Rp.go 3 (c' := (3, [.int y, .int x, .int 1], [.int (y * 4)], (h.1, I7, h.2.2.1, h.2.2.2))) rfl ?_
    rw [q_v1]
    refine qm_Rp.go 2 (c' := (5, [.int y, .int x, .int 1], [.int (v1 + x)], (h.1, I7, h.2.2.1, h.2.2.2))) rfl ?_
    rw [q_v2]
    refine qm_Rp.go 2 (c' := (7, [.int y, .int x, .int 1], [.int (v2 * 4)], (h.1, I7, h.2.2.1, h.2.2.2))) rfl ?_
    rw [q_v3]
    refine qm_Rp.go 2 (c' := (9, [.int y, .int x, .int 1], [.int (v3 + 1)], (h.1, I7, h.2.2.1, h.2.2.2))) rfl ?_
    obtain ⟨v9, q_v9, e_v9⟩ := hk_add (x := v3) (y := 1) (a := v3.toInt) (b := 1) rfl rfl (by omega) (by omega)
    rw [q_v9]
    refine qm_Rp.rt (v := (some (.int v9))) (h' := (h.1, I7, h.2.2.1, h.2.2.2)) rfl ?_
    refine qm_Rp.go 0 (c' := (220, [.ref 28, .int y, .int x, .int g, .int 1, .int b, .int 0, .int 2, .int le, .int 1], [.int v9, .ref 36, .ref 28], (h.1, I7, h.2.2.1, h.2.2.2))) rfl ?_
    obtain ⟨v10, q_v10⟩ : ∃ v_, I7 36 v9.toInt.toNat = v_ := ⟨_, rfl⟩
    refine hp_ial (v := v10) rfl (hH.1 36 (0, 80) rfl) q_v10 (fun ia_10 ib_10 => ?_)
    refine qm_Rp.go 0 (c' := (221, [.ref 28, .int y, .int x, .int g, .int 1, .int b, .int 0, .int 2, .int le, .int 1], [.int v10, .ref 28], (h.1, I7, h.2.2.1, h.2.2.2))) rfl ?_
    obtain rfl : b = v10 := hk_eqi.mpr ((show v10.toInt = (fu_up c ((16 * y.toInt + 4 * x.toInt + 0)).toNat (-1)) ((16 * y.toInt + 4 * x.toInt + 1)).toNat from by rw [show ((16 * y.toInt + 4 * x.toInt + 1)).toNat = v9.toInt.toNat by omega]; exact (congrArg Int32.toInt q_v10).symm.trans (congrFun p36_I7 _)).trans ((fu_ne (by omega)).trans eb_b)).symm
    refine qm_Rp.go 1 (c' := (222, [.ref 28, .int y, .int x, .int g, .int 1, .int b, .int 0, .int 2, .int le, .int 1], [.int g, .int b, .ref 28], (h.1, I7, h.2.2.1, h.2.2.2))) rfl ?_
    refine hp_inv (o := 28) (r := []) (as := [.ref 28, .int b, .int g]) rfl rfl (hH.1 28 (9, 8) rfl) rfl rfl rfl ?_
    refine qm_Rp.go 2 (c' := (2, [.ref 28, .int b, .int g], [.int b, .ref 28], (h.1, I7, h.2.2.1, h.2.2.2))) rfl ?_
    refine hp_inv (o := 28) (r := []) (as := [.ref 28, .int b]) rfl rfl (hH.1 28 (9, 8) rfl) rfl rfl rfl (px_crem (h := (h.1, I7, h.2.2.1, h.2.2.2)) hH q_l_I7 (by omega) q_w_I7 (by omega) (w := h.2.1 7 (b.toInt.toNat)) (show (I7) 7 (b.toInt.toNat) = _ from ((e_I7 7 rfl (b.toInt.toNat)).trans rfl)) (pz_in eW hw (b.toInt.toNat)) (pz_w p37_I7 (by rw [fu_eq]; have := hb y.toInt.toNat (by omega); have := hw tw.toInt.toNat; omega)) (y := y) (x := x) (t := 1) (pz_at p12_I7 ((fu_ne hne).trans (ey_b))) (pz_at p13_I7 ((fu_ne hne).trans (ex_b))) (pz_at p14_I7 (((fu_ne hne).trans (et_b)).trans rfl)) ⟨by omega, by omega⟩ ⟨by omega, by omega⟩ ⟨by decide, by decide⟩ (fun I12 l_I12 w_I12 e_I12 x28_I12 q_l_I12 q_w_I12 e_l_I12 e_w_I12 x11 x12 x13 x14 x36 x37 => ?_))
    have x28_I12 : (∀ i, [5, 6].contains i = false → I12 28 i = (I7) 28 i) := x28_I12
    have x11 : pI I12 11 = fu_up (pI (I7) 11) (b.toInt.toNat) (Int32.toInt 0) := x11
    have x12 : pI I12 12 = fu_up (pI (I7) 12) (b.toInt.toNat) (Int32.toInt (-1)) := x12
    have x13 : pI I12 13 = fu_up (pI (I7) 13) (b.toInt.toNat) (Int32.toInt (-1)) := x13
    have x14 : pI I12 14 = fu_up (pI (I7) 14) (b.toInt.toNat) (Int32.toInt (-1)) := x14
    have x36 : pI I12 36 = fu_up (pI (I7) 36) (16 * y.toInt + 4 * x.toInt + Int32.toInt 1).toNat (Int32.toInt (-1)) := x36
    have x37 : pI I12 37 = fu_up (pI (I7) 37) y.toInt.toNat (pI (I7) 37 y.toInt.toNat + -(h.2.1 7 (b.toInt.toNat)).toInt) := x37
    have e9_b : (h.2.1 7 (b.toInt.toNat)).toInt = w b.toInt.toNat := by rw [← eW]; rfl
    rw [e9_b] at x37 e_l_I12 e_w_I12
    have m_b := zm_bd (x := w b.toInt.toNat) (y := 2 * x.toInt - 3) (u := 40) (p := 3) (q := 3) (hw _).1 (hw _).2 (by omega) (by omega) (by omega) (by omega)
    rw [Int.neg_mul] at e_l_I12
    have bw_b := hw b.toInt.toNat
    have e_I12 : ∀ o, [11, 12, 13, 14, 28, 36, 37].contains o = false → ∀ i, I12 o i = (I7) o i := e_I12
    have p11_I12 : pI I12 11 = fu_up (fu_up wh (tw.toInt.toNat) 0) (b.toInt.toNat) 0 := by rw [x11, p11_I7]; exact rfl
    have p12_I12 : pI I12 12 = fu_up (fu_up yb (tw.toInt.toNat) (-1)) (b.toInt.toNat) (-1) := by rw [x12, p12_I7]; exact rfl
    have p13_I12 : pI I12 13 = fu_up (fu_up rb (tw.toInt.toNat) (-1)) (b.toInt.toNat) (-1) := by rw [x13, p13_I7]; exact rfl
    have p14_I12 : pI I12 14 = fu_up (fu_up tb (tw.toInt.toNat) (-1)) (b.toInt.toNat) (-1) := by rw [x14, p14_I7]; exact rfl
    have p36_I12 : pI I12 36 = fu_up (fu_up c ((16 * y.toInt + 4 * x.toInt + 0)).toNat (-1)) ((16 * y.toInt + 4 * x.toInt + 1)).toNat (-1) := by rw [x36, p36_I7]; exact rfl
    have p16_I12 : pI I12 16 = yc := (funext fun i => congrArg Int32.toInt (e_I12 16 rfl i)).trans p16_I7
    have p17_I12 : pI I12 17 = hi := (funext fun i => congrArg Int32.toInt (e_I12 17 rfl i)).trans p17_I7
    have p37_I12 : pI I12 37 = fu_up bw y.toInt.toNat (bw y.toInt.toNat + -w tw.toInt.toNat + -w b.toInt.toNat) := by rw [x37, p37_I7, fu_eq]; exact fu_fu2
    refine qm_Rp.go 2 (c' := (7, [.ref 28, .int b, .int g], [.int (-1), .int g], (h.1, I12, h.2.2.1, h.2.2.2))) rfl ?_
    refine hp_ceq (ix := g.toInt) (iy := (-1)) rfl rfl rfl (fun z13 => ?_) (fun z13 => by exfalso; omega)
    refine qm_Rp.go 0 (c' := (20, [.ref 28, .int b, .int g], [], (h.1, I12, h.2.2.1, h.2.2.2))) rfl ?_
    refine qm_Rp.rt (v := none) (h' := (h.1, I12, h.2.2.1, h.2.2.2)) rfl ?_
    refine qm_Rp.go 6 (c' := (233, [.ref 28, .int y, .int x, .int g, .int 1, .int b, .int 0, .int 2, .int le, .int 2], [.int 2], (h.1, I12, h.2.2.1, h.2.2.2))) rfl ?_
    refine qm_Rp.rt (v := (some (.int 2))) (h' := (h.1, I12, h.2.2.1, h.2.2.2)) rfl ?_
    exact k (I12) l_I12 w_I12 (fun o ho i => ((e_I12 o (hk_ms rfl ho) i).trans ((e_I7 o (hk_ms rfl ho) i).trans rfl))) (fun i hi => ((x28_I12 i (hk_ms rfl hi)).trans ((x28_I7 i (hk_ms rfl hi)).trans rfl))) q_l_I12 q_w_I12 (by omega) (by omega) (p11_I12.trans (by rw [if_pos (show g.toInt = -1 by omega)]; exact fu_cm (fun z => hne z.symm))) (p12_I12.trans (by rw [if_pos (show g.toInt = -1 by omega)])) p13_I12 (p14_I12.trans (by rw [if_pos (show g.toInt = -1 by omega)])) (p36_I12.trans (fu_cm (by omega))) (p16_I12.trans (by rw [if_pos (show g.toInt = -1 by omega)])) (p17_I12.trans (by rw [if_pos (show g.toInt = -1 by omega)])) p37_I12
  · refine qm_Rp.go 1 (c' := (11, [.ref 28, .int tw, .int g], [.ref 28], (h.1, I7, h.2.2.1, h.2.2.2))) rfl ?_
    refine hp_getr rfl (hH.1 28 (9, 8) rfl) rfl (hH.2 28 1 (some 15) rfl) ?_
    refine qm_Rp.go 2 (c' := (16, [.ref 28, .int tw, .int g], [.int g, .int tw, .ref 15], (h.1, I7, h.2.2.1, h.2.2.2))) rfl ?_
    have ev : ((I7) 17 g.toInt.toNat).toInt = hi g.toInt.toNat := by rw [show ((I7) 17 g.toInt.toNat).toInt = (hi) g.toInt.toNat from congrFun p17_I7 _]
    have bg := hi4 g.toInt.toNat
    refine hp_inv (o := 15) (r := []) (as := [.ref 15, .int tw, .int g]) rfl rfl (hH.1 15 (15, 8) rfl) rfl rfl rfl (px_cyp (h := (h.1, I7, h.2.2.1, h.2.2.2)) hH (v := (I7) 17 g.toInt.toNat) ⟨by omega, by omega⟩ rfl (by rw [ev]; omega) (fun I14 e_I14 x11 x12 x13 x14 x16 x17 => ?_))
    have x11 : pI I14 11 = fu_up (pI (I7) 11) (tw.toInt.toNat) (Int32.toInt 2) := x11
    have x12 : pI I14 12 = fu_up (pI (I7) 12) (tw.toInt.toNat) g.toInt := x12
    have x13 : pI I14 13 = fu_up (pI (I7) 13) (tw.toInt.toNat) (Int32.toInt (-1)) := x13
    have x14 : pI I14 14 = fu_up (pI (I7) 14) (tw.toInt.toNat) ((I7) 17 g.toInt.toNat).toInt := x14
    have x16 : pI I14 16 = fu_up (pI (I7) 16) (4 * g.toInt + ((I7) 17 g.toInt.toNat).toInt).toNat tw.toInt := x16
    have x17 : pI I14 17 = fu_up (pI (I7) 17) g.toInt.toNat (((I7) 17 g.toInt.toNat).toInt + 1) := x17
    rw [ev] at x14 x16 x17
    have e_I14 : ∀ o, [11, 12, 13, 14, 16, 17].contains o = false → ∀ i, I14 o i = (I7) o i := e_I14
    have p11_I14 : pI I14 11 = fu_up wh (tw.toInt.toNat) 2 := by rw [x11, p11_I7]; exact fu_fu2
    have p12_I14 : pI I14 12 = fu_up yb (tw.toInt.toNat) g.toInt := by rw [x12, p12_I7]; exact fu_fu2
    have p13_I14 : pI I14 13 = fu_up rb (tw.toInt.toNat) (-1) := by rw [x13, p13_I7]; exact fu_fu2
    have p14_I14 : pI I14 14 = fu_up tb (tw.toInt.toNat) (hi g.toInt.toNat) := by rw [x14, p14_I7]; exact fu_fu2
    have p36_I14 : pI I14 36 = fu_up c ((16 * y.toInt + 4 * x.toInt + 0)).toNat (-1) := (funext fun i => congrArg Int32.toInt (e_I14 36 rfl i)).trans p36_I7
    have p16_I14 : pI I14 16 = fu_up yc (4 * g.toInt + hi g.toInt.toNat).toNat tw.toInt := by rw [x16, p16_I7]
    have p17_I14 : pI I14 17 = fu_up hi g.toInt.toNat (hi g.toInt.toNat + 1) := by rw [x17, p17_I7]
    have p37_I14 : pI I14 37 = fu_up bw y.toInt.toNat (bw y.toInt.toNat + -w tw.toInt.toNat) := (funext fun i => congrArg Int32.toInt (e_I14 37 rfl i)).trans p37_I7
    refine qm_Rp.go 1 (c' := (20, [.ref 28, .int tw, .int g], [], (h.1, I14, h.2.2.1, h.2.2.2))) rfl ?_
    refine qm_Rp.rt (v := none) (h' := (h.1, I14, h.2.2.1, h.2.2.2)) rfl ?_
    refine qm_Rp.go 6 (c' := (209, [.ref 28, .int y, .int x, .int g, .int 1, .int b, .int 0, .int 2, .int le, .int 1], [.ref 28], (h.1, I14, h.2.2.1, h.2.2.2))) rfl ?_
    refine qm_Rp.go 1 (c' := (210, [.ref 28, .int y, .int x, .int g, .int 1, .int b, .int 0, .int 2, .int le, .int 1], [.ref 28, .ref 28], (h.1, I14, h.2.2.1, h.2.2.2))) rfl ?_
    refine hp_getr rfl (hH.1 28 (9, 8) rfl) rfl (hH.2 28 3 (some 36) rfl) ?_
    refine qm_Rp.go 3 (c' := (217, [.ref 28, .int y, .int x, .int g, .int 1, .int b, .int 0, .int 2, .int le, .int 1], [.int 1, .int x, .int y, .ref 36, .ref 28], (h.1, I14, h.2.2.1, h.2.2.2))) rfl ?_
    refine qm_Rp.call (j := 75) (as := [.int y, .int x, .int 1]) (c' := (220, [.ref 28, .int y, .int x, .int g, .int 1, .int b, .int 0, .int 2, .int le, .int 1], [.ref 36, .ref 28], (h.1, I14, h.2.2.1, h.2.2.2))) rfl rfl ?_
    refine qm_Rp.go 3 (c' := (3, [.int y, .int x, .int 1], [.int (y * 4)], (h.1, I14, h.2.2.1, h.2.2.2))) rfl ?_
    rw [q_v1]
    refine qm_Rp.go 2 (c' := (5, [.int y, .int x, .int 1], [.int (v1 + x)], (h.1, I14, h.2.2.1, h.2.2.2))) rfl ?_
    rw [q_v2]
    refine qm_Rp.go 2 (c' := (7, [.int y, .int x, .int 1], [.int (v2 * 4)], (h.1, I14, h.2.2.1, h.2.2.2))) rfl ?_
    rw [q_v3]
    refine qm_Rp.go 2 (c' := (9, [.int y, .int x, .int 1], [.int (v3 + 1)], (h.1, I14, h.2.2.1, h.2.2.2))) rfl ?_
    obtain ⟨v15, q_v15, e_v15⟩ := hk_add (x := v3) (y := 1) (a := v3.toInt) (b := 1) rfl rfl (by omega) (by omega)
    rw [q_v15]
    refine qm_Rp.rt (v := (some (.int v15))) (h' := (h.1, I14, h.2.2.1, h.2.2.2)) rfl ?_
    refine qm_Rp.go 0 (c' := (220, [.ref 28, .int y, .int x, .int g, .int 1, .int b, .int 0, .int 2, .int le, .int 1], [.int v15, .ref 36, .ref 28], (h.1, I14, h.2.2.1, h.2.2.2))) rfl ?_
    obtain ⟨v16, q_v16⟩ : ∃ v_, I7 36 v15.toInt.toNat = v_ := ⟨_, rfl⟩
    refine hp_ial (v := v16) rfl (hH.1 36 (0, 80) rfl) (show (I14) 36 v15.toInt.toNat = _ from ((e_I14 36 rfl v15.toInt.toNat).trans q_v16)) (fun ia_16 ib_16 => ?_)
    refine qm_Rp.go 0 (c' := (221, [.ref 28, .int y, .int x, .int g, .int 1, .int b, .int 0, .int 2, .int le, .int 1], [.int v16, .ref 28], (h.1, I14, h.2.2.1, h.2.2.2))) rfl ?_
    obtain rfl : b = v16 := hk_eqi.mpr ((show v16.toInt = (fu_up c ((16 * y.toInt + 4 * x.toInt + 0)).toNat (-1)) ((16 * y.toInt + 4 * x.toInt + 1)).toNat from by rw [show ((16 * y.toInt + 4 * x.toInt + 1)).toNat = v15.toInt.toNat by omega]; exact (congrArg Int32.toInt (show (I14) 36 v15.toInt.toNat = _ from ((e_I14 36 rfl v15.toInt.toNat).trans q_v16))).symm.trans (congrFun p36_I14 _)).trans ((fu_ne (by omega)).trans eb_b)).symm
    refine qm_Rp.go 1 (c' := (222, [.ref 28, .int y, .int x, .int g, .int 1, .int b, .int 0, .int 2, .int le, .int 1], [.int g, .int b, .ref 28], (h.1, I14, h.2.2.1, h.2.2.2))) rfl ?_
    refine hp_inv (o := 28) (r := []) (as := [.ref 28, .int b, .int g]) rfl rfl (hH.1 28 (9, 8) rfl) rfl rfl rfl ?_
    refine qm_Rp.go 2 (c' := (2, [.ref 28, .int b, .int g], [.int b, .ref 28], (h.1, I14, h.2.2.1, h.2.2.2))) rfl ?_
    refine hp_inv (o := 28) (r := []) (as := [.ref 28, .int b]) rfl rfl (hH.1 28 (9, 8) rfl) rfl rfl rfl (px_crem (h := (h.1, I14, h.2.2.1, h.2.2.2)) hH (show (I14) 28 5 = _ from ((e_I14 28 rfl 5).trans q_l_I7)) (by omega) (show (I14) 28 6 = _ from ((e_I14 28 rfl 6).trans q_w_I7)) (by omega) (w := h.2.1 7 (b.toInt.toNat)) (show (I14) 7 (b.toInt.toNat) = _ from ((e_I14 7 rfl (b.toInt.toNat)).trans ((e_I7 7 rfl (b.toInt.toNat)).trans rfl))) (pz_in eW hw (b.toInt.toNat)) (pz_w p37_I14 (by rw [fu_eq]; have := hb y.toInt.toNat (by omega); have := hw tw.toInt.toNat; omega)) (y := y) (x := x) (t := 1) (pz_at p12_I14 ((fu_ne hne).trans (ey_b))) (pz_at p13_I14 ((fu_ne hne).trans (ex_b))) (pz_at p14_I14 (((fu_ne hne).trans (et_b)).trans rfl)) ⟨by omega, by omega⟩ ⟨by omega, by omega⟩ ⟨by decide, by decide⟩ (fun I18 l_I18 w_I18 e_I18 x28_I18 q_l_I18 q_w_I18 e_l_I18 e_w_I18 x11 x12 x13 x14 x36 x37 => ?_))
    have x28_I18 : (∀ i, [5, 6].contains i = false → I18 28 i = (I14) 28 i) := x28_I18
    have x11 : pI I18 11 = fu_up (pI (I14) 11) (b.toInt.toNat) (Int32.toInt 0) := x11
    have x12 : pI I18 12 = fu_up (pI (I14) 12) (b.toInt.toNat) (Int32.toInt (-1)) := x12
    have x13 : pI I18 13 = fu_up (pI (I14) 13) (b.toInt.toNat) (Int32.toInt (-1)) := x13
    have x14 : pI I18 14 = fu_up (pI (I14) 14) (b.toInt.toNat) (Int32.toInt (-1)) := x14
    have x36 : pI I18 36 = fu_up (pI (I14) 36) (16 * y.toInt + 4 * x.toInt + Int32.toInt 1).toNat (Int32.toInt (-1)) := x36
    have x37 : pI I18 37 = fu_up (pI (I14) 37) y.toInt.toNat (pI (I14) 37 y.toInt.toNat + -(h.2.1 7 (b.toInt.toNat)).toInt) := x37
    have e9_b : (h.2.1 7 (b.toInt.toNat)).toInt = w b.toInt.toNat := by rw [← eW]; rfl
    rw [e9_b] at x37 e_l_I18 e_w_I18
    have m_b := zm_bd (x := w b.toInt.toNat) (y := 2 * x.toInt - 3) (u := 40) (p := 3) (q := 3) (hw _).1 (hw _).2 (by omega) (by omega) (by omega) (by omega)
    rw [Int.neg_mul] at e_l_I18
    have bw_b := hw b.toInt.toNat
    have e_I18 : ∀ o, [11, 12, 13, 14, 28, 36, 37].contains o = false → ∀ i, I18 o i = (I14) o i := e_I18
    have p11_I18 : pI I18 11 = fu_up (fu_up wh (tw.toInt.toNat) 2) (b.toInt.toNat) 0 := by rw [x11, p11_I14]; exact rfl
    have p12_I18 : pI I18 12 = fu_up (fu_up yb (tw.toInt.toNat) g.toInt) (b.toInt.toNat) (-1) := by rw [x12, p12_I14]; exact rfl
    have p13_I18 : pI I18 13 = fu_up (fu_up rb (tw.toInt.toNat) (-1)) (b.toInt.toNat) (-1) := by rw [x13, p13_I14]; exact rfl
    have p14_I18 : pI I18 14 = fu_up (fu_up tb (tw.toInt.toNat) (hi g.toInt.toNat)) (b.toInt.toNat) (-1) := by rw [x14, p14_I14]; exact rfl
    have p36_I18 : pI I18 36 = fu_up (fu_up c ((16 * y.toInt + 4 * x.toInt + 0)).toNat (-1)) ((16 * y.toInt + 4 * x.toInt + 1)).toNat (-1) := by rw [x36, p36_I14]; exact rfl
    have p16_I18 : pI I18 16 = fu_up yc (4 * g.toInt + hi g.toInt.toNat).toNat tw.toInt := (funext fun i => congrArg Int32.toInt (e_I18 16 rfl i)).trans p16_I14
    have p17_I18 : pI I18 17 = fu_up hi g.toInt.toNat (hi g.toInt.toNat + 1) := (funext fun i => congrArg Int32.toInt (e_I18 17 rfl i)).trans p17_I14
    have p37_I18 : pI I18 37 = fu_up bw y.toInt.toNat (bw y.toInt.toNat + -w tw.toInt.toNat + -w b.toInt.toNat) := by rw [x37, p37_I14, fu_eq]; exact fu_fu2
    refine qm_Rp.go 2 (c' := (7, [.ref 28, .int b, .int g], [.int (-1), .int g], (h.1, I18, h.2.2.1, h.2.2.2))) rfl ?_
    refine hp_ceq (ix := g.toInt) (iy := (-1)) rfl rfl rfl (fun z19 => by exfalso; omega) (fun z19 => ?_)
    refine qm_Rp.go 1 (c' := (11, [.ref 28, .int b, .int g], [.ref 28], (h.1, I18, h.2.2.1, h.2.2.2))) rfl ?_
    refine hp_getr rfl (hH.1 28 (9, 8) rfl) rfl (hH.2 28 1 (some 15) rfl) ?_
    refine qm_Rp.go 2 (c' := (16, [.ref 28, .int b, .int g], [.int g, .int b, .ref 15], (h.1, I18, h.2.2.1, h.2.2.2))) rfl ?_
    have ev : ((I18) 17 g.toInt.toNat).toInt = (hi g.toInt.toNat + 1) := by rw [show ((I18) 17 g.toInt.toNat).toInt = (fu_up hi g.toInt.toNat (hi g.toInt.toNat + 1)) g.toInt.toNat from congrFun p17_I18 _]; exact fu_eq
    have bg := hi4 g.toInt.toNat
    refine hp_inv (o := 15) (r := []) (as := [.ref 15, .int b, .int g]) rfl rfl (hH.1 15 (15, 8) rfl) rfl rfl rfl (px_cyp (h := (h.1, I18, h.2.2.1, h.2.2.2)) hH (v := (I18) 17 g.toInt.toNat) ⟨by omega, by omega⟩ rfl (by rw [ev]; omega) (fun I20 e_I20 x11 x12 x13 x14 x16 x17 => ?_))
    have x11 : pI I20 11 = fu_up (pI (I18) 11) (b.toInt.toNat) (Int32.toInt 2) := x11
    have x12 : pI I20 12 = fu_up (pI (I18) 12) (b.toInt.toNat) g.toInt := x12
    have x13 : pI I20 13 = fu_up (pI (I18) 13) (b.toInt.toNat) (Int32.toInt (-1)) := x13
    have x14 : pI I20 14 = fu_up (pI (I18) 14) (b.toInt.toNat) ((I18) 17 g.toInt.toNat).toInt := x14
    have x16 : pI I20 16 = fu_up (pI (I18) 16) (4 * g.toInt + ((I18) 17 g.toInt.toNat).toInt).toNat b.toInt := x16
    have x17 : pI I20 17 = fu_up (pI (I18) 17) g.toInt.toNat (((I18) 17 g.toInt.toNat).toInt + 1) := x17
    rw [ev] at x14 x16 x17
    have e_I20 : ∀ o, [11, 12, 13, 14, 16, 17].contains o = false → ∀ i, I20 o i = (I18) o i := e_I20
    have p11_I20 : pI I20 11 = fu_up (fu_up wh (tw.toInt.toNat) 2) (b.toInt.toNat) 2 := by rw [x11, p11_I18]; exact fu_fu2
    have p12_I20 : pI I20 12 = fu_up (fu_up yb (tw.toInt.toNat) g.toInt) (b.toInt.toNat) g.toInt := by rw [x12, p12_I18]; exact fu_fu2
    have p13_I20 : pI I20 13 = fu_up (fu_up rb (tw.toInt.toNat) (-1)) (b.toInt.toNat) (-1) := by rw [x13, p13_I18]; exact fu_fu2
    have p14_I20 : pI I20 14 = fu_up (fu_up tb (tw.toInt.toNat) (hi g.toInt.toNat)) (b.toInt.toNat) (hi g.toInt.toNat + 1) := by rw [x14, p14_I18]; exact fu_fu2
    have p36_I20 : pI I20 36 = fu_up (fu_up c ((16 * y.toInt + 4 * x.toInt + 0)).toNat (-1)) ((16 * y.toInt + 4 * x.toInt + 1)).toNat (-1) := (funext fun i => congrArg Int32.toInt (e_I20 36 rfl i)).trans p36_I18
    have p16_I20 : pI I20 16 = fu_up (fu_up yc (4 * g.toInt + hi g.toInt.toNat).toNat tw.toInt) (4 * g.toInt + (hi g.toInt.toNat + 1)).toNat b.toInt := by rw [x16, p16_I18]
    have p17_I20 : pI I20 17 = fu_up hi g.toInt.toNat ((hi g.toInt.toNat + 1) + 1) := by rw [x17, p17_I18]; exact fu_fu2
    have p37_I20 : pI I20 37 = fu_up bw y.toInt.toNat (bw y.toInt.toNat + -w tw.toInt.toNat + -w b.toInt.toNat) := (funext fun i => congrArg Int32.toInt (e_I20 37 rfl i)).trans p37_I18
    refine qm_Rp.go 1 (c' := (20, [.ref 28, .int b, .int g], [], (h.1, I20, h.2.2.1, h.2.2.2))) rfl ?_
    refine qm_Rp.rt (v := none) (h' := (h.1, I20, h.2.2.1, h.2.2.2)) rfl ?_
    refine qm_Rp.go 6 (c' := (233, [.ref 28, .int y, .int x, .int g, .int 1, .int b, .int 0, .int 2, .int le, .int 2], [.int 2], (h.1, I20, h.2.2.1, h.2.2.2))) rfl ?_
    refine qm_Rp.rt (v := (some (.int 2))) (h' := (h.1, I20, h.2.2.1, h.2.2.2)) rfl ?_
    exact k (I20) l_I18 w_I18 (fun o ho i => ((e_I20 o (hk_ms rfl ho) i).trans ((e_I18 o (hk_ms rfl ho) i).trans ((e_I14 o (hk_ms rfl ho) i).trans ((e_I7 o (hk_ms rfl ho) i).trans rfl))))) (fun i hi => ((e_I20 28 rfl i).trans ((x28_I18 i (hk_ms rfl hi)).trans ((e_I14 28 rfl i).trans ((x28_I7 i (hk_ms rfl hi)).trans rfl))))) (show (I20) 28 5 = _ from ((e_I20 28 rfl 5).trans q_l_I18)) (show (I20) 28 6 = _ from ((e_I20 28 rfl 6).trans q_w_I18)) (by omega) (by omega) (p11_I20.trans (by rw [if_neg (show ¬ g.toInt = -1 by omega)])) (p12_I20.trans (by rw [if_neg (show ¬ g.toInt = -1 by omega)])) p13_I20 (p14_I20.trans (by rw [if_neg (show ¬ g.toInt = -1 by omega)])) (p36_I20.trans (fu_cm (by omega))) (p16_I20.trans (by rw [if_neg (show ¬ g.toInt = -1 by omega)])) (p17_I20.trans (by rw [if_neg (show ¬ g.toInt = -1 by omega)])) p37_I20
set_option maxHeartbeats 4000000 in
theorem px_cl23 {X : Option (Nat × (Nat → Int32))} {Z : Option Value → qm_H → Prop} {h : qm_H} {fu : Nat} (hH : hk_H h) {y x g le b tw : Int32} {w wh yb rb tb c yc hi bw : Nat → Int} {ls wt : Int32} (q_ls : h.2.1 28 5 = ls) (hls : -3600 ≤ ls.toInt ∧ ls.toInt ≤ 3600) (q_wt : h.2.1 28 6 = wt) (hwt : 0 ≤ wt.toInt ∧ wt.toInt ≤ 1200) (eW : pI h.2.1 7 = w) (eH : pI h.2.1 11 = wh) (e12 : pI h.2.1 12 = yb) (e13 : pI h.2.1 13 = rb) (e14 : pI h.2.1 14 = tb) (eC : pI h.2.1 36 = c) (eY : pI h.2.1 16 = yc) (eI : pI h.2.1 17 = hi) (eV : pI h.2.1 37 = bw) (hw : ∀ b, 0 ≤ w b ∧ w b ≤ 40) (hi4 : ∀ x, 0 ≤ hi x ∧ hi x ≤ 4) (hb : ∀ c, c < 5 → 0 ≤ bw c ∧ bw c ≤ 1200) (by_ : 0 ≤ y.toInt ∧ y.toInt ≤ 4) (bx_ : 0 ≤ x.toInt ∧ x.toInt ≤ 3) (bg_ : -1 ≤ g.toInt ∧ g.toInt ≤ 3) (hm : g.toInt ≠ -1 → hi g.toInt.toNat + 2 ≤ 4) (bb_b : 0 ≤ b.toInt ∧ b.toInt ≤ 29) (eb_b : c (16 * y.toInt + 4 * x.toInt + 3).toNat = b.toInt) (ey_b : yb b.toInt.toNat = y.toInt) (ex_b : rb b.toInt.toNat = x.toInt) (et_b : tb b.toInt.toNat = 3) (bb_tw : 0 ≤ tw.toInt ∧ tw.toInt ≤ 29) (eb_tw : c (16 * y.toInt + 4 * x.toInt + 2).toNat = tw.toInt) (ey_tw : yb tw.toInt.toNat = y.toInt) (ex_tw : rb tw.toInt.toNat = x.toInt) (et_tw : tb tw.toInt.toNat = 2) (hne : b.toInt.toNat ≠ tw.toInt.toNat) (k : ∀ (I : Nat → Nat → Int32) (l2 w2 : Int32), (∀ o, [11, 12, 13, 14, 16, 17, 28, 36, 37].contains o = false → ∀ i, I o i = h.2.1 o i) → (∀ i, [5, 6].contains i = false → I 28 i = h.2.1 28 i) → I 28 5 = l2 → I 28 6 = w2 → l2.toInt = ls.toInt - w tw.toInt.toNat * (2 * x.toInt - 3) - w b.toInt.toNat * (2 * x.toInt - 3) → w2.toInt = wt.toInt - w tw.toInt.toNat - w b.toInt.toNat → pI I 11 = (if g.toInt = -1 then fu_up (fu_up wh b.toInt.toNat 0) tw.toInt.toNat 0 else fu_up (fu_up wh tw.toInt.toNat 2) b.toInt.toNat 2) → pI I 12 = (if g.toInt = -1 then fu_up (fu_up yb tw.toInt.toNat (-1)) b.toInt.toNat (-1) else fu_up (fu_up yb tw.toInt.toNat g.toInt) b.toInt.toNat g.toInt) → pI I 13 = fu_up (fu_up rb tw.toInt.toNat (-1)) b.toInt.toNat (-1) → pI I 14 = (if g.toInt = -1 then fu_up (fu_up tb tw.toInt.toNat (-1)) b.toInt.toNat (-1) else fu_up (fu_up tb tw.toInt.toNat (hi g.toInt.toNat)) b.toInt.toNat (hi g.toInt.toNat + 1)) → pI I 36 = fu_up (fu_up c (16 * y.toInt + 4 * x.toInt + 3).toNat (-1)) (16 * y.toInt + 4 * x.toInt + 2).toNat (-1) → pI I 16 = (if g.toInt = -1 then yc else fu_up (fu_up yc (4 * g.toInt + hi g.toInt.toNat).toNat tw.toInt) (4 * g.toInt + (hi g.toInt.toNat + 1)).toNat b.toInt) → pI I 17 = (if g.toInt = -1 then hi else fu_up hi g.toInt.toNat (hi g.toInt.toNat + 1 + 1)) → pI I 37 = fu_up bw y.toInt.toNat (bw y.toInt.toNat + -w tw.toInt.toNat + -w b.toInt.toNat) → Z (some (.int 2)) (h.1, I, h.2.2.1, h.2.2.2)) : qm_Rp fu X cd_102 (197, [.ref 28, .int y, .int x, .int g, .int 3, .int b, .int 2, .int 2, .int le, .float 0], [], h) Z := by
  have kz0 : (0 : Int32).toInt = 0 := rfl
  have kz1 : (1 : Int32).toInt = 1 := rfl
  have kz2 : (2 : Int32).toInt = 2 := rfl
  have kz3 : (3 : Int32).toInt = 3 := rfl
  have kz4 : (4 : Int32).toInt = 4 := rfl
  have kz5 : (5 : Int32).toInt = 5 := rfl
  have kz6 : (6 : Int32).toInt = 6 := rfl
  have kz7 : (7 : Int32).toInt = 7 := rfl
  have kz8 : (8 : Int32).toInt = 8 := rfl
  have kz9 : (9 : Int32).toInt = 9 := rfl
  have kzm1 : ((-1) : Int32).toInt = (-1) := rfl
  have kzm2 : ((-2) : Int32).toInt = (-2) := rfl
  have kzm3 : ((-3) : Int32).toInt = (-3) := rfl
  refine qm_Rp.go 6 (c' := (209, [.ref 28, .int y, .int x, .int g, .int 3, .int b, .int 2, .int 2, .int le, .int 2], [.ref 28], h)) rfl ?_
  refine qm_Rp.go 1 (c' := (210, [.ref 28, .int y, .int x, .int g, .int 3, .int b, .int 2, .int 2, .int le, .int 2], [.ref 28, .ref 28], h)) rfl ?_
  refine hp_getr rfl (hH.1 28 (9, 8) rfl) rfl (hH.2 28 3 (some 36) rfl) ?_
  refine qm_Rp.go 3 (c' := (217, [.ref 28, .int y, .int x, .int g, .int 3, .int b, .int 2, .int 2, .int le, .int 2], [.int 2, .int x, .int y, .ref 36, .ref 28], h)) rfl ?_
  refine qm_Rp.call (j := 75) (as := [.int y, .int x, .int 2]) (c' := (220, [.ref 28, .int y, .int x, .int g, .int 3, .int b, .int 2, .int 2, .int le, .int 2], [.ref 36, .ref 28], h)) rfl rfl ?_
  refine qm_Rp.go 3 (c' := (3, [.int y, .int x, .int 2], [.int (y * 4)], h)) rfl ?_
  obtain ⟨v1, q_v1, e_v1⟩ := hk_mul (x := y) (y := 4) (a := y.toInt) (b := 4) rfl rfl (by omega) (by omega)
  rw [q_v1]
  refine qm_Rp.go 2 (c' := (5, [.int y, .int x, .int 2], [.int (v1 + x)], h)) rfl ?_
  obtain ⟨v2, q_v2, e_v2⟩ := hk_add (x := v1) (y := x) (a := v1.toInt) (b := x.toInt) rfl rfl (by omega) (by omega)
  rw [q_v2]
  refine qm_Rp.go 2 (c' := (7, [.int y, .int x, .int 2], [.int (v2 * 4)], h)) rfl ?_
  obtain ⟨v3, q_v3, e_v3⟩ := hk_mul (x := v2) (y := 4) (a := v2.toInt) (b := 4) rfl rfl (by omega) (by omega)
  rw [q_v3]
  refine qm_Rp.go 2 (c' := (9, [.int y, .int x, .int 2], [.int (v3 + 2)], h)) rfl ?_
  obtain ⟨v4, q_v4, e_v4⟩ := hk_add (x := v3) (y := 2) (a := v3.toInt) (b := 2) rfl rfl (by omega) (by omega)
  rw [q_v4]
  refine qm_Rp.rt (v := (some (.int v4))) (h' := h) rfl ?_
  refine qm_Rp.go 0 (c' := (220, [.ref 28, .int y, .int x, .int g, .int 3, .int b, .int 2, .int 2, .int le, .int 2], [.int v4, .ref 36, .ref 28], h)) rfl ?_
  obtain ⟨v5, q_v5⟩ : ∃ v_, h.2.1 36 v4.toInt.toNat = v_ := ⟨_, rfl⟩
  refine hp_ial (v := v5) rfl (hH.1 36 (0, 80) rfl) q_v5 (fun ia_5 ib_5 => ?_)
  refine qm_Rp.go 0 (c' := (221, [.ref 28, .int y, .int x, .int g, .int 3, .int b, .int 2, .int 2, .int le, .int 2], [.int v5, .ref 28], h)) rfl ?_
  obtain rfl : tw = v5 := hk_eqi.mpr ((show v5.toInt = (c) ((16 * y.toInt + 4 * x.toInt + 2)).toNat from by rw [show ((16 * y.toInt + 4 * x.toInt + 2)).toNat = v4.toInt.toNat by omega]; exact (congrArg Int32.toInt q_v5).symm.trans (congrFun eC _)).trans (eb_tw)).symm
  refine qm_Rp.go 1 (c' := (222, [.ref 28, .int y, .int x, .int g, .int 3, .int b, .int 2, .int 2, .int le, .int 2], [.int g, .int tw, .ref 28], h)) rfl ?_
  refine hp_inv (o := 28) (r := []) (as := [.ref 28, .int tw, .int g]) rfl rfl (hH.1 28 (9, 8) rfl) rfl rfl rfl ?_
  refine qm_Rp.go 2 (c' := (2, [.ref 28, .int tw, .int g], [.int tw, .ref 28], h)) rfl ?_
  refine hp_inv (o := 28) (r := []) (as := [.ref 28, .int tw]) rfl rfl (hH.1 28 (9, 8) rfl) rfl rfl rfl (px_crem (h := h) hH q_ls (by omega) q_wt (by omega) (w := h.2.1 7 (tw.toInt.toNat)) (show (h.2.1) 7 (tw.toInt.toNat) = _ from rfl) (pz_in eW hw (tw.toInt.toNat)) (pz_w eV (by have := hb y.toInt.toNat (by omega); omega)) (y := y) (x := x) (t := 2) (pz_at e12 (ey_tw)) (pz_at e13 (ex_tw)) (pz_at e14 ((et_tw).trans rfl)) ⟨by omega, by omega⟩ ⟨by omega, by omega⟩ ⟨by decide, by decide⟩ (fun I7 l_I7 w_I7 e_I7 x28_I7 q_l_I7 q_w_I7 e_l_I7 e_w_I7 x11 x12 x13 x14 x36 x37 => ?_))
  have x28_I7 : (∀ i, [5, 6].contains i = false → I7 28 i = (h.2.1) 28 i) := x28_I7
  have x11 : pI I7 11 = fu_up (pI (h.2.1) 11) (tw.toInt.toNat) (Int32.toInt 0) := x11
  have x12 : pI I7 12 = fu_up (pI (h.2.1) 12) (tw.toInt.toNat) (Int32.toInt (-1)) := x12
  have x13 : pI I7 13 = fu_up (pI (h.2.1) 13) (tw.toInt.toNat) (Int32.toInt (-1)) := x13
  have x14 : pI I7 14 = fu_up (pI (h.2.1) 14) (tw.toInt.toNat) (Int32.toInt (-1)) := x14
  have x36 : pI I7 36 = fu_up (pI (h.2.1) 36) (16 * y.toInt + 4 * x.toInt + Int32.toInt 2).toNat (Int32.toInt (-1)) := x36
  have x37 : pI I7 37 = fu_up (pI (h.2.1) 37) y.toInt.toNat (pI (h.2.1) 37 y.toInt.toNat + -(h.2.1 7 (tw.toInt.toNat)).toInt) := x37
  have e9_tw : (h.2.1 7 (tw.toInt.toNat)).toInt = w tw.toInt.toNat := by rw [← eW]; rfl
  rw [e9_tw] at x37 e_l_I7 e_w_I7
  have m_tw := zm_bd (x := w tw.toInt.toNat) (y := 2 * x.toInt - 3) (u := 40) (p := 3) (q := 3) (hw _).1 (hw _).2 (by omega) (by omega) (by omega) (by omega)
  rw [Int.neg_mul] at e_l_I7
  have bw_tw := hw tw.toInt.toNat
  have e_I7 : ∀ o, [11, 12, 13, 14, 28, 36, 37].contains o = false → ∀ i, I7 o i = (h.2.1) o i := e_I7
  have p11_I7 : pI I7 11 = fu_up wh (tw.toInt.toNat) 0 := by rw [x11, eH]; exact rfl
  have p12_I7 : pI I7 12 = fu_up yb (tw.toInt.toNat) (-1) := by rw [x12, e12]; exact rfl
  have p13_I7 : pI I7 13 = fu_up rb (tw.toInt.toNat) (-1) := by rw [x13, e13]; exact rfl
  have p14_I7 : pI I7 14 = fu_up tb (tw.toInt.toNat) (-1) := by rw [x14, e14]; exact rfl
  have p36_I7 : pI I7 36 = fu_up c ((16 * y.toInt + 4 * x.toInt + 2)).toNat (-1) := by rw [x36, eC]; exact rfl
  have p16_I7 : pI I7 16 = yc := (funext fun i => congrArg Int32.toInt (e_I7 16 rfl i)).trans eY
  have p17_I7 : pI I7 17 = hi := (funext fun i => congrArg Int32.toInt (e_I7 17 rfl i)).trans eI
  have p37_I7 : pI I7 37 = fu_up bw y.toInt.toNat (bw y.toInt.toNat + -w tw.toInt.toNat) := by rw [x37, eV]
  refine qm_Rp.go 2 (c' := (7, [.ref 28, .int tw, .int g], [.int (-1), .int g], (h.1, I7, h.2.2.1, h.2.2.2))) rfl ?_
  refine hp_ceq (ix := g.toInt) (iy := (-1)) rfl rfl rfl (fun z8 => ?_) (fun z8 => ?_)
  · refine qm_Rp.go 0 (c' := (20, [.ref 28, .int tw, .int g], [], (h.1, I7, h.2.2.1, h.2.2.2))) rfl ?_
    refine qm_Rp.rt (v := none) (h' := (h.1, I7, h.2.2.1, h.2.2.2)) rfl ?_
    refine qm_Rp.go 6 (c' := (209, [.ref 28, .int y, .int x, .int g, .int 3, .int b, .int 2, .int 2, .int le, .int 3], [.ref 28], (h.1, I7, h.2.2.1, h.2.2.2))) rfl ?_
    refine qm_Rp.go 1 (c' := (210, [.ref 28, .int y, .int x, .int g, .int 3, .int b, .int 2, .int 2, .int le, .int 3], [.ref 28, .ref 28], (h.1, I7, h.2.2.1, h.2.2.2))) rfl ?_
    refine hp_getr rfl (hH.1 28 (9, 8) rfl) rfl (hH.2 28 3 (some 36) rfl) ?_
    refine qm_Rp.go 3 (c' := (217, [.ref 28, .int y, .int x, .int g, .int 3, .int b, .int 2, .int 2, .int le, .int 3], [.int 3, .int x, .int y, .ref 36, .ref 28], (h.1, I7, h.2.2.1, h.2.2.2))) rfl ?_
    refine qm_Rp.call (j := 75) (as := [.int y, .int x, .int 3]) (c' := (220, [.ref 28, .int y, .int x, .int g, .int 3, .int b, .int 2, .int 2, .int le, .int 3], [.ref 36, .ref 28], (h.1, I7, h.2.2.1, h.2.2.2))) rfl rfl ?_
    refine qm_Rp.go 3 (c' := (3, [.int y, .int x, .int 3], [.int (y * 4)], (h.1, I7, h.2.2.1, h.2.2.2))) rfl ?_
    rw [q_v1]
    refine qm_Rp.go 2 (c' := (5, [.int y, .int x, .int 3], [.int (v1 + x)], (h.1, I7, h.2.2.1, h.2.2.2))) rfl ?_
    rw [q_v2]
    refine qm_Rp.go 2 (c' := (7, [.int y, .int x, .int 3], [.int (v2 * 4)], (h.1, I7, h.2.2.1, h.2.2.2))) rfl ?_
    rw [q_v3]
    refine qm_Rp.go 2 (c' := (9, [.int y, .int x, .int 3], [.int (v3 + 3)], (h.1, I7, h.2.2.1, h.2.2.2))) rfl ?_
    obtain ⟨v9, q_v9, e_v9⟩ := hk_add (x := v3) (y := 3) (a := v3.toInt) (b := 3) rfl rfl (by omega) (by omega)
    rw [q_v9]
    refine qm_Rp.rt (v := (some (.int v9))) (h' := (h.1, I7, h.2.2.1, h.2.2.2)) rfl ?_
    refine qm_Rp.go 0 (c' := (220, [.ref 28, .int y, .int x, .int g, .int 3, .int b, .int 2, .int 2, .int le, .int 3], [.int v9, .ref 36, .ref 28], (h.1, I7, h.2.2.1, h.2.2.2))) rfl ?_
    obtain ⟨v10, q_v10⟩ : ∃ v_, I7 36 v9.toInt.toNat = v_ := ⟨_, rfl⟩
    refine hp_ial (v := v10) rfl (hH.1 36 (0, 80) rfl) q_v10 (fun ia_10 ib_10 => ?_)
    refine qm_Rp.go 0 (c' := (221, [.ref 28, .int y, .int x, .int g, .int 3, .int b, .int 2, .int 2, .int le, .int 3], [.int v10, .ref 28], (h.1, I7, h.2.2.1, h.2.2.2))) rfl ?_
    obtain rfl : b = v10 := hk_eqi.mpr ((show v10.toInt = (fu_up c ((16 * y.toInt + 4 * x.toInt + 2)).toNat (-1)) ((16 * y.toInt + 4 * x.toInt + 3)).toNat from by rw [show ((16 * y.toInt + 4 * x.toInt + 3)).toNat = v9.toInt.toNat by omega]; exact (congrArg Int32.toInt q_v10).symm.trans (congrFun p36_I7 _)).trans ((fu_ne (by omega)).trans eb_b)).symm
    refine qm_Rp.go 1 (c' := (222, [.ref 28, .int y, .int x, .int g, .int 3, .int b, .int 2, .int 2, .int le, .int 3], [.int g, .int b, .ref 28], (h.1, I7, h.2.2.1, h.2.2.2))) rfl ?_
    refine hp_inv (o := 28) (r := []) (as := [.ref 28, .int b, .int g]) rfl rfl (hH.1 28 (9, 8) rfl) rfl rfl rfl ?_
    refine qm_Rp.go 2 (c' := (2, [.ref 28, .int b, .int g], [.int b, .ref 28], (h.1, I7, h.2.2.1, h.2.2.2))) rfl ?_
    refine hp_inv (o := 28) (r := []) (as := [.ref 28, .int b]) rfl rfl (hH.1 28 (9, 8) rfl) rfl rfl rfl (px_crem (h := (h.1, I7, h.2.2.1, h.2.2.2)) hH q_l_I7 (by omega) q_w_I7 (by omega) (w := h.2.1 7 (b.toInt.toNat)) (show (I7) 7 (b.toInt.toNat) = _ from ((e_I7 7 rfl (b.toInt.toNat)).trans rfl)) (pz_in eW hw (b.toInt.toNat)) (pz_w p37_I7 (by rw [fu_eq]; have := hb y.toInt.toNat (by omega); have := hw tw.toInt.toNat; omega)) (y := y) (x := x) (t := 3) (pz_at p12_I7 ((fu_ne hne).trans (ey_b))) (pz_at p13_I7 ((fu_ne hne).trans (ex_b))) (pz_at p14_I7 (((fu_ne hne).trans (et_b)).trans rfl)) ⟨by omega, by omega⟩ ⟨by omega, by omega⟩ ⟨by decide, by decide⟩ (fun I12 l_I12 w_I12 e_I12 x28_I12 q_l_I12 q_w_I12 e_l_I12 e_w_I12 x11 x12 x13 x14 x36 x37 => ?_))
    have x28_I12 : (∀ i, [5, 6].contains i = false → I12 28 i = (I7) 28 i) := x28_I12
    have x11 : pI I12 11 = fu_up (pI (I7) 11) (b.toInt.toNat) (Int32.toInt 0) := x11
    have x12 : pI I12 12 = fu_up (pI (I7) 12) (b.toInt.toNat) (Int32.toInt (-1)) := x12
    have x13 : pI I12 13 = fu_up (pI (I7) 13) (b.toInt.toNat) (Int32.toInt (-1)) := x13
    have x14 : pI I12 14 = fu_up (pI (I7) 14) (b.toInt.toNat) (Int32.toInt (-1)) := x14
    have x36 : pI I12 36 = fu_up (pI (I7) 36) (16 * y.toInt + 4 * x.toInt + Int32.toInt 3).toNat (Int32.toInt (-1)) := x36
    have x37 : pI I12 37 = fu_up (pI (I7) 37) y.toInt.toNat (pI (I7) 37 y.toInt.toNat + -(h.2.1 7 (b.toInt.toNat)).toInt) := x37
    have e9_b : (h.2.1 7 (b.toInt.toNat)).toInt = w b.toInt.toNat := by rw [← eW]; rfl
    rw [e9_b] at x37 e_l_I12 e_w_I12
    have m_b := zm_bd (x := w b.toInt.toNat) (y := 2 * x.toInt - 3) (u := 40) (p := 3) (q := 3) (hw _).1 (hw _).2 (by omega) (by omega) (by omega) (by omega)
    rw [Int.neg_mul] at e_l_I12
    have bw_b := hw b.toInt.toNat
    have e_I12 : ∀ o, [11, 12, 13, 14, 28, 36, 37].contains o = false → ∀ i, I12 o i = (I7) o i := e_I12
    have p11_I12 : pI I12 11 = fu_up (fu_up wh (tw.toInt.toNat) 0) (b.toInt.toNat) 0 := by rw [x11, p11_I7]; exact rfl
    have p12_I12 : pI I12 12 = fu_up (fu_up yb (tw.toInt.toNat) (-1)) (b.toInt.toNat) (-1) := by rw [x12, p12_I7]; exact rfl
    have p13_I12 : pI I12 13 = fu_up (fu_up rb (tw.toInt.toNat) (-1)) (b.toInt.toNat) (-1) := by rw [x13, p13_I7]; exact rfl
    have p14_I12 : pI I12 14 = fu_up (fu_up tb (tw.toInt.toNat) (-1)) (b.toInt.toNat) (-1) := by rw [x14, p14_I7]; exact rfl
    have p36_I12 : pI I12 36 = fu_up (fu_up c ((16 * y.toInt + 4 * x.toInt + 2)).toNat (-1)) ((16 * y.toInt + 4 * x.toInt + 3)).toNat (-1) := by rw [x36, p36_I7]; exact rfl
    have p16_I12 : pI I12 16 = yc := (funext fun i => congrArg Int32.toInt (e_I12 16 rfl i)).trans p16_I7
    have p17_I12 : pI I12 17 = hi := (funext fun i => congrArg Int32.toInt (e_I12 17 rfl i)).trans p17_I7
    have p37_I12 : pI I12 37 = fu_up bw y.toInt.toNat (bw y.toInt.toNat + -w tw.toInt.toNat + -w b.toInt.toNat) := by rw [x37, p37_I7, fu_eq]; exact fu_fu2
    refine qm_Rp.go 2 (c' := (7, [.ref 28, .int b, .int g], [.int (-1), .int g], (h.1, I12, h.2.2.1, h.2.2.2))) rfl ?_
    refine hp_ceq (ix := g.toInt) (iy := (-1)) rfl rfl rfl (fun z13 => ?_) (fun z13 => by exfalso; omega)
    refine qm_Rp.go 0 (c' := (20, [.ref 28, .int b, .int g], [], (h.1, I12, h.2.2.1, h.2.2.2))) rfl ?_
    refine qm_Rp.rt (v := none) (h' := (h.1, I12, h.2.2.1, h.2.2.2)) rfl ?_
    refine qm_Rp.go 6 (c' := (233, [.ref 28, .int y, .int x, .int g, .int 3, .int b, .int 2, .int 2, .int le, .int 4], [.int 2], (h.1, I12, h.2.2.1, h.2.2.2))) rfl ?_
    refine qm_Rp.rt (v := (some (.int 2))) (h' := (h.1, I12, h.2.2.1, h.2.2.2)) rfl ?_
    exact k (I12) l_I12 w_I12 (fun o ho i => ((e_I12 o (hk_ms rfl ho) i).trans ((e_I7 o (hk_ms rfl ho) i).trans rfl))) (fun i hi => ((x28_I12 i (hk_ms rfl hi)).trans ((x28_I7 i (hk_ms rfl hi)).trans rfl))) q_l_I12 q_w_I12 (by omega) (by omega) (p11_I12.trans (by rw [if_pos (show g.toInt = -1 by omega)]; exact fu_cm (fun z => hne z.symm))) (p12_I12.trans (by rw [if_pos (show g.toInt = -1 by omega)])) p13_I12 (p14_I12.trans (by rw [if_pos (show g.toInt = -1 by omega)])) (p36_I12.trans (fu_cm (by omega))) (p16_I12.trans (by rw [if_pos (show g.toInt = -1 by omega)])) (p17_I12.trans (by rw [if_pos (show g.toInt = -1 by omega)])) p37_I12
  · refine qm_Rp.go 1 (c' := (11, [.ref 28, .int tw, .int g], [.ref 28], (h.1, I7, h.2.2.1, h.2.2.2))) rfl ?_
    refine hp_getr rfl (hH.1 28 (9, 8) rfl) rfl (hH.2 28 1 (some 15) rfl) ?_
    refine qm_Rp.go 2 (c' := (16, [.ref 28, .int tw, .int g], [.int g, .int tw, .ref 15], (h.1, I7, h.2.2.1, h.2.2.2))) rfl ?_
    have ev : ((I7) 17 g.toInt.toNat).toInt = hi g.toInt.toNat := by rw [show ((I7) 17 g.toInt.toNat).toInt = (hi) g.toInt.toNat from congrFun p17_I7 _]
    have bg := hi4 g.toInt.toNat
    refine hp_inv (o := 15) (r := []) (as := [.ref 15, .int tw, .int g]) rfl rfl (hH.1 15 (15, 8) rfl) rfl rfl rfl (px_cyp (h := (h.1, I7, h.2.2.1, h.2.2.2)) hH (v := (I7) 17 g.toInt.toNat) ⟨by omega, by omega⟩ rfl (by rw [ev]; omega) (fun I14 e_I14 x11 x12 x13 x14 x16 x17 => ?_))
    have x11 : pI I14 11 = fu_up (pI (I7) 11) (tw.toInt.toNat) (Int32.toInt 2) := x11
    have x12 : pI I14 12 = fu_up (pI (I7) 12) (tw.toInt.toNat) g.toInt := x12
    have x13 : pI I14 13 = fu_up (pI (I7) 13) (tw.toInt.toNat) (Int32.toInt (-1)) := x13
    have x14 : pI I14 14 = fu_up (pI (I7) 14) (tw.toInt.toNat) ((I7) 17 g.toInt.toNat).toInt := x14
    have x16 : pI I14 16 = fu_up (pI (I7) 16) (4 * g.toInt + ((I7) 17 g.toInt.toNat).toInt).toNat tw.toInt := x16
    have x17 : pI I14 17 = fu_up (pI (I7) 17) g.toInt.toNat (((I7) 17 g.toInt.toNat).toInt + 1) := x17
    rw [ev] at x14 x16 x17
    have e_I14 : ∀ o, [11, 12, 13, 14, 16, 17].contains o = false → ∀ i, I14 o i = (I7) o i := e_I14
    have p11_I14 : pI I14 11 = fu_up wh (tw.toInt.toNat) 2 := by rw [x11, p11_I7]; exact fu_fu2
    have p12_I14 : pI I14 12 = fu_up yb (tw.toInt.toNat) g.toInt := by rw [x12, p12_I7]; exact fu_fu2
    have p13_I14 : pI I14 13 = fu_up rb (tw.toInt.toNat) (-1) := by rw [x13, p13_I7]; exact fu_fu2
    have p14_I14 : pI I14 14 = fu_up tb (tw.toInt.toNat) (hi g.toInt.toNat) := by rw [x14, p14_I7]; exact fu_fu2
    have p36_I14 : pI I14 36 = fu_up c ((16 * y.toInt + 4 * x.toInt + 2)).toNat (-1) := (funext fun i => congrArg Int32.toInt (e_I14 36 rfl i)).trans p36_I7
    have p16_I14 : pI I14 16 = fu_up yc (4 * g.toInt + hi g.toInt.toNat).toNat tw.toInt := by rw [x16, p16_I7]
    have p17_I14 : pI I14 17 = fu_up hi g.toInt.toNat (hi g.toInt.toNat + 1) := by rw [x17, p17_I7]
    have p37_I14 : pI I14 37 = fu_up bw y.toInt.toNat (bw y.toInt.toNat + -w tw.toInt.toNat) := (funext fun i => congrArg Int32.toInt (e_I14 37 rfl i)).trans p37_I7
    refine qm_Rp.go 1 (c' := (20, [.ref 28, .int tw, .int g], [], (h.1, I14, h.2.2.1, h.2.2.2))) rfl ?_
    refine qm_Rp.rt (v := none) (h' := (h.1, I14, h.2.2.1, h.2.2.2)) rfl ?_
    refine qm_Rp.go 6 (c' := (209, [.ref 28, .int y, .int x, .int g, .int 3, .int b, .int 2, .int 2, .int le, .int 3], [.ref 28], (h.1, I14, h.2.2.1, h.2.2.2))) rfl ?_
    refine qm_Rp.go 1 (c' := (210, [.ref 28, .int y, .int x, .int g, .int 3, .int b, .int 2, .int 2, .int le, .int 3], [.ref 28, .ref 28], (h.1, I14, h.2.2.1, h.2.2.2))) rfl ?_
    refine hp_getr rfl (hH.1 28 (9, 8) rfl) rfl (hH.2 28 3 (some 36) rfl) ?_
    refine qm_Rp.go 3 (c' := (217, [.ref 28, .int y, .int x, .int g, .int 3, .int b, .int 2, .int 2, .int le, .int 3], [.int 3, .int x, .int y, .ref 36, .ref 28], (h.1, I14, h.2.2.1, h.2.2.2))) rfl ?_
    refine qm_Rp.call (j := 75) (as := [.int y, .int x, .int 3]) (c' := (220, [.ref 28, .int y, .int x, .int g, .int 3, .int b, .int 2, .int 2, .int le, .int 3], [.ref 36, .ref 28], (h.1, I14, h.2.2.1, h.2.2.2))) rfl rfl ?_
    refine qm_Rp.go 3 (c' := (3, [.int y, .int x, .int 3], [.int (y * 4)], (h.1, I14, h.2.2.1, h.2.2.2))) rfl ?_
    rw [q_v1]
    refine qm_Rp.go 2 (c' := (5, [.int y, .int x, .int 3], [.int (v1 + x)], (h.1, I14, h.2.2.1, h.2.2.2))) rfl ?_
    rw [q_v2]
    refine qm_Rp.go 2 (c' := (7, [.int y, .int x, .int 3], [.int (v2 * 4)], (h.1, I14, h.2.2.1, h.2.2.2))) rfl ?_
    rw [q_v3]
    refine qm_Rp.go 2 (c' := (9, [.int y, .int x, .int 3], [.int (v3 + 3)], (h.1, I14, h.2.2.1, h.2.2.2))) rfl ?_
    obtain ⟨v15, q_v15, e_v15⟩ := hk_add (x := v3) (y := 3) (a := v3.toInt) (b := 3) rfl rfl (by omega) (by omega)
    rw [q_v15]
    refine qm_Rp.rt (v := (some (.int v15))) (h' := (h.1, I14, h.2.2.1, h.2.2.2)) rfl ?_
    refine qm_Rp.go 0 (c' := (220, [.ref 28, .int y, .int x, .int g, .int 3, .int b, .int 2, .int 2, .int le, .int 3], [.int v15, .ref 36, .ref 28], (h.1, I14, h.2.2.1, h.2.2.2))) rfl ?_
    obtain ⟨v16, q_v16⟩ : ∃ v_, I7 36 v15.toInt.toNat = v_ := ⟨_, rfl⟩
    refine hp_ial (v := v16) rfl (hH.1 36 (0, 80) rfl) (show (I14) 36 v15.toInt.toNat = _ from ((e_I14 36 rfl v15.toInt.toNat).trans q_v16)) (fun ia_16 ib_16 => ?_)
    refine qm_Rp.go 0 (c' := (221, [.ref 28, .int y, .int x, .int g, .int 3, .int b, .int 2, .int 2, .int le, .int 3], [.int v16, .ref 28], (h.1, I14, h.2.2.1, h.2.2.2))) rfl ?_
    obtain rfl : b = v16 := hk_eqi.mpr ((show v16.toInt = (fu_up c ((16 * y.toInt + 4 * x.toInt + 2)).toNat (-1)) ((16 * y.toInt + 4 * x.toInt + 3)).toNat from by rw [show ((16 * y.toInt + 4 * x.toInt + 3)).toNat = v15.toInt.toNat by omega]; exact (congrArg Int32.toInt (show (I14) 36 v15.toInt.toNat = _ from ((e_I14 36 rfl v15.toInt.toNat).trans q_v16))).symm.trans (congrFun p36_I14 _)).trans ((fu_ne (by omega)).trans eb_b)).symm
    refine qm_Rp.go 1 (c' := (222, [.ref 28, .int y, .int x, .int g, .int 3, .int b, .int 2, .int 2, .int le, .int 3], [.int g, .int b, .ref 28], (h.1, I14, h.2.2.1, h.2.2.2))) rfl ?_
    refine hp_inv (o := 28) (r := []) (as := [.ref 28, .int b, .int g]) rfl rfl (hH.1 28 (9, 8) rfl) rfl rfl rfl ?_
    refine qm_Rp.go 2 (c' := (2, [.ref 28, .int b, .int g], [.int b, .ref 28], (h.1, I14, h.2.2.1, h.2.2.2))) rfl ?_
    refine hp_inv (o := 28) (r := []) (as := [.ref 28, .int b]) rfl rfl (hH.1 28 (9, 8) rfl) rfl rfl rfl (px_crem (h := (h.1, I14, h.2.2.1, h.2.2.2)) hH (show (I14) 28 5 = _ from ((e_I14 28 rfl 5).trans q_l_I7)) (by omega) (show (I14) 28 6 = _ from ((e_I14 28 rfl 6).trans q_w_I7)) (by omega) (w := h.2.1 7 (b.toInt.toNat)) (show (I14) 7 (b.toInt.toNat) = _ from ((e_I14 7 rfl (b.toInt.toNat)).trans ((e_I7 7 rfl (b.toInt.toNat)).trans rfl))) (pz_in eW hw (b.toInt.toNat)) (pz_w p37_I14 (by rw [fu_eq]; have := hb y.toInt.toNat (by omega); have := hw tw.toInt.toNat; omega)) (y := y) (x := x) (t := 3) (pz_at p12_I14 ((fu_ne hne).trans (ey_b))) (pz_at p13_I14 ((fu_ne hne).trans (ex_b))) (pz_at p14_I14 (((fu_ne hne).trans (et_b)).trans rfl)) ⟨by omega, by omega⟩ ⟨by omega, by omega⟩ ⟨by decide, by decide⟩ (fun I18 l_I18 w_I18 e_I18 x28_I18 q_l_I18 q_w_I18 e_l_I18 e_w_I18 x11 x12 x13 x14 x36 x37 => ?_))
    have x28_I18 : (∀ i, [5, 6].contains i = false → I18 28 i = (I14) 28 i) := x28_I18
    have x11 : pI I18 11 = fu_up (pI (I14) 11) (b.toInt.toNat) (Int32.toInt 0) := x11
    have x12 : pI I18 12 = fu_up (pI (I14) 12) (b.toInt.toNat) (Int32.toInt (-1)) := x12
    have x13 : pI I18 13 = fu_up (pI (I14) 13) (b.toInt.toNat) (Int32.toInt (-1)) := x13
    have x14 : pI I18 14 = fu_up (pI (I14) 14) (b.toInt.toNat) (Int32.toInt (-1)) := x14
    have x36 : pI I18 36 = fu_up (pI (I14) 36) (16 * y.toInt + 4 * x.toInt + Int32.toInt 3).toNat (Int32.toInt (-1)) := x36
    have x37 : pI I18 37 = fu_up (pI (I14) 37) y.toInt.toNat (pI (I14) 37 y.toInt.toNat + -(h.2.1 7 (b.toInt.toNat)).toInt) := x37
    have e9_b : (h.2.1 7 (b.toInt.toNat)).toInt = w b.toInt.toNat := by rw [← eW]; rfl
    rw [e9_b] at x37 e_l_I18 e_w_I18
    have m_b := zm_bd (x := w b.toInt.toNat) (y := 2 * x.toInt - 3) (u := 40) (p := 3) (q := 3) (hw _).1 (hw _).2 (by omega) (by omega) (by omega) (by omega)
    rw [Int.neg_mul] at e_l_I18
    have bw_b := hw b.toInt.toNat
    have e_I18 : ∀ o, [11, 12, 13, 14, 28, 36, 37].contains o = false → ∀ i, I18 o i = (I14) o i := e_I18
    have p11_I18 : pI I18 11 = fu_up (fu_up wh (tw.toInt.toNat) 2) (b.toInt.toNat) 0 := by rw [x11, p11_I14]; exact rfl
    have p12_I18 : pI I18 12 = fu_up (fu_up yb (tw.toInt.toNat) g.toInt) (b.toInt.toNat) (-1) := by rw [x12, p12_I14]; exact rfl
    have p13_I18 : pI I18 13 = fu_up (fu_up rb (tw.toInt.toNat) (-1)) (b.toInt.toNat) (-1) := by rw [x13, p13_I14]; exact rfl
    have p14_I18 : pI I18 14 = fu_up (fu_up tb (tw.toInt.toNat) (hi g.toInt.toNat)) (b.toInt.toNat) (-1) := by rw [x14, p14_I14]; exact rfl
    have p36_I18 : pI I18 36 = fu_up (fu_up c ((16 * y.toInt + 4 * x.toInt + 2)).toNat (-1)) ((16 * y.toInt + 4 * x.toInt + 3)).toNat (-1) := by rw [x36, p36_I14]; exact rfl
    have p16_I18 : pI I18 16 = fu_up yc (4 * g.toInt + hi g.toInt.toNat).toNat tw.toInt := (funext fun i => congrArg Int32.toInt (e_I18 16 rfl i)).trans p16_I14
    have p17_I18 : pI I18 17 = fu_up hi g.toInt.toNat (hi g.toInt.toNat + 1) := (funext fun i => congrArg Int32.toInt (e_I18 17 rfl i)).trans p17_I14
    have p37_I18 : pI I18 37 = fu_up bw y.toInt.toNat (bw y.toInt.toNat + -w tw.toInt.toNat + -w b.toInt.toNat) := by rw [x37, p37_I14, fu_eq]; exact fu_fu2
    refine qm_Rp.go 2 (c' := (7, [.ref 28, .int b, .int g], [.int (-1), .int g], (h.1, I18, h.2.2.1, h.2.2.2))) rfl ?_
    refine hp_ceq (ix := g.toInt) (iy := (-1)) rfl rfl rfl (fun z19 => by exfalso; omega) (fun z19 => ?_)
    refine qm_Rp.go 1 (c' := (11, [.ref 28, .int b, .int g], [.ref 28], (h.1, I18, h.2.2.1, h.2.2.2))) rfl ?_
    refine hp_getr rfl (hH.1 28 (9, 8) rfl) rfl (hH.2 28 1 (some 15) rfl) ?_
    refine qm_Rp.go 2 (c' := (16, [.ref 28, .int b, .int g], [.int g, .int b, .ref 15], (h.1, I18, h.2.2.1, h.2.2.2))) rfl ?_
    have ev : ((I18) 17 g.toInt.toNat).toInt = (hi g.toInt.toNat + 1) := by rw [show ((I18) 17 g.toInt.toNat).toInt = (fu_up hi g.toInt.toNat (hi g.toInt.toNat + 1)) g.toInt.toNat from congrFun p17_I18 _]; exact fu_eq
    have bg := hi4 g.toInt.toNat
    refine hp_inv (o := 15) (r := []) (as := [.ref 15, .int b, .int g]) rfl rfl (hH.1 15 (15, 8) rfl) rfl rfl rfl (px_cyp (h := (h.1, I18, h.2.2.1, h.2.2.2)) hH (v := (I18) 17 g.toInt.toNat) ⟨by omega, by omega⟩ rfl (by rw [ev]; omega) (fun I20 e_I20 x11 x12 x13 x14 x16 x17 => ?_))
    have x11 : pI I20 11 = fu_up (pI (I18) 11) (b.toInt.toNat) (Int32.toInt 2) := x11
    have x12 : pI I20 12 = fu_up (pI (I18) 12) (b.toInt.toNat) g.toInt := x12
    have x13 : pI I20 13 = fu_up (pI (I18) 13) (b.toInt.toNat) (Int32.toInt (-1)) := x13
    have x14 : pI I20 14 = fu_up (pI (I18) 14) (b.toInt.toNat) ((I18) 17 g.toInt.toNat).toInt := x14
    have x16 : pI I20 16 = fu_up (pI (I18) 16) (4 * g.toInt + ((I18) 17 g.toInt.toNat).toInt).toNat b.toInt := x16
    have x17 : pI I20 17 = fu_up (pI (I18) 17) g.toInt.toNat (((I18) 17 g.toInt.toNat).toInt + 1) := x17
    rw [ev] at x14 x16 x17
    have e_I20 : ∀ o, [11, 12, 13, 14, 16, 17].contains o = false → ∀ i, I20 o i = (I18) o i := e_I20
    have p11_I20 : pI I20 11 = fu_up (fu_up wh (tw.toInt.toNat) 2) (b.toInt.toNat) 2 := by rw [x11, p11_I18]; exact fu_fu2
    have p12_I20 : pI I20 12 = fu_up (fu_up yb (tw.toInt.toNat) g.toInt) (b.toInt.toNat) g.toInt := by rw [x12, p12_I18]; exact fu_fu2
    have p13_I20 : pI I20 13 = fu_up (fu_up rb (tw.toInt.toNat) (-1)) (b.toInt.toNat) (-1) := by rw [x13, p13_I18]; exact fu_fu2
    have p14_I20 : pI I20 14 = fu_up (fu_up tb (tw.toInt.toNat) (hi g.toInt.toNat)) (b.toInt.toNat) (hi g.toInt.toNat + 1) := by rw [x14, p14_I18]; exact fu_fu2
    have p36_I20 : pI I20 36 = fu_up (fu_up c ((16 * y.toInt + 4 * x.toInt + 2)).toNat (-1)) ((16 * y.toInt + 4 * x.toInt + 3)).toNat (-1) := (funext fun i => congrArg Int32.toInt (e_I20 36 rfl i)).trans p36_I18
    have p16_I20 : pI I20 16 = fu_up (fu_up yc (4 * g.toInt + hi g.toInt.toNat).toNat tw.toInt) (4 * g.toInt + (hi g.toInt.toNat + 1)).toNat b.toInt := by rw [x16, p16_I18]
    have p17_I20 : pI I20 17 = fu_up hi g.toInt.toNat ((hi g.toInt.toNat + 1) + 1) := by rw [x17, p17_I18]; exact fu_fu2
    have p37_I20 : pI I20 37 = fu_up bw y.toInt.toNat (bw y.toInt.toNat + -w tw.toInt.toNat + -w b.toInt.toNat) := (funext fun i => congrArg Int32.toInt (e_I20 37 rfl i)).trans p37_I18
    refine qm_Rp.go 1 (c' := (20, [.ref 28, .int b, .int g], [], (h.1, I20, h.2.2.1, h.2.2.2))) rfl ?_
    refine qm_Rp.rt (v := none) (h' := (h.1, I20, h.2.2.1, h.2.2.2)) rfl ?_
    refine qm_Rp.go 6 (c' := (233, [.ref 28, .int y, .int x, .int g, .int 3, .int b, .int 2, .int 2, .int le, .int 4], [.int 2], (h.1, I20, h.2.2.1, h.2.2.2))) rfl ?_
    refine qm_Rp.rt (v := (some (.int 2))) (h' := (h.1, I20, h.2.2.1, h.2.2.2)) rfl ?_
    exact k (I20) l_I18 w_I18 (fun o ho i => ((e_I20 o (hk_ms rfl ho) i).trans ((e_I18 o (hk_ms rfl ho) i).trans ((e_I14 o (hk_ms rfl ho) i).trans ((e_I7 o (hk_ms rfl ho) i).trans rfl))))) (fun i hi => ((e_I20 28 rfl i).trans ((x28_I18 i (hk_ms rfl hi)).trans ((e_I14 28 rfl i).trans ((x28_I7 i (hk_ms rfl hi)).trans rfl))))) (show (I20) 28 5 = _ from ((e_I20 28 rfl 5).trans q_l_I18)) (show (I20) 28 6 = _ from ((e_I20 28 rfl 6).trans q_w_I18)) (by omega) (by omega) (p11_I20.trans (by rw [if_neg (show ¬ g.toInt = -1 by omega)])) (p12_I20.trans (by rw [if_neg (show ¬ g.toInt = -1 by omega)])) p13_I20 (p14_I20.trans (by rw [if_neg (show ¬ g.toInt = -1 by omega)])) (p36_I20.trans (fu_cm (by omega))) (p16_I20.trans (by rw [if_neg (show ¬ g.toInt = -1 by omega)])) (p17_I20.trans (by rw [if_neg (show ¬ g.toInt = -1 by omega)])) p37_I20
