set_option maxHeartbeats 4000000 in
theorem px_cunl29 {X : Option (Nat × (Nat → Int32))} {Z : Option Value → qm_H → Prop} {h : qm_H} {fu : Nat} (hH : hk_H h) {y x g : Int32} {tk : Nat → Int} {n : Int32} (q_n : h.2.1 6 0 = n) (hn : 0 ≤ n.toInt ∧ n.toInt ≤ 30) {w wh yb rb tb c yc hi bw : Nat → Int} (eW : pI h.2.1 7 = w) (eH : pI h.2.1 11 = wh) (e12 : pI h.2.1 12 = yb) (e13 : pI h.2.1 13 = rb) (e14 : pI h.2.1 14 = tb) (eC : pI h.2.1 36 = c) (eY : pI h.2.1 16 = yc) (eI : pI h.2.1 17 = hi) (eV : pI h.2.1 37 = bw) (hw : ∀ b, 0 ≤ w b ∧ w b ≤ 40) (hh : ∀ b, 0 ≤ wh b ∧ wh b ≤ 2) (hc : ∀ k, -1 ≤ c k ∧ c k ≤ 29) (hi4 : ∀ x, 0 ≤ hi x ∧ hi x ≤ 4) (hy29 : ∀ k, 0 ≤ yc k ∧ yc k ≤ 29) (hb : ∀ c, c < 5 → 0 ≤ bw c ∧ bw c ≤ 1200) {ls wt cv : Int32} (q_ls : h.2.1 28 5 = ls) (hls : -3600 ≤ ls.toInt ∧ ls.toInt ≤ 3600) (q_wt : h.2.1 28 6 = wt) (hwt : 0 ≤ wt.toInt ∧ wt.toInt ≤ 1200) (q_cv : h.2.1 28 4 = cv) (hT : h.2.2.2 28 2 = some 29) {B l g0 g1 g2 : Int32} (q_B : h.2.1 29 0 = B) (hB : 1 ≤ B.toInt ∧ B.toInt ≤ 5) (q_g0 : h.2.1 29 1 = g0) (q_g1 : h.2.1 29 2 = g1) (q_g2 : h.2.1 29 3 = g2) (q_l : h.2.1 29 4 = l) (eK : pI h.2.1 10 = tk) (hA : ∀ k : Nat, k < 80 → 0 ≤ c k → wh (c k).toNat = 1 ∧ 16 * yb (c k).toNat + 4 * rb (c k).toNat + tb (c k).toNat = (k : Int)) (hR : ∀ b, wh b = 1 → (0 ≤ yb b ∧ yb b ≤ 4) ∧ (0 ≤ rb b ∧ rb b ≤ 3) ∧ (0 ≤ tb b ∧ tb b ≤ 3)) (hb2 : ∀ q : Nat, q < 40 → 0 ≤ c (2 * q + 1) → 0 ≤ c (2 * q)) (k0 : ∀ r : Int32, r.toInt = unlV y.toInt B.toInt x.toInt g.toInt (lowV cv y x.toInt) c tk w hi l.toInt (okb (mayC B.toInt g0.toInt g1.toInt g2.toInt ls.toInt wt.toInt bw y.toInt x.toInt (-(w (c (kV c (lowV cv y x.toInt)).toNat).toNat + (if mV c tk (lowV cv y x.toInt) = 2 then w (c (lowV cv y x.toInt).toNat).toNat else 0))))) → r.toInt < 0 → Z (some (.int r)) h) (k1 : ∀ (I : Nat → Nat → Int32) (l2 w2 : Int32), (∀ o, [11, 12, 13, 14, 16, 17, 28, 36, 37].contains o = false → ∀ i, I o i = h.2.1 o i) → (∀ i, [5, 6].contains i = false → I 28 i = h.2.1 28 i) → I 28 5 = l2 → I 28 6 = w2 → (1 : Int) = unlV y.toInt B.toInt x.toInt g.toInt (lowV cv y x.toInt) c tk w hi l.toInt (okb (mayC B.toInt g0.toInt g1.toInt g2.toInt ls.toInt wt.toInt bw y.toInt x.toInt (-(w (c (kV c (lowV cv y x.toInt)).toNat).toNat + (if mV c tk (lowV cv y x.toInt) = 2 then w (c (lowV cv y x.toInt).toNat).toNat else 0))))) → l2.toInt = ls.toInt - w (c (kV c (lowV cv y x.toInt)).toNat).toNat * (2 * x.toInt - 3) → w2.toInt = wt.toInt - w (c (kV c (lowV cv y x.toInt)).toNat).toNat → pI I 11 = fu_up wh (c (kV c (lowV cv y x.toInt)).toNat).toNat (if g.toInt = -1 then 0 else 2) → pI I 12 = fu_up yb (c (kV c (lowV cv y x.toInt)).toNat).toNat (if g.toInt = -1 then -1 else g.toInt) → pI I 13 = fu_up rb (c (kV c (lowV cv y x.toInt)).toNat).toNat (-1) → pI I 14 = fu_up tb (c (kV c (lowV cv y x.toInt)).toNat).toNat (if g.toInt = -1 then -1 else hi g.toInt.toNat) → pI I 36 = fu_up c (kV c (lowV cv y x.toInt)).toNat (-1) → pI I 16 = (if g.toInt = -1 then yc else fu_up yc (4 * g.toInt + hi g.toInt.toNat).toNat (c (kV c (lowV cv y x.toInt)).toNat)) → pI I 17 = (if g.toInt = -1 then hi else fu_up hi g.toInt.toNat (hi g.toInt.toNat + 1)) → pI I 37 = fu_up bw y.toInt.toNat (bw y.toInt.toNat + -w (c (kV c (lowV cv y x.toInt)).toNat).toNat) → Z (some (.int 1)) (h.1, I, h.2.2.1, h.2.2.2)) (k2 : ∀ (I : Nat → Nat → Int32) (l2 w2 : Int32), (∀ o, [11, 12, 13, 14, 16, 17, 28, 36, 37].contains o = false → ∀ i, I o i = h.2.1 o i) → (∀ i, [5, 6].contains i = false → I 28 i = h.2.1 28 i) → I 28 5 = l2 → I 28 6 = w2 → (2 : Int) = unlV y.toInt B.toInt x.toInt g.toInt (lowV cv y x.toInt) c tk w hi l.toInt (okb (mayC B.toInt g0.toInt g1.toInt g2.toInt ls.toInt wt.toInt bw y.toInt x.toInt (-(w (c (kV c (lowV cv y x.toInt)).toNat).toNat + (if mV c tk (lowV cv y x.toInt) = 2 then w (c (lowV cv y x.toInt).toNat).toNat else 0))))) → l2.toInt = ls.toInt - w (c (lowV cv y x.toInt).toNat).toNat * (2 * x.toInt - 3) - w (c ((lowV cv y x.toInt) + 1).toNat).toNat * (2 * x.toInt - 3) → w2.toInt = wt.toInt - w (c (lowV cv y x.toInt).toNat).toNat - w (c ((lowV cv y x.toInt) + 1).toNat).toNat → pI I 11 = (if g.toInt = -1 then fu_up (fu_up wh (c ((lowV cv y x.toInt) + 1).toNat).toNat 0) (c (lowV cv y x.toInt).toNat).toNat 0 else fu_up (fu_up wh (c (lowV cv y x.toInt).toNat).toNat 2) (c ((lowV cv y x.toInt) + 1).toNat).toNat 2) → pI I 12 = (if g.toInt = -1 then fu_up (fu_up yb (c (lowV cv y x.toInt).toNat).toNat (-1)) (c ((lowV cv y x.toInt) + 1).toNat).toNat (-1) else fu_up (fu_up yb (c (lowV cv y x.toInt).toNat).toNat g.toInt) (c ((lowV cv y x.toInt) + 1).toNat).toNat g.toInt) → pI I 13 = fu_up (fu_up rb (c (lowV cv y x.toInt).toNat).toNat (-1)) (c ((lowV cv y x.toInt) + 1).toNat).toNat (-1) → pI I 14 = (if g.toInt = -1 then fu_up (fu_up tb (c (lowV cv y x.toInt).toNat).toNat (-1)) (c ((lowV cv y x.toInt) + 1).toNat).toNat (-1) else fu_up (fu_up tb (c (lowV cv y x.toInt).toNat).toNat (hi g.toInt.toNat)) (c ((lowV cv y x.toInt) + 1).toNat).toNat (hi g.toInt.toNat + 1)) → pI I 36 = fu_up (fu_up c ((lowV cv y x.toInt) + 1).toNat (-1)) (lowV cv y x.toInt).toNat (-1) → pI I 16 = (if g.toInt = -1 then yc else fu_up (fu_up yc (4 * g.toInt + hi g.toInt.toNat).toNat (c (lowV cv y x.toInt).toNat)) (4 * g.toInt + (hi g.toInt.toNat + 1)).toNat (c ((lowV cv y x.toInt) + 1).toNat)) → pI I 17 = (if g.toInt = -1 then hi else fu_up hi g.toInt.toNat (hi g.toInt.toNat + 1 + 1)) → pI I 37 = fu_up bw y.toInt.toNat (bw y.toInt.toNat + -w (c (lowV cv y x.toInt).toNat).toNat + -w (c ((lowV cv y x.toInt) + 1).toNat).toNat) → Z (some (.int 2)) (h.1, I, h.2.2.1, h.2.2.2)) : qm_Rp fu X cd_102 (qm_ent 10 [.ref 28, .int y, .int x, .int g] h) Z := by
  refine qm_Rp.go 0 (c' := (0, [.ref 28, .int y, .int x, .int g, .float 0, .float 0, .float 0, .float 0, .float 0, .float 0], [], h)) rfl ?_
  have kz0 : (0 : Int32).toInt = 0 := rfl
  have kz1 : (1 : Int32).toInt = 1 := rfl
  have kz2 : (2 : Int32).toInt = 2 := rfl
  have kz3 : (3 : Int32).toInt = 3 := rfl
  have kz4 : (4 : Int32).toInt = 4 := rfl
  have kz5 : (5 : Int32).toInt = 5 := rfl
  have kz6 : (6 : Int32).toInt = 6 := rfl
  have kz7 : (7 : Int32).toInt = 7 := rfl
  have kz8 : (8 : Int32).toInt = 8 := rfl
  have kz9 : (9 : Int32).toInt = 9 := rfl
  have kzm1 : ((-1) : Int32).toInt = (-1) := rfl
  have kzm2 : ((-2) : Int32).toInt = (-2) := rfl
  have kzm3 : ((-3) : Int32).toInt = (-3) := rfl
  refine qm_Rp.go 3 (c' := (3, [.ref 28, .int y, .int x, .int g, .float 0, .float 0, .float 0, .float 0, .float 0, .float 0], [.int x, .int y, .ref 28], h)) rfl ?_
  refine hp_inv (o := 28) (r := []) (as := [.ref 28, .int y, .int x]) rfl rfl (hH.1 28 (9, 8) rfl) rfl rfl rfl ?_
  refine qm_Rp.go 2 (c' := (2, [.ref 28, .int y, .int x], [.int y, .ref 28], h)) rfl ?_
  refine hp_inv (o := 28) (r := []) (as := [.ref 28, .int y]) rfl rfl (hH.1 28 (9, 8) rfl) rfl rfl rfl ?_
  refine qm_Rp.go 1 (c' := (1, [.ref 28, .int y], [.int y], h)) rfl ?_
  refine hp_zlt (ix := y.toInt) rfl rfl (fun z1 => ?_) (fun z1 => ?_)
  · refine qm_Rp.go 1 (c' := (20, [.ref 28, .int y], [.int 0], h)) rfl ?_
    refine qm_Rp.rt (v := (some (.int 0))) (h' := h) rfl ?_
    refine qm_Rp.go 2 (c' := (22, [.ref 28, .int y, .int x], [.int 0], h)) rfl ?_
    refine qm_Rp.rt (v := (some (.int 0))) (h' := h) rfl ?_
    refine qm_Rp.go 2 (c' := (17, [.ref 28, .int y, .int x, .int g, .float 0, .float 0, .float 0, .float 0, .float 0, .float 0], [.int (-1)], h)) rfl ?_
    refine qm_Rp.rt (v := (some (.int (-1)))) (h' := h) rfl ?_
    exact k0 (-1) (unl_a (fun z => by omega)).symm (by decide)
  · refine qm_Rp.go 2 (c' := (6, [.ref 28, .int y], [.ref 28, .int y], h)) rfl ?_
    refine hp_getr rfl (hH.1 28 (9, 8) rfl) rfl hT ?_
    refine qm_Rp.go 0 (c' := (9, [.ref 28, .int y], [.ref 29, .int y], h)) rfl ?_
    refine hp_geti (v := B) rfl (hH.1 29 (11, 16) rfl) rfl q_B ?_
    refine qm_Rp.go 0 (c' := (12, [.ref 28, .int y], [.int B, .int y], h)) rfl ?_
    refine hp_cge (ix := y.toInt) (iy := B.toInt) rfl rfl rfl (fun z2 => ?_) (fun z2 => ?_)
    · refine qm_Rp.go 1 (c' := (20, [.ref 28, .int y], [.int 0], h)) rfl ?_
      refine qm_Rp.rt (v := (some (.int 0))) (h' := h) rfl ?_
      refine qm_Rp.go 2 (c' := (22, [.ref 28, .int y, .int x], [.int 0], h)) rfl ?_
      refine qm_Rp.rt (v := (some (.int 0))) (h' := h) rfl ?_
      refine qm_Rp.go 2 (c' := (17, [.ref 28, .int y, .int x, .int g, .float 0, .float 0, .float 0, .float 0, .float 0, .float 0], [.int (-1)], h)) rfl ?_
      refine qm_Rp.rt (v := (some (.int (-1)))) (h' := h) rfl ?_
      exact k0 (-1) (unl_a (fun z => by omega)).symm (by decide)
    · refine qm_Rp.go 2 (c' := (20, [.ref 28, .int y], [.int 1], h)) rfl ?_
      refine qm_Rp.rt (v := (some (.int 1))) (h' := h) rfl ?_
      refine qm_Rp.go 2 (c' := (9, [.ref 28, .int y, .int x], [.int x], h)) rfl ?_
      refine hp_zlt (ix := x.toInt) rfl rfl (fun z3 => ?_) (fun z3 => ?_)
      · refine qm_Rp.go 1 (c' := (22, [.ref 28, .int y, .int x], [.int 0], h)) rfl ?_
        refine qm_Rp.rt (v := (some (.int 0))) (h' := h) rfl ?_
        refine qm_Rp.go 2 (c' := (17, [.ref 28, .int y, .int x, .int g, .float 0, .float 0, .float 0, .float 0, .float 0, .float 0], [.int (-1)], h)) rfl ?_
        refine qm_Rp.rt (v := (some (.int (-1)))) (h' := h) rfl ?_
        exact k0 (-1) (unl_a (fun z => by omega)).symm (by decide)
      · refine qm_Rp.go 2 (c' := (14, [.ref 28, .int y, .int x], [.int 4, .int x], h)) rfl ?_
        refine hp_cge (ix := x.toInt) (iy := 4) rfl rfl rfl (fun z4 => ?_) (fun z4 => ?_)
        · refine qm_Rp.go 1 (c' := (22, [.ref 28, .int y, .int x], [.int 0], h)) rfl ?_
          refine qm_Rp.rt (v := (some (.int 0))) (h' := h) rfl ?_
          refine qm_Rp.go 2 (c' := (17, [.ref 28, .int y, .int x, .int g, .float 0, .float 0, .float 0, .float 0, .float 0, .float 0], [.int (-1)], h)) rfl ?_
          refine qm_Rp.rt (v := (some (.int (-1)))) (h' := h) rfl ?_
          exact k0 (-1) (unl_a (fun z => by omega)).symm (by decide)
        · refine qm_Rp.go 2 (c' := (22, [.ref 28, .int y, .int x], [.int 1], h)) rfl ?_
          refine qm_Rp.rt (v := (some (.int 1))) (h' := h) rfl ?_
          refine qm_Rp.go 2 (c' := (10, [.ref 28, .int y, .int x, .int g, .float 0, .float 0, .float 0, .float 0, .float 0, .float 0], [.int g], h)) rfl ?_
          refine qm_Rp.call (j := 103) (as := [.int g]) (c' := (13, [.ref 28, .int y, .int x, .int g, .float 0, .float 0, .float 0, .float 0, .float 0, .float 0], [], h)) rfl rfl ?_
          refine qm_Rp.go 2 (c' := (2, [.int g], [.int (-1), .int g], h)) rfl ?_
          refine hp_clt (ix := g.toInt) (iy := (-1)) rfl rfl rfl (fun z5 => ?_) (fun z5 => ?_)
          · refine qm_Rp.go 1 (c' := (15, [.int g], [.int 0], h)) rfl ?_
            refine qm_Rp.rt (v := (some (.int 0))) (h' := h) rfl ?_
            refine qm_Rp.go 2 (c' := (17, [.ref 28, .int y, .int x, .int g, .float 0, .float 0, .float 0, .float 0, .float 0, .float 0], [.int (-1)], h)) rfl ?_
            refine qm_Rp.rt (v := (some (.int (-1)))) (h' := h) rfl ?_
            exact k0 (-1) (unl_a (fun z => by omega)).symm (by decide)
          · refine qm_Rp.go 2 (c' := (7, [.int g], [.int 4, .int g], h)) rfl ?_
            refine hp_cge (ix := g.toInt) (iy := 4) rfl rfl rfl (fun z6 => ?_) (fun z6 => ?_)
            · refine qm_Rp.go 1 (c' := (15, [.int g], [.int 0], h)) rfl ?_
              refine qm_Rp.rt (v := (some (.int 0))) (h' := h) rfl ?_
              refine qm_Rp.go 2 (c' := (17, [.ref 28, .int y, .int x, .int g, .float 0, .float 0, .float 0, .float 0, .float 0, .float 0], [.int (-1)], h)) rfl ?_
              refine qm_Rp.rt (v := (some (.int (-1)))) (h' := h) rfl ?_
              exact k0 (-1) (unl_a (fun z => by omega)).symm (by decide)
            · refine qm_Rp.go 2 (c' := (15, [.int g], [.int 1], h)) rfl ?_
              refine qm_Rp.rt (v := (some (.int 1))) (h' := h) rfl ?_
              refine qm_Rp.go 4 (c' := (21, [.ref 28, .int y, .int x, .int g, .float 0, .float 0, .float 0, .float 0, .float 0, .float 0], [.int x, .int y, .ref 28], h)) rfl ?_
              refine hp_inv (o := 28) (r := []) (as := [.ref 28, .int y, .int x]) rfl rfl (hH.1 28 (9, 8) rfl) rfl rfl rfl ?_
              refine qm_Rp.go 2 (c' := (2, [.ref 28, .int y, .int x, .float 0], [.int y, .ref 28], h)) rfl ?_
              refine hp_inv (o := 28) (r := []) (as := [.ref 28, .int y]) rfl rfl (hH.1 28 (9, 8) rfl) rfl rfl rfl ?_
              refine qm_Rp.go 2 (c' := (2, [.ref 28, .int y], [.int y, .ref 28], h)) rfl ?_
              refine hp_inv (o := 28) (r := []) (as := [.ref 28, .int y]) rfl rfl (hH.1 28 (9, 8) rfl) rfl rfl rfl ?_
              refine qm_Rp.go 1 (c' := (1, [.ref 28, .int y], [.ref 28], h)) rfl ?_
              refine hp_geti (v := cv) rfl (hH.1 28 (9, 8) rfl) rfl q_cv ?_
              refine qm_Rp.go 2 (c' := (6, [.ref 28, .int y], [.int (cv >>> (y &&& 31))], h)) rfl ?_
              obtain ⟨v7, q_v7⟩ : ∃ v_, (cv >>> (y &&& 31)) = v_ := ⟨_, rfl⟩
              rw [q_v7]
              refine qm_Rp.go 2 (c' := (8, [.ref 28, .int y], [.int (v7 &&& 1)], h)) rfl ?_
              obtain ⟨v8, q_v8⟩ : ∃ v_, (v7 &&& 1) = v_ := ⟨_, rfl⟩
              rw [q_v8]
              refine qm_Rp.go 1 (c' := (9, [.ref 28, .int y], [.int 1, .int v8], h)) rfl ?_
              refine hp_cne (ix := v8.toInt) (iy := 1) rfl rfl rfl (fun z9 => ?_) (fun z9 => ?_)
              · refine qm_Rp.go 1 (c' := (17, [.ref 28, .int y], [.int 0], h)) rfl ?_
                refine qm_Rp.rt (v := (some (.int 0))) (h' := h) rfl ?_
                refine qm_Rp.go 2 (c' := (13, [.ref 28, .int y], [.int 0], h)) rfl ?_
                refine qm_Rp.rt (v := (some (.int 0))) (h' := h) rfl ?_
                refine qm_Rp.go 0 (c' := (5, [.ref 28, .int y, .int x, .float 0], [.int 0], h)) rfl ?_
                have el : lowV cv y x.toInt = 16 * y.toInt + 4 * x.toInt + 0 := low_0 (cv := cv) (bay := y) (x := x.toInt) q_v7 q_v8 (by omega) (by omega)
                refine qm_Rp.go 2 (c' := (7, [.ref 28, .int y, .int x, .int 0], [.ref 28], h)) rfl ?_
                refine hp_getr rfl (hH.1 28 (9, 8) rfl) rfl (hH.2 28 3 (some 36) rfl) ?_
                refine qm_Rp.go 5 (c' := (15, [.ref 28, .int y, .int x, .int 0], [.int 1, .int x, .int y, .ref 36], h)) rfl ?_
                refine qm_Rp.call (j := 75) (as := [.int y, .int x, .int 1]) (c' := (18, [.ref 28, .int y, .int x, .int 0], [.ref 36], h)) rfl rfl ?_
                refine qm_Rp.go 3 (c' := (3, [.int y, .int x, .int 1], [.int (y * 4)], h)) rfl ?_
                obtain ⟨v10, q_v10, e_v10⟩ := hk_mul (x := y) (y := 4) (a := y.toInt) (b := 4) rfl rfl (by omega) (by omega)
                rw [q_v10]
                refine qm_Rp.go 2 (c' := (5, [.int y, .int x, .int 1], [.int (v10 + x)], h)) rfl ?_
                obtain ⟨v11, q_v11, e_v11⟩ := hk_add (x := v10) (y := x) (a := v10.toInt) (b := x.toInt) rfl rfl (by omega) (by omega)
                rw [q_v11]
                refine qm_Rp.go 2 (c' := (7, [.int y, .int x, .int 1], [.int (v11 * 4)], h)) rfl ?_
                obtain ⟨v12, q_v12, e_v12⟩ := hk_mul (x := v11) (y := 4) (a := v11.toInt) (b := 4) rfl rfl (by omega) (by omega)
                rw [q_v12]
                refine qm_Rp.go 2 (c' := (9, [.int y, .int x, .int 1], [.int (v12 + 1)], h)) rfl ?_
                obtain ⟨v13, q_v13, e_v13⟩ := hk_add (x := v12) (y := 1) (a := v12.toInt) (b := 1) rfl rfl (by omega) (by omega)
                rw [q_v13]
                refine qm_Rp.rt (v := (some (.int v13))) (h' := h) rfl ?_
                refine qm_Rp.go 0 (c' := (18, [.ref 28, .int y, .int x, .int 0], [.int v13, .ref 36], h)) rfl ?_
                obtain ⟨v14, q_v14⟩ : ∃ v_, h.2.1 36 v13.toInt.toNat = v_ := ⟨_, rfl⟩
                refine hp_ial (v := v14) rfl (hH.1 36 (0, 80) rfl) q_v14 (fun ia_14 ib_14 => ?_)
                refine qm_Rp.go 0 (c' := (19, [.ref 28, .int y, .int x, .int 0], [.int v14], h)) rfl ?_
                have ec1 : c (16 * y.toInt + 4 * x.toInt + 1).toNat = v14.toInt := by rw [← eC, show (16 * y.toInt + 4 * x.toInt + 1).toNat = v13.toInt.toNat by omega]; exact congrArg Int32.toInt q_v14
                have bec1 := hc (16 * y.toInt + 4 * x.toInt + 1).toNat
                rw [ec1] at bec1
                refine qm_Rp.go 1 (c' := (20, [.ref 28, .int y, .int x, .int 0], [.int (-1), .int v14], h)) rfl ?_
                refine hp_ceq (ix := v14.toInt) (iy := (-1)) rfl rfl rfl (fun z16 => ?_) (fun z16 => ?_)
                · refine qm_Rp.go 1 (c' := (28, [.ref 28, .int y, .int x, .int 0], [.ref 28], h)) rfl ?_
                  refine hp_getr rfl (hH.1 28 (9, 8) rfl) rfl (hH.2 28 3 (some 36) rfl) ?_
                  refine qm_Rp.go 3 (c' := (34, [.ref 28, .int y, .int x, .int 0], [.int 0, .int x, .int y, .ref 36], h)) rfl ?_
                  refine qm_Rp.call (j := 75) (as := [.int y, .int x, .int 0]) (c' := (37, [.ref 28, .int y, .int x, .int 0], [.ref 36], h)) rfl rfl ?_
                  refine qm_Rp.go 3 (c' := (3, [.int y, .int x, .int 0], [.int (y * 4)], h)) rfl ?_
                  rw [q_v10]
                  refine qm_Rp.go 2 (c' := (5, [.int y, .int x, .int 0], [.int (v10 + x)], h)) rfl ?_
                  rw [q_v11]
                  refine qm_Rp.go 2 (c' := (7, [.int y, .int x, .int 0], [.int (v11 * 4)], h)) rfl ?_
                  rw [q_v12]
                  refine qm_Rp.go 2 (c' := (9, [.int y, .int x, .int 0], [.int (v12 + 0)], h)) rfl ?_
                  obtain ⟨v17, q_v17, e_v17⟩ := hk_add (x := v12) (y := 0) (a := v12.toInt) (b := 0) rfl rfl (by omega) (by omega)
                  rw [q_v17]
                  refine qm_Rp.rt (v := (some (.int v17))) (h' := h) rfl ?_
                  refine qm_Rp.go 0 (c' := (37, [.ref 28, .int y, .int x, .int 0], [.int v17, .ref 36], h)) rfl ?_
                  obtain ⟨v18, q_v18⟩ : ∃ v_, h.2.1 36 v17.toInt.toNat = v_ := ⟨_, rfl⟩
                  refine hp_ial (v := v18) rfl (hH.1 36 (0, 80) rfl) q_v18 (fun ia_18 ib_18 => ?_)
                  refine qm_Rp.go 0 (c' := (38, [.ref 28, .int y, .int x, .int 0], [.int v18], h)) rfl ?_
                  have ec0 : c (16 * y.toInt + 4 * x.toInt + 0).toNat = v18.toInt := by rw [← eC, show (16 * y.toInt + 4 * x.toInt + 0).toNat = v17.toInt.toNat by omega]; exact congrArg Int32.toInt q_v18
                  have bec0 := hc (16 * y.toInt + 4 * x.toInt + 0).toNat
                  rw [ec0] at bec0
                  refine qm_Rp.go 1 (c' := (39, [.ref 28, .int y, .int x, .int 0], [.int (-1), .int v18], h)) rfl ?_
                  refine hp_ceq (ix := v18.toInt) (iy := (-1)) rfl rfl rfl (fun z20 => ?_) (fun z20 => ?_)
                  · refine qm_Rp.go 1 (c' := (47, [.ref 28, .int y, .int x, .int 0], [.int (-1)], h)) rfl ?_
                    refine qm_Rp.rt (v := (some (.int (-1)))) (h' := h) rfl ?_
                    refine qm_Rp.go 0 (c' := (24, [.ref 28, .int y, .int x, .int g, .float 0, .float 0, .float 0, .float 0, .float 0, .float 0], [.int (-1)], h)) rfl ?_
                    have ek : kV c (16 * y.toInt + 4 * x.toInt + 0) = 16 * y.toInt + 4 * x.toInt + 0 := kV_0 (by rw [show 16 * y.toInt + 4 * x.toInt + 0 + 1 = 16 * y.toInt + 4 * x.toInt + 1 by omega, ec1]; omega)
                    have eb := ec0
                    have ec2 : c (16 * y.toInt + 4 * x.toInt + 0 + 1).toNat = v14.toInt := by rw [show 16 * y.toInt + 4 * x.toInt + 0 + 1 = 16 * y.toInt + 4 * x.toInt + 1 by omega]; exact ec1
                    refine qm_Rp.go 5 (c' := (33, [.ref 28, .int y, .int x, .int g, .int (-1), .float 0, .float 0, .float 0, .float 0, .float 0], [.int (-1)], h)) rfl ?_
                    refine qm_Rp.rt (v := (some (.int (-1)))) (h' := h) rfl ?_
                    exact k0 (-1) (unl_b ⟨by omega, by omega, by omega, by omega, by omega, by omega⟩ (by rw [el, ek, eb]; omega)).symm (by decide)
                  · refine qm_Rp.go 2 (c' := (47, [.ref 28, .int y, .int x, .int 0], [.int 0], h)) rfl ?_
                    refine qm_Rp.rt (v := (some (.int 0))) (h' := h) rfl ?_
                    refine qm_Rp.go 0 (c' := (24, [.ref 28, .int y, .int x, .int g, .float 0, .float 0, .float 0, .float 0, .float 0, .float 0], [.int 0], h)) rfl ?_
                    have ek : kV c (16 * y.toInt + 4 * x.toInt + 0) = 16 * y.toInt + 4 * x.toInt + 0 := kV_0 (by rw [show 16 * y.toInt + 4 * x.toInt + 0 + 1 = 16 * y.toInt + 4 * x.toInt + 1 by omega, ec1]; omega)
                    have eb := ec0
                    have ec2 : c (16 * y.toInt + 4 * x.toInt + 0 + 1).toNat = v14.toInt := by rw [show 16 * y.toInt + 4 * x.toInt + 0 + 1 = 16 * y.toInt + 4 * x.toInt + 1 by omega]; exact ec1
                    have ab_v18 := hA (16 * y.toInt + 4 * x.toInt + 0).toNat (by omega) (by rw [eb]; omega)
                    rw [eb] at ab_v18
                    have rb_v18 := hR v18.toInt.toNat ab_v18.1
                    have ey_v18 : yb v18.toInt.toNat = y.toInt := by omega
                    have ex_v18 : rb v18.toInt.toNat = x.toInt := by omega
                    have et_v18 : tb v18.toInt.toNat = 0 := by omega
                    refine qm_Rp.go 5 (c' := (35, [.ref 28, .int y, .int x, .int g, .int 0, .float 0, .float 0, .float 0, .float 0, .float 0], [.ref 28], h)) rfl ?_
                    refine hp_getr rfl (hH.1 28 (9, 8) rfl) rfl (hH.2 28 3 (some 36) rfl) ?_
                    refine qm_Rp.go 3 (c' := (42, [.ref 28, .int y, .int x, .int g, .int 0, .float 0, .float 0, .float 0, .float 0, .float 0], [.int 0, .int x, .int y, .ref 36], h)) rfl ?_
                    refine qm_Rp.call (j := 75) (as := [.int y, .int x, .int 0]) (c' := (45, [.ref 28, .int y, .int x, .int g, .int 0, .float 0, .float 0, .float 0, .float 0, .float 0], [.ref 36], h)) rfl rfl ?_
                    refine qm_Rp.go 3 (c' := (3, [.int y, .int x, .int 0], [.int (y * 4)], h)) rfl ?_
                    rw [q_v10]
                    refine qm_Rp.go 2 (c' := (5, [.int y, .int x, .int 0], [.int (v10 + x)], h)) rfl ?_
                    rw [q_v11]
                    refine qm_Rp.go 2 (c' := (7, [.int y, .int x, .int 0], [.int (v11 * 4)], h)) rfl ?_
                    rw [q_v12]
                    refine qm_Rp.go 2 (c' := (9, [.int y, .int x, .int 0], [.int (v12 + 0)], h)) rfl ?_
                    rw [q_v17]
                    refine qm_Rp.rt (v := (some (.int v17))) (h' := h) rfl ?_
                    refine qm_Rp.go 0 (c' := (45, [.ref 28, .int y, .int x, .int g, .int 0, .float 0, .float 0, .float 0, .float 0, .float 0], [.int v17, .ref 36], h)) rfl ?_
                    refine hp_ial (v := v18) rfl (hH.1 36 (0, 80) rfl) q_v18 (fun ia_20 ib_20 => ?_)
                    refine qm_Rp.go 2 (c' := (49, [.ref 28, .int y, .int x, .int g, .int 0, .int v18, .float 0, .float 0, .float 0, .float 0], [.ref 28], h)) rfl ?_
                    refine hp_getr rfl (hH.1 28 (9, 8) rfl) rfl (hH.2 28 0 (some 6) rfl) ?_
                    refine qm_Rp.go 0 (c' := (52, [.ref 28, .int y, .int x, .int g, .int 0, .int v18, .float 0, .float 0, .float 0, .float 0], [.ref 6], h)) rfl ?_
                    refine hp_getr rfl (hH.1 6 (6, 9) rfl) rfl (hH.2 6 4 (some 10) rfl) ?_
                    refine qm_Rp.go 1 (c' := (57, [.ref 28, .int y, .int x, .int g, .int 0, .int v18, .float 0, .float 0, .float 0, .float 0], [.int v18, .ref 10], h)) rfl ?_
                    obtain ⟨v22, q_v22⟩ : ∃ v_, h.2.1 10 v18.toInt.toNat = v_ := ⟨_, rfl⟩
                    refine hp_bal (v := v22) rfl (hH.1 10 (2, 30) rfl) q_v22 (fun ia_22 ib_22 => ?_)
                    refine qm_Rp.go 0 (c' := (58, [.ref 28, .int y, .int x, .int g, .int 0, .int v18, .float 0, .float 0, .float 0, .float 0], [.int v22], h)) rfl ?_
                    have est : tk v18.toInt.toNat = v22.toInt := by rw [← eK]; exact congrArg Int32.toInt q_v22
                    refine hp_zeq (ix := v22.toInt) rfl rfl (fun z24 => ?_) (fun z24 => ?_)
                    · refine qm_Rp.go 1 (c' := (80, [.ref 28, .int y, .int x, .int g, .int 0, .int v18, .float 0, .float 0, .float 0, .float 0], [.int 0], h)) rfl ?_
                      have em : mV c tk (16 * y.toInt + 4 * x.toInt + 0) = 1 := mV_1a (by rw [ec2]; omega)
                      refine qm_Rp.go 9 (c' := (93, [.ref 28, .int y, .int x, .int g, .int 0, .int v18, .int 0, .int 1, .float 0, .float 0], [.int (-1), .int g], h)) rfl ?_
                      refine hp_ceq (ix := g.toInt) (iy := (-1)) rfl rfl rfl (fun z25 => ?_) (fun z25 => ?_)
                      · refine qm_Rp.go 1 (c' := (112, [.ref 28, .int y, .int x, .int g, .int 0, .int v18, .int 0, .int 1, .float 0, .float 0], [.ref 28], h)) rfl ?_
                        refine hp_getr rfl (hH.1 28 (9, 8) rfl) rfl (hH.2 28 0 (some 6) rfl) ?_
                        refine qm_Rp.go 0 (c' := (115, [.ref 28, .int y, .int x, .int g, .int 0, .int v18, .int 0, .int 1, .float 0, .float 0], [.ref 6], h)) rfl ?_
                        refine hp_getr rfl (hH.1 6 (6, 9) rfl) rfl (hH.2 6 1 (some 7) rfl) ?_
                        refine qm_Rp.go 1 (c' := (120, [.ref 28, .int y, .int x, .int g, .int 0, .int v18, .int 0, .int 1, .float 0, .float 0], [.int v18, .ref 7], h)) rfl ?_
                        obtain ⟨v26, q_v26⟩ : ∃ v_, h.2.1 7 v18.toInt.toNat = v_ := ⟨_, rfl⟩
                        refine hp_ial (v := v26) rfl (hH.1 7 (0, 30) rfl) q_v26 (fun ia_26 ib_26 => ?_)
                        refine qm_Rp.go 0 (c' := (121, [.ref 28, .int y, .int x, .int g, .int 0, .int v18, .int 0, .int 1, .float 0, .float 0], [.int v26], h)) rfl ?_
                        have ew_v18 : w v18.toInt.toNat = v26.toInt := by rw [← eW]; exact congrArg Int32.toInt q_v26
                        have bw_v18 := hw v18.toInt.toNat
                        rw [ew_v18] at bw_v18
                        refine qm_Rp.go 5 (c' := (153, [.ref 28, .int y, .int x, .int g, .int 0, .int v18, .int 0, .int 1, .float 0, .float 0], [.int (v26 + 0)], h)) rfl ?_
                        obtain ⟨v28, q_v28, e_v28⟩ := hk_add (x := v26) (y := 0) (a := v26.toInt) (b := 0) rfl rfl (by omega) (by omega)
                        rw [q_v28]
                        refine qm_Rp.go 1 (c' := (155, [.ref 28, .int y, .int x, .int g, .int 0, .int v18, .int 0, .int 1, .int v28, .float 0], [], h)) rfl ?_
                        have ewt : w (c (kV c (16 * y.toInt + 4 * x.toInt + 0)).toNat).toNat + (if mV c tk (16 * y.toInt + 4 * x.toInt + 0) = 2 then w (c (16 * y.toInt + 4 * x.toInt + 0).toNat).toNat else 0) = v28.toInt := by rw [ek, eb, em, if_neg (by decide)]; omega
                        refine qm_Rp.go 2 (c' := (158, [.ref 28, .int y, .int x, .int g, .int 0, .int v18, .int 0, .int 1, .int v28, .float 0], [.ref 28, .int v28], h)) rfl ?_
                        refine hp_getr rfl (hH.1 28 (9, 8) rfl) rfl hT ?_
                        refine qm_Rp.go 0 (c' := (161, [.ref 28, .int y, .int x, .int g, .int 0, .int v18, .int 0, .int 1, .int v28, .float 0], [.ref 29, .int v28], h)) rfl ?_
                        refine hp_geti (v := l) rfl (hH.1 29 (11, 16) rfl) rfl q_l ?_
                        refine qm_Rp.go 0 (c' := (164, [.ref 28, .int y, .int x, .int g, .int 0, .int v18, .int 0, .int 1, .int v28, .float 0], [.int l, .int v28], h)) rfl ?_
                        refine hp_cle (ix := v28.toInt) (iy := l.toInt) rfl rfl rfl (fun z29 => ?_) (fun z29 => ?_)
                        · refine qm_Rp.go 5 (c' := (176, [.ref 28, .int y, .int x, .int g, .int 0, .int v18, .int 0, .int 1, .int v28, .float 0], [.int (-v28), .int x, .int y, .ref 28], h)) rfl ?_
                          obtain ⟨v30, q_v30, e_v30⟩ := hk_neg (x := v28) (a := v28.toInt) rfl (by omega)
                          rw [q_v30]
                          refine hp_inv (o := 28) (r := []) (as := [.ref 28, .int y, .int x, .int v30]) rfl rfl (hH.1 28 (9, 8) rfl) rfl rfl rfl (px_cbo29 (m := v30) hH hT q_B hB eV hb q_ls hls q_wt hwt ⟨by omega, by omega⟩ ⟨by omega, by omega⟩ ⟨by omega, by omega⟩ q_g0 q_g1 q_g2 (fun r31 e_r31 => ?_))
                          rcases e_r31 with ⟨hr, hbo⟩ | ⟨hr, hbo⟩
                          · obtain rfl : r31 = 1 := hk_eqi.mpr (hr.trans rfl)
                            refine qm_Rp.go 1 (c' := (197, [.ref 28, .int y, .int x, .int g, .int 0, .int v18, .int 0, .int 1, .int v28, .float 0], [], h)) rfl ?_
                            refine px_cl00 hH q_ls hls q_wt hwt eW eH e12 e13 e14 eC eY eI eV hw hi4 hb ⟨by omega, by omega⟩ ⟨by omega, by omega⟩ ⟨by omega, by omega⟩ (fun z => by omega) ⟨by omega, by omega⟩ eb ey_v18 ex_v18 et_v18 (fun I l2 w2 e x28 q5 q6 el2 ew2 x11 x12 x13 x14 x36 x16 x17 x37 => ?_)
                            exact k1 I l2 w2 e x28 q5 q6 ((unl_f ⟨by omega, by omega, by omega, by omega, by omega, by omega⟩ (by rw [el, ek, eb]; omega) (by rw [el, em]; intro z; omega) (by rw [el, ewt]; omega) (okb_t (by rw [el, ewt, ← e_v30]; exact Or.inl hbo))).trans (by rw [el, em])).symm (by rw [el, ek, eb]; exact el2) (by rw [el, ek, eb]; exact ew2) (by rw [el, ek, eb]; exact x11) (by rw [el, ek, eb]; exact x12) (by rw [el, ek, eb]; exact x13) (by rw [el, ek, eb]; exact x14) (by rw [el, ek]; exact x36) (by rw [el, ek, eb]; exact x16) x17 (by rw [el, ek, eb]; exact x37)
                          · obtain rfl : r31 = 0 := hk_eqi.mpr (hr.trans rfl)
                            refine qm_Rp.go 6 (c' := (188, [.ref 28, .int y, .int x, .int g, .int 0, .int v18, .int 0, .int 1, .int v28, .float 0], [.int (-v28), .int x, .int y, .ref 28], h)) rfl ?_
                            rw [q_v30]
                            refine hp_inv (o := 28) (r := []) (as := [.ref 28, .int y, .int x, .int v30]) rfl rfl (hH.1 28 (9, 8) rfl) rfl rfl rfl (px_cnw29 (m := v30) hH hT q_B hB eV hb q_ls hls q_wt hwt ⟨by omega, by omega⟩ ⟨by omega, by omega⟩ ⟨by omega, by omega⟩ (fun r32 e_r32 => ?_))
                            rcases e_r32 with ⟨hr, hnw⟩ | ⟨hr, hnw⟩
                            · obtain rfl : r32 = 1 := hk_eqi.mpr (hr.trans rfl)
                              refine qm_Rp.go 1 (c' := (197, [.ref 28, .int y, .int x, .int g, .int 0, .int v18, .int 0, .int 1, .int v28, .float 0], [], h)) rfl ?_
                              refine px_cl00 hH q_ls hls q_wt hwt eW eH e12 e13 e14 eC eY eI eV hw hi4 hb ⟨by omega, by omega⟩ ⟨by omega, by omega⟩ ⟨by omega, by omega⟩ (fun z => by omega) ⟨by omega, by omega⟩ eb ey_v18 ex_v18 et_v18 (fun I l2 w2 e x28 q5 q6 el2 ew2 x11 x12 x13 x14 x36 x16 x17 x37 => ?_)
                              exact k1 I l2 w2 e x28 q5 q6 ((unl_f ⟨by omega, by omega, by omega, by omega, by omega, by omega⟩ (by rw [el, ek, eb]; omega) (by rw [el, em]; intro z; omega) (by rw [el, ewt]; omega) (okb_t (by rw [el, ewt, ← e_v30]; exact Or.inr hnw))).trans (by rw [el, em])).symm (by rw [el, ek, eb]; exact el2) (by rw [el, ek, eb]; exact ew2) (by rw [el, ek, eb]; exact x11) (by rw [el, ek, eb]; exact x12) (by rw [el, ek, eb]; exact x13) (by rw [el, ek, eb]; exact x14) (by rw [el, ek]; exact x36) (by rw [el, ek, eb]; exact x16) x17 (by rw [el, ek, eb]; exact x37)
                            · obtain rfl : r32 = 0 := hk_eqi.mpr (hr.trans rfl)
                              refine qm_Rp.go 2 (c' := (196, [.ref 28, .int y, .int x, .int g, .int 0, .int v18, .int 0, .int 1, .int v28, .float 0], [.int (-3)], h)) rfl ?_
                              refine qm_Rp.rt (v := (some (.int (-3)))) (h' := h) rfl ?_
                              exact k0 (-3) (unl_e ⟨by omega, by omega, by omega, by omega, by omega, by omega⟩ (by rw [el, ek, eb]; omega) (by rw [el, em]; intro z; omega) (by rw [el, ewt]; omega) (okb_f (by rw [el, ewt, ← e_v30]; exact fun z => z.elim hbo hnw))).symm (by decide)
                        · refine qm_Rp.go 1 (c' := (169, [.ref 28, .int y, .int x, .int g, .int 0, .int v18, .int 0, .int 1, .int v28, .float 0], [.int (-2)], h)) rfl ?_
                          refine qm_Rp.rt (v := (some (.int (-2)))) (h' := h) rfl ?_
                          exact k0 (-2) (unl_d ⟨by omega, by omega, by omega, by omega, by omega, by omega⟩ (by rw [el, ek, eb]; omega) (by rw [el, em]; intro z; omega) (by rw [el, ewt]; omega)).symm (by decide)
                      · refine qm_Rp.go 1 (c' := (97, [.ref 28, .int y, .int x, .int g, .int 0, .int v18, .int 0, .int 1, .float 0, .float 0], [.ref 28], h)) rfl ?_
                        refine hp_getr rfl (hH.1 28 (9, 8) rfl) rfl (hH.2 28 1 (some 15) rfl) ?_
                        refine qm_Rp.go 1 (c' := (101, [.ref 28, .int y, .int x, .int g, .int 0, .int v18, .int 0, .int 1, .float 0, .float 0], [.int g, .ref 15], h)) rfl ?_
                        refine hp_inv (o := 15) (r := []) (as := [.ref 15, .int g]) rfl rfl (hH.1 15 (15, 8) rfl) rfl rfl rfl ?_
                        refine qm_Rp.go 2 (c' := (2, [.ref 15, .int g], [.ref 15, .int 4], h)) rfl ?_
                        refine hp_getr rfl (hH.1 15 (15, 8) rfl) rfl (hH.2 15 2 (some 17) rfl) ?_
                        refine qm_Rp.go 1 (c' := (6, [.ref 15, .int g], [.int g, .ref 17, .int 4], h)) rfl ?_
                        obtain ⟨v33, q_v33⟩ : ∃ v_, h.2.1 17 g.toInt.toNat = v_ := ⟨_, rfl⟩
                        refine hp_ial (v := v33) rfl (hH.1 17 (0, 4) rfl) q_v33 (fun ia_33 ib_33 => ?_)
                        refine qm_Rp.go 0 (c' := (7, [.ref 15, .int g], [.int v33, .int 4], h)) rfl ?_
                        have eh : hi g.toInt.toNat = v33.toInt := by rw [← eI]; exact congrArg Int32.toInt q_v33
                        have bh := hi4 g.toInt.toNat
                        rw [eh] at bh
                        refine qm_Rp.go 1 (c' := (8, [.ref 15, .int g], [.int (4 - v33)], h)) rfl ?_
                        obtain ⟨v35, q_v35, e_v35⟩ := hk_sub (x := 4) (y := v33) (a := 4) (b := v33.toInt) rfl rfl (by omega) (by omega)
                        rw [q_v35]
                        refine qm_Rp.rt (v := (some (.int v35))) (h' := h) rfl ?_
                        refine qm_Rp.go 1 (c' := (106, [.ref 28, .int y, .int x, .int g, .int 0, .int v18, .int 0, .int 1, .float 0, .float 0], [.int 1, .int v35], h)) rfl ?_
                        refine hp_cge (ix := v35.toInt) (iy := 1) rfl rfl rfl (fun z36 => ?_) (fun z36 => ?_)
                        · refine qm_Rp.go 1 (c' := (112, [.ref 28, .int y, .int x, .int g, .int 0, .int v18, .int 0, .int 1, .float 0, .float 0], [.ref 28], h)) rfl ?_
                          refine hp_getr rfl (hH.1 28 (9, 8) rfl) rfl (hH.2 28 0 (some 6) rfl) ?_
                          refine qm_Rp.go 0 (c' := (115, [.ref 28, .int y, .int x, .int g, .int 0, .int v18, .int 0, .int 1, .float 0, .float 0], [.ref 6], h)) rfl ?_
                          refine hp_getr rfl (hH.1 6 (6, 9) rfl) rfl (hH.2 6 1 (some 7) rfl) ?_
                          refine qm_Rp.go 1 (c' := (120, [.ref 28, .int y, .int x, .int g, .int 0, .int v18, .int 0, .int 1, .float 0, .float 0], [.int v18, .ref 7], h)) rfl ?_
                          obtain ⟨v37, q_v37⟩ : ∃ v_, h.2.1 7 v18.toInt.toNat = v_ := ⟨_, rfl⟩
                          refine hp_ial (v := v37) rfl (hH.1 7 (0, 30) rfl) q_v37 (fun ia_37 ib_37 => ?_)
                          refine qm_Rp.go 0 (c' := (121, [.ref 28, .int y, .int x, .int g, .int 0, .int v18, .int 0, .int 1, .float 0, .float 0], [.int v37], h)) rfl ?_
                          have ew_v18 : w v18.toInt.toNat = v37.toInt := by rw [← eW]; exact congrArg Int32.toInt q_v37
                          have bw_v18 := hw v18.toInt.toNat
                          rw [ew_v18] at bw_v18
                          refine qm_Rp.go 5 (c' := (153, [.ref 28, .int y, .int x, .int g, .int 0, .int v18, .int 0, .int 1, .float 0, .float 0], [.int (v37 + 0)], h)) rfl ?_
                          obtain ⟨v39, q_v39, e_v39⟩ := hk_add (x := v37) (y := 0) (a := v37.toInt) (b := 0) rfl rfl (by omega) (by omega)
                          rw [q_v39]
                          refine qm_Rp.go 1 (c' := (155, [.ref 28, .int y, .int x, .int g, .int 0, .int v18, .int 0, .int 1, .int v39, .float 0], [], h)) rfl ?_
                          have ewt : w (c (kV c (16 * y.toInt + 4 * x.toInt + 0)).toNat).toNat + (if mV c tk (16 * y.toInt + 4 * x.toInt + 0) = 2 then w (c (16 * y.toInt + 4 * x.toInt + 0).toNat).toNat else 0) = v39.toInt := by rw [ek, eb, em, if_neg (by decide)]; omega
                          refine qm_Rp.go 2 (c' := (158, [.ref 28, .int y, .int x, .int g, .int 0, .int v18, .int 0, .int 1, .int v39, .float 0], [.ref 28, .int v39], h)) rfl ?_
                          refine hp_getr rfl (hH.1 28 (9, 8) rfl) rfl hT ?_
                          refine qm_Rp.go 0 (c' := (161, [.ref 28, .int y, .int x, .int g, .int 0, .int v18, .int 0, .int 1, .int v39, .float 0], [.ref 29, .int v39], h)) rfl ?_
                          refine hp_geti (v := l) rfl (hH.1 29 (11, 16) rfl) rfl q_l ?_
                          refine qm_Rp.go 0 (c' := (164, [.ref 28, .int y, .int x, .int g, .int 0, .int v18, .int 0, .int 1, .int v39, .float 0], [.int l, .int v39], h)) rfl ?_
                          refine hp_cle (ix := v39.toInt) (iy := l.toInt) rfl rfl rfl (fun z40 => ?_) (fun z40 => ?_)
                          · refine qm_Rp.go 5 (c' := (176, [.ref 28, .int y, .int x, .int g, .int 0, .int v18, .int 0, .int 1, .int v39, .float 0], [.int (-v39), .int x, .int y, .ref 28], h)) rfl ?_
                            obtain ⟨v41, q_v41, e_v41⟩ := hk_neg (x := v39) (a := v39.toInt) rfl (by omega)
                            rw [q_v41]
                            refine hp_inv (o := 28) (r := []) (as := [.ref 28, .int y, .int x, .int v41]) rfl rfl (hH.1 28 (9, 8) rfl) rfl rfl rfl (px_cbo29 (m := v41) hH hT q_B hB eV hb q_ls hls q_wt hwt ⟨by omega, by omega⟩ ⟨by omega, by omega⟩ ⟨by omega, by omega⟩ q_g0 q_g1 q_g2 (fun r42 e_r42 => ?_))
                            rcases e_r42 with ⟨hr, hbo⟩ | ⟨hr, hbo⟩
                            · obtain rfl : r42 = 1 := hk_eqi.mpr (hr.trans rfl)
                              refine qm_Rp.go 1 (c' := (197, [.ref 28, .int y, .int x, .int g, .int 0, .int v18, .int 0, .int 1, .int v39, .float 0], [], h)) rfl ?_
                              refine px_cl00 hH q_ls hls q_wt hwt eW eH e12 e13 e14 eC eY eI eV hw hi4 hb ⟨by omega, by omega⟩ ⟨by omega, by omega⟩ ⟨by omega, by omega⟩ (fun z => by omega) ⟨by omega, by omega⟩ eb ey_v18 ex_v18 et_v18 (fun I l2 w2 e x28 q5 q6 el2 ew2 x11 x12 x13 x14 x36 x16 x17 x37 => ?_)
                              exact k1 I l2 w2 e x28 q5 q6 ((unl_f ⟨by omega, by omega, by omega, by omega, by omega, by omega⟩ (by rw [el, ek, eb]; omega) (by rw [el, em]; intro z; omega) (by rw [el, ewt]; omega) (okb_t (by rw [el, ewt, ← e_v41]; exact Or.inl hbo))).trans (by rw [el, em])).symm (by rw [el, ek, eb]; exact el2) (by rw [el, ek, eb]; exact ew2) (by rw [el, ek, eb]; exact x11) (by rw [el, ek, eb]; exact x12) (by rw [el, ek, eb]; exact x13) (by rw [el, ek, eb]; exact x14) (by rw [el, ek]; exact x36) (by rw [el, ek, eb]; exact x16) x17 (by rw [el, ek, eb]; exact x37)
                            · obtain rfl : r42 = 0 := hk_eqi.mpr (hr.trans rfl)
                              refine qm_Rp.go 6 (c' := (188, [.ref 28, .int y, .int x, .int g, .int 0, .int v18, .int 0, .int 1, .int v39, .float 0], [.int (-v39), .int x, .int y, .ref 28], h)) rfl ?_
                              rw [q_v41]
                              refine hp_inv (o := 28) (r := []) (as := [.ref 28, .int y, .int x, .int v41]) rfl rfl (hH.1 28 (9, 8) rfl) rfl rfl rfl (px_cnw29 (m := v41) hH hT q_B hB eV hb q_ls hls q_wt hwt ⟨by omega, by omega⟩ ⟨by omega, by omega⟩ ⟨by omega, by omega⟩ (fun r43 e_r43 => ?_))
                              rcases e_r43 with ⟨hr, hnw⟩ | ⟨hr, hnw⟩
                              · obtain rfl : r43 = 1 := hk_eqi.mpr (hr.trans rfl)
                                refine qm_Rp.go 1 (c' := (197, [.ref 28, .int y, .int x, .int g, .int 0, .int v18, .int 0, .int 1, .int v39, .float 0], [], h)) rfl ?_
                                refine px_cl00 hH q_ls hls q_wt hwt eW eH e12 e13 e14 eC eY eI eV hw hi4 hb ⟨by omega, by omega⟩ ⟨by omega, by omega⟩ ⟨by omega, by omega⟩ (fun z => by omega) ⟨by omega, by omega⟩ eb ey_v18 ex_v18 et_v18 (fun I l2 w2 e x28 q5 q6 el2 ew2 x11 x12 x13 x14 x36 x16 x17 x37 => ?_)
                                exact k1 I l2 w2 e x28 q5 q6 ((unl_f ⟨by omega, by omega, by omega, by omega, by omega, by omega⟩ (by rw [el, ek, eb]; omega) (by rw [el, em]; intro z; omega) (by rw [el, ewt]; omega) (okb_t (by rw [el, ewt, ← e_v41]; exact Or.inr hnw))).trans (by rw [el, em])).symm (by rw [el, ek, eb]; exact el2) (by rw [el, ek, eb]; exact ew2) (by rw [el, ek, eb]; exact x11) (by rw [el, ek, eb]; exact x12) (by rw [el, ek, eb]; exact x13) (by rw [el, ek, eb]; exact x14) (by rw [el, ek]; exact x36) (by rw [el, ek, eb]; exact x16) x17 (by rw [el, ek, eb]; exact x37)
                              · obtain rfl : r43 = 0 := hk_eqi.mpr (hr.trans rfl)
                                refine qm_Rp.go 2 (c' := (196, [.ref 28, .int y, .int x, .int g, .int 0, .int v18, .int 0, .int 1, .int v39, .float 0], [.int (-3)], h)) rfl ?_
                                refine qm_Rp.rt (v := (some (.int (-3)))) (h' := h) rfl ?_
                                exact k0 (-3) (unl_e ⟨by omega, by omega, by omega, by omega, by omega, by omega⟩ (by rw [el, ek, eb]; omega) (by rw [el, em]; intro z; omega) (by rw [el, ewt]; omega) (okb_f (by rw [el, ewt, ← e_v41]; exact fun z => z.elim hbo hnw))).symm (by decide)
                          · refine qm_Rp.go 1 (c' := (169, [.ref 28, .int y, .int x, .int g, .int 0, .int v18, .int 0, .int 1, .int v39, .float 0], [.int (-2)], h)) rfl ?_
                            refine qm_Rp.rt (v := (some (.int (-2)))) (h' := h) rfl ?_
                            exact k0 (-2) (unl_d ⟨by omega, by omega, by omega, by omega, by omega, by omega⟩ (by rw [el, ek, eb]; omega) (by rw [el, em]; intro z; omega) (by rw [el, ewt]; omega)).symm (by decide)
                        · refine qm_Rp.go 1 (c' := (110, [.ref 28, .int y, .int x, .int g, .int 0, .int v18, .int 0, .int 1, .float 0, .float 0], [.int (-1)], h)) rfl ?_
                          refine qm_Rp.rt (v := (some (.int (-1)))) (h' := h) rfl ?_
                          exact k0 (-1) (unl_c ⟨by omega, by omega, by omega, by omega, by omega, by omega⟩ (by rw [el, ek, eb]; omega) ⟨by omega, by rw [el, em]; omega⟩).symm (by decide)
                    · refine qm_Rp.go 3 (c' := (65, [.ref 28, .int y, .int x, .int g, .int 0, .int v18, .float 0, .float 0, .float 0, .float 0], [.int y, .ref 28, .int 0], h)) rfl ?_
                      refine hp_inv (o := 28) (r := [.int 0]) (as := [.ref 28, .int y]) rfl rfl (hH.1 28 (9, 8) rfl) rfl rfl rfl ?_
                      refine qm_Rp.go 2 (c' := (2, [.ref 28, .int y], [.int y, .ref 28], h)) rfl ?_
                      refine hp_inv (o := 28) (r := []) (as := [.ref 28, .int y]) rfl rfl (hH.1 28 (9, 8) rfl) rfl rfl rfl ?_
                      refine qm_Rp.go 1 (c' := (1, [.ref 28, .int y], [.ref 28], h)) rfl ?_
                      refine hp_geti (v := cv) rfl (hH.1 28 (9, 8) rfl) rfl q_cv ?_
                      refine qm_Rp.go 2 (c' := (6, [.ref 28, .int y], [.int (cv >>> (y &&& 31))], h)) rfl ?_
                      rw [q_v7]
                      refine qm_Rp.go 2 (c' := (8, [.ref 28, .int y], [.int (v7 &&& 1)], h)) rfl ?_
                      rw [q_v8]
                      refine qm_Rp.go 1 (c' := (9, [.ref 28, .int y], [.int 1, .int v8], h)) rfl ?_
                      refine hp_cne (ix := v8.toInt) (iy := 1) rfl rfl rfl (fun z44 => ?_) (fun z44 => by exfalso; omega)
                      refine qm_Rp.go 1 (c' := (17, [.ref 28, .int y], [.int 0], h)) rfl ?_
                      refine qm_Rp.rt (v := (some (.int 0))) (h' := h) rfl ?_
                      refine qm_Rp.go 2 (c' := (13, [.ref 28, .int y], [.int 0], h)) rfl ?_
                      refine qm_Rp.rt (v := (some (.int 0))) (h' := h) rfl ?_
                      refine qm_Rp.go 2 (c' := (80, [.ref 28, .int y, .int x, .int g, .int 0, .int v18, .float 0, .float 0, .float 0, .float 0], [.int 0], h)) rfl ?_
                      have em : mV c tk (16 * y.toInt + 4 * x.toInt + 0) = 1 := mV_1a (by rw [ec2]; omega)
                      refine qm_Rp.go 9 (c' := (93, [.ref 28, .int y, .int x, .int g, .int 0, .int v18, .int 0, .int 1, .float 0, .float 0], [.int (-1), .int g], h)) rfl ?_
                      refine hp_ceq (ix := g.toInt) (iy := (-1)) rfl rfl rfl (fun z45 => ?_) (fun z45 => ?_)
                      · refine qm_Rp.go 1 (c' := (112, [.ref 28, .int y, .int x, .int g, .int 0, .int v18, .int 0, .int 1, .float 0, .float 0], [.ref 28], h)) rfl ?_
                        refine hp_getr rfl (hH.1 28 (9, 8) rfl) rfl (hH.2 28 0 (some 6) rfl) ?_
                        refine qm_Rp.go 0 (c' := (115, [.ref 28, .int y, .int x, .int g, .int 0, .int v18, .int 0, .int 1, .float 0, .float 0], [.ref 6], h)) rfl ?_
                        refine hp_getr rfl (hH.1 6 (6, 9) rfl) rfl (hH.2 6 1 (some 7) rfl) ?_
                        refine qm_Rp.go 1 (c' := (120, [.ref 28, .int y, .int x, .int g, .int 0, .int v18, .int 0, .int 1, .float 0, .float 0], [.int v18, .ref 7], h)) rfl ?_
                        obtain ⟨v46, q_v46⟩ : ∃ v_, h.2.1 7 v18.toInt.toNat = v_ := ⟨_, rfl⟩
                        refine hp_ial (v := v46) rfl (hH.1 7 (0, 30) rfl) q_v46 (fun ia_46 ib_46 => ?_)
                        refine qm_Rp.go 0 (c' := (121, [.ref 28, .int y, .int x, .int g, .int 0, .int v18, .int 0, .int 1, .float 0, .float 0], [.int v46], h)) rfl ?_
                        have ew_v18 : w v18.toInt.toNat = v46.toInt := by rw [← eW]; exact congrArg Int32.toInt q_v46
                        have bw_v18 := hw v18.toInt.toNat
                        rw [ew_v18] at bw_v18
                        refine qm_Rp.go 5 (c' := (153, [.ref 28, .int y, .int x, .int g, .int 0, .int v18, .int 0, .int 1, .float 0, .float 0], [.int (v46 + 0)], h)) rfl ?_
                        obtain ⟨v48, q_v48, e_v48⟩ := hk_add (x := v46) (y := 0) (a := v46.toInt) (b := 0) rfl rfl (by omega) (by omega)
                        rw [q_v48]
                        refine qm_Rp.go 1 (c' := (155, [.ref 28, .int y, .int x, .int g, .int 0, .int v18, .int 0, .int 1, .int v48, .float 0], [], h)) rfl ?_
                        have ewt : w (c (kV c (16 * y.toInt + 4 * x.toInt + 0)).toNat).toNat + (if mV c tk (16 * y.toInt + 4 * x.toInt + 0) = 2 then w (c (16 * y.toInt + 4 * x.toInt + 0).toNat).toNat else 0) = v48.toInt := by rw [ek, eb, em, if_neg (by decide)]; omega
                        refine qm_Rp.go 2 (c' := (158, [.ref 28, .int y, .int x, .int g, .int 0, .int v18, .int 0, .int 1, .int v48, .float 0], [.ref 28, .int v48], h)) rfl ?_
                        refine hp_getr rfl (hH.1 28 (9, 8) rfl) rfl hT ?_
                        refine qm_Rp.go 0 (c' := (161, [.ref 28, .int y, .int x, .int g, .int 0, .int v18, .int 0, .int 1, .int v48, .float 0], [.ref 29, .int v48], h)) rfl ?_
                        refine hp_geti (v := l) rfl (hH.1 29 (11, 16) rfl) rfl q_l ?_
                        refine qm_Rp.go 0 (c' := (164, [.ref 28, .int y, .int x, .int g, .int 0, .int v18, .int 0, .int 1, .int v48, .float 0], [.int l, .int v48], h)) rfl ?_
                        refine hp_cle (ix := v48.toInt) (iy := l.toInt) rfl rfl rfl (fun z49 => ?_) (fun z49 => ?_)
                        · refine qm_Rp.go 5 (c' := (176, [.ref 28, .int y, .int x, .int g, .int 0, .int v18, .int 0, .int 1, .int v48, .float 0], [.int (-v48), .int x, .int y, .ref 28], h)) rfl ?_
                          obtain ⟨v50, q_v50, e_v50⟩ := hk_neg (x := v48) (a := v48.toInt) rfl (by omega)
                          rw [q_v50]
                          refine hp_inv (o := 28) (r := []) (as := [.ref 28, .int y, .int x, .int v50]) rfl rfl (hH.1 28 (9, 8) rfl) rfl rfl rfl (px_cbo29 (m := v50) hH hT q_B hB eV hb q_ls hls q_wt hwt ⟨by omega, by omega⟩ ⟨by omega, by omega⟩ ⟨by omega, by omega⟩ q_g0 q_g1 q_g2 (fun r51 e_r51 => ?_))
                          rcases e_r51 with ⟨hr, hbo⟩ | ⟨hr, hbo⟩
                          · obtain rfl : r51 = 1 := hk_eqi.mpr (hr.trans rfl)
                            refine qm_Rp.go 1 (c' := (197, [.ref 28, .int y, .int x, .int g, .int 0, .int v18, .int 0, .int 1, .int v48, .float 0], [], h)) rfl ?_
                            refine px_cl00 hH q_ls hls q_wt hwt eW eH e12 e13 e14 eC eY eI eV hw hi4 hb ⟨by omega, by omega⟩ ⟨by omega, by omega⟩ ⟨by omega, by omega⟩ (fun z => by omega) ⟨by omega, by omega⟩ eb ey_v18 ex_v18 et_v18 (fun I l2 w2 e x28 q5 q6 el2 ew2 x11 x12 x13 x14 x36 x16 x17 x37 => ?_)
                            exact k1 I l2 w2 e x28 q5 q6 ((unl_f ⟨by omega, by omega, by omega, by omega, by omega, by omega⟩ (by rw [el, ek, eb]; omega) (by rw [el, em]; intro z; omega) (by rw [el, ewt]; omega) (okb_t (by rw [el, ewt, ← e_v50]; exact Or.inl hbo))).trans (by rw [el, em])).symm (by rw [el, ek, eb]; exact el2) (by rw [el, ek, eb]; exact ew2) (by rw [el, ek, eb]; exact x11) (by rw [el, ek, eb]; exact x12) (by rw [el, ek, eb]; exact x13) (by rw [el, ek, eb]; exact x14) (by rw [el, ek]; exact x36) (by rw [el, ek, eb]; exact x16) x17 (by rw [el, ek, eb]; exact x37)
                          · obtain rfl : r51 = 0 := hk_eqi.mpr (hr.trans rfl)
                            refine qm_Rp.go 6 (c' := (188, [.ref 28, .int y, .int x, .int g, .int 0, .int v18, .int 0, .int 1, .int v48, .float 0], [.int (-v48), .int x, .int y, .ref 28], h)) rfl ?_
                            rw [q_v50]
                            refine hp_inv (o := 28) (r := []) (as := [.ref 28, .int y, .int x, .int v50]) rfl rfl (hH.1 28 (9, 8) rfl) rfl rfl rfl (px_cnw29 (m := v50) hH hT q_B hB eV hb q_ls hls q_wt hwt ⟨by omega, by omega⟩ ⟨by omega, by omega⟩ ⟨by omega, by omega⟩ (fun r52 e_r52 => ?_))
                            rcases e_r52 with ⟨hr, hnw⟩ | ⟨hr, hnw⟩
                            · obtain rfl : r52 = 1 := hk_eqi.mpr (hr.trans rfl)
                              refine qm_Rp.go 1 (c' := (197, [.ref 28, .int y, .int x, .int g, .int 0, .int v18, .int 0, .int 1, .int v48, .float 0], [], h)) rfl ?_
                              refine px_cl00 hH q_ls hls q_wt hwt eW eH e12 e13 e14 eC eY eI eV hw hi4 hb ⟨by omega, by omega⟩ ⟨by omega, by omega⟩ ⟨by omega, by omega⟩ (fun z => by omega) ⟨by omega, by omega⟩ eb ey_v18 ex_v18 et_v18 (fun I l2 w2 e x28 q5 q6 el2 ew2 x11 x12 x13 x14 x36 x16 x17 x37 => ?_)
                              exact k1 I l2 w2 e x28 q5 q6 ((unl_f ⟨by omega, by omega, by omega, by omega, by omega, by omega⟩ (by rw [el, ek, eb]; omega) (by rw [el, em]; intro z; omega) (by rw [el, ewt]; omega) (okb_t (by rw [el, ewt, ← e_v50]; exact Or.inr hnw))).trans (by rw [el, em])).symm (by rw [el, ek, eb]; exact el2) (by rw [el, ek, eb]; exact ew2) (by rw [el, ek, eb]; exact x11) (by rw [el, ek, eb]; exact x12) (by rw [el, ek, eb]; exact x13) (by rw [el, ek, eb]; exact x14) (by rw [el, ek]; exact x36) (by rw [el, ek, eb]; exact x16) x17 (by rw [el, ek, eb]; exact x37)
                            · obtain rfl : r52 = 0 := hk_eqi.mpr (hr.trans rfl)
                              refine qm_Rp.go 2 (c' := (196, [.ref 28, .int y, .int x, .int g, .int 0, .int v18, .int 0, .int 1, .int v48, .float 0], [.int (-3)], h)) rfl ?_
                              refine qm_Rp.rt (v := (some (.int (-3)))) (h' := h) rfl ?_
                              exact k0 (-3) (unl_e ⟨by omega, by omega, by omega, by omega, by omega, by omega⟩ (by rw [el, ek, eb]; omega) (by rw [el, em]; intro z; omega) (by rw [el, ewt]; omega) (okb_f (by rw [el, ewt, ← e_v50]; exact fun z => z.elim hbo hnw))).symm (by decide)
                        · refine qm_Rp.go 1 (c' := (169, [.ref 28, .int y, .int x, .int g, .int 0, .int v18, .int 0, .int 1, .int v48, .float 0], [.int (-2)], h)) rfl ?_
                          refine qm_Rp.rt (v := (some (.int (-2)))) (h' := h) rfl ?_
                          exact k0 (-2) (unl_d ⟨by omega, by omega, by omega, by omega, by omega, by omega⟩ (by rw [el, ek, eb]; omega) (by rw [el, em]; intro z; omega) (by rw [el, ewt]; omega)).symm (by decide)
                      · refine qm_Rp.go 1 (c' := (97, [.ref 28, .int y, .int x, .int g, .int 0, .int v18, .int 0, .int 1, .float 0, .float 0], [.ref 28], h)) rfl ?_
                        refine hp_getr rfl (hH.1 28 (9, 8) rfl) rfl (hH.2 28 1 (some 15) rfl) ?_
                        refine qm_Rp.go 1 (c' := (101, [.ref 28, .int y, .int x, .int g, .int 0, .int v18, .int 0, .int 1, .float 0, .float 0], [.int g, .ref 15], h)) rfl ?_
                        refine hp_inv (o := 15) (r := []) (as := [.ref 15, .int g]) rfl rfl (hH.1 15 (15, 8) rfl) rfl rfl rfl ?_
                        refine qm_Rp.go 2 (c' := (2, [.ref 15, .int g], [.ref 15, .int 4], h)) rfl ?_
                        refine hp_getr rfl (hH.1 15 (15, 8) rfl) rfl (hH.2 15 2 (some 17) rfl) ?_
                        refine qm_Rp.go 1 (c' := (6, [.ref 15, .int g], [.int g, .ref 17, .int 4], h)) rfl ?_
                        obtain ⟨v53, q_v53⟩ : ∃ v_, h.2.1 17 g.toInt.toNat = v_ := ⟨_, rfl⟩
                        refine hp_ial (v := v53) rfl (hH.1 17 (0, 4) rfl) q_v53 (fun ia_53 ib_53 => ?_)
                        refine qm_Rp.go 0 (c' := (7, [.ref 15, .int g], [.int v53, .int 4], h)) rfl ?_
                        have eh : hi g.toInt.toNat = v53.toInt := by rw [← eI]; exact congrArg Int32.toInt q_v53
                        have bh := hi4 g.toInt.toNat
                        rw [eh] at bh
                        refine qm_Rp.go 1 (c' := (8, [.ref 15, .int g], [.int (4 - v53)], h)) rfl ?_
                        obtain ⟨v55, q_v55, e_v55⟩ := hk_sub (x := 4) (y := v53) (a := 4) (b := v53.toInt) rfl rfl (by omega) (by omega)
                        rw [q_v55]
                        refine qm_Rp.rt (v := (some (.int v55))) (h' := h) rfl ?_
                        refine qm_Rp.go 1 (c' := (106, [.ref 28, .int y, .int x, .int g, .int 0, .int v18, .int 0, .int 1, .float 0, .float 0], [.int 1, .int v55], h)) rfl ?_
                        refine hp_cge (ix := v55.toInt) (iy := 1) rfl rfl rfl (fun z56 => ?_) (fun z56 => ?_)
                        · refine qm_Rp.go 1 (c' := (112, [.ref 28, .int y, .int x, .int g, .int 0, .int v18, .int 0, .int 1, .float 0, .float 0], [.ref 28], h)) rfl ?_
                          refine hp_getr rfl (hH.1 28 (9, 8) rfl) rfl (hH.2 28 0 (some 6) rfl) ?_
                          refine qm_Rp.go 0 (c' := (115, [.ref 28, .int y, .int x, .int g, .int 0, .int v18, .int 0, .int 1, .float 0, .float 0], [.ref 6], h)) rfl ?_
                          refine hp_getr rfl (hH.1 6 (6, 9) rfl) rfl (hH.2 6 1 (some 7) rfl) ?_
                          refine qm_Rp.go 1 (c' := (120, [.ref 28, .int y, .int x, .int g, .int 0, .int v18, .int 0, .int 1, .float 0, .float 0], [.int v18, .ref 7], h)) rfl ?_
                          obtain ⟨v57, q_v57⟩ : ∃ v_, h.2.1 7 v18.toInt.toNat = v_ := ⟨_, rfl⟩
                          refine hp_ial (v := v57) rfl (hH.1 7 (0, 30) rfl) q_v57 (fun ia_57 ib_57 => ?_)
                          refine qm_Rp.go 0 (c' := (121, [.ref 28, .int y, .int x, .int g, .int 0, .int v18, .int 0, .int 1, .float 0, .float 0], [.int v57], h)) rfl ?_
                          have ew_v18 : w v18.toInt.toNat = v57.toInt := by rw [← eW]; exact congrArg Int32.toInt q_v57
                          have bw_v18 := hw v18.toInt.toNat
                          rw [ew_v18] at bw_v18
                          refine qm_Rp.go 5 (c' := (153, [.ref 28, .int y, .int x, .int g, .int 0, .int v18, .int 0, .int 1, .float 0, .float 0], [.int (v57 + 0)], h)) rfl ?_
                          obtain ⟨v59, q_v59, e_v59⟩ := hk_add (x := v57) (y := 0) (a := v57.toInt) (b := 0) rfl rfl (by omega) (by omega)
                          rw [q_v59]
                          refine qm_Rp.go 1 (c' := (155, [.ref 28, .int y, .int x, .int g, .int 0, .int v18, .int 0, .int 1, .int v59, .float 0], [], h)) rfl ?_
                          have ewt : w (c (kV c (16 * y.toInt + 4 * x.toInt + 0)).toNat).toNat + (if mV c tk (16 * y.toInt + 4 * x.toInt + 0) = 2 then w (c (16 * y.toInt + 4 * x.toInt + 0).toNat).toNat else 0) = v59.toInt := by rw [ek, eb, em, if_neg (by decide)]; omega
                          refine qm_Rp.go 2 (c' := (158, [.ref 28, .int y, .int x, .int g, .int 0, .int v18, .int 0, .int 1, .int v59, .float 0], [.ref 28, .int v59], h)) rfl ?_
                          refine hp_getr rfl (hH.1 28 (9, 8) rfl) rfl hT ?_
                          refine qm_Rp.go 0 (c' := (161, [.ref 28, .int y, .int x, .int g, .int 0, .int v18, .int 0, .int 1, .int v59, .float 0], [.ref 29, .int v59], h)) rfl ?_
                          refine hp_geti (v := l) rfl (hH.1 29 (11, 16) rfl) rfl q_l ?_
                          refine qm_Rp.go 0 (c' := (164, [.ref 28, .int y, .int x, .int g, .int 0, .int v18, .int 0, .int 1, .int v59, .float 0], [.int l, .int v59], h)) rfl ?_
                          refine hp_cle (ix := v59.toInt) (iy := l.toInt) rfl rfl rfl (fun z60 => ?_) (fun z60 => ?_)
                          · refine qm_Rp.go 5 (c' := (176, [.ref 28, .int y, .int x, .int g, .int 0, .int v18, .int 0, .int 1, .int v59, .float 0], [.int (-v59), .int x, .int y, .ref 28], h)) rfl ?_
                            obtain ⟨v61, q_v61, e_v61⟩ := hk_neg (x := v59) (a := v59.toInt) rfl (by omega)
                            rw [q_v61]
                            refine hp_inv (o := 28) (r := []) (as := [.ref 28, .int y, .int x, .int v61]) rfl rfl (hH.1 28 (9, 8) rfl) rfl rfl rfl (px_cbo29 (m := v61) hH hT q_B hB eV hb q_ls hls q_wt hwt ⟨by omega, by omega⟩ ⟨by omega, by omega⟩ ⟨by omega, by omega⟩ q_g0 q_g1 q_g2 (fun r62 e_r62 => ?_))
                            rcases e_r62 with ⟨hr, hbo⟩ | ⟨hr, hbo⟩
                            · obtain rfl : r62 = 1 := hk_eqi.mpr (hr.trans rfl)
                              refine qm_Rp.go 1 (c' := (197, [.ref 28, .int y, .int x, .int g, .int 0, .int v18, .int 0, .int 1, .int v59, .float 0], [], h)) rfl ?_
                              refine px_cl00 hH q_ls hls q_wt hwt eW eH e12 e13 e14 eC eY eI eV hw hi4 hb ⟨by omega, by omega⟩ ⟨by omega, by omega⟩ ⟨by omega, by omega⟩ (fun z => by omega) ⟨by omega, by omega⟩ eb ey_v18 ex_v18 et_v18 (fun I l2 w2 e x28 q5 q6 el2 ew2 x11 x12 x13 x14 x36 x16 x17 x37 => ?_)
                              exact k1 I l2 w2 e x28 q5 q6 ((unl_f ⟨by omega, by omega, by omega, by omega, by omega, by omega⟩ (by rw [el, ek, eb]; omega) (by rw [el, em]; intro z; omega) (by rw [el, ewt]; omega) (okb_t (by rw [el, ewt, ← e_v61]; exact Or.inl hbo))).trans (by rw [el, em])).symm (by rw [el, ek, eb]; exact el2) (by rw [el, ek, eb]; exact ew2) (by rw [el, ek, eb]; exact x11) (by rw [el, ek, eb]; exact x12) (by rw [el, ek, eb]; exact x13) (by rw [el, ek, eb]; exact x14) (by rw [el, ek]; exact x36) (by rw [el, ek, eb]; exact x16) x17 (by rw [el, ek, eb]; exact x37)
                            · obtain rfl : r62 = 0 := hk_eqi.mpr (hr.trans rfl)
                              refine qm_Rp.go 6 (c' := (188, [.ref 28, .int y, .int x, .int g, .int 0, .int v18, .int 0, .int 1, .int v59, .float 0], [.int (-v59), .int x, .int y, .ref 28], h)) rfl ?_
                              rw [q_v61]
                              refine hp_inv (o := 28) (r := []) (as := [.ref 28, .int y, .int x, .int v61]) rfl rfl (hH.1 28 (9, 8) rfl) rfl rfl rfl (px_cnw29 (m := v61) hH hT q_B hB eV hb q_ls hls q_wt hwt ⟨by omega, by omega⟩ ⟨by omega, by omega⟩ ⟨by omega, by omega⟩ (fun r63 e_r63 => ?_))
                              rcases e_r63 with ⟨hr, hnw⟩ | ⟨hr, hnw⟩
                              · obtain rfl : r63 = 1 := hk_eqi.mpr (hr.trans rfl)
                                refine qm_Rp.go 1 (c' := (197, [.ref 28, .int y, .int x, .int g, .int 0, .int v18, .int 0, .int 1, .int v59, .float 0], [], h)) rfl ?_
                                refine px_cl00 hH q_ls hls q_wt hwt eW eH e12 e13 e14 eC eY eI eV hw hi4 hb ⟨by omega, by omega⟩ ⟨by omega, by omega⟩ ⟨by omega, by omega⟩ (fun z => by omega) ⟨by omega, by omega⟩ eb ey_v18 ex_v18 et_v18 (fun I l2 w2 e x28 q5 q6 el2 ew2 x11 x12 x13 x14 x36 x16 x17 x37 => ?_)
                                exact k1 I l2 w2 e x28 q5 q6 ((unl_f ⟨by omega, by omega, by omega, by omega, by omega, by omega⟩ (by rw [el, ek, eb]; omega) (by rw [el, em]; intro z; omega) (by rw [el, ewt]; omega) (okb_t (by rw [el, ewt, ← e_v61]; exact Or.inr hnw))).trans (by rw [el, em])).symm (by rw [el, ek, eb]; exact el2) (by rw [el, ek, eb]; exact ew2) (by rw [el, ek, eb]; exact x11) (by rw [el, ek, eb]; exact x12) (by rw [el, ek, eb]; exact x13) (by rw [el, ek, eb]; exact x14) (by rw [el, ek]; exact x36) (by rw [el, ek, eb]; exact x16) x17 (by rw [el, ek, eb]; exact x37)
                              · obtain rfl : r63 = 0 := hk_eqi.mpr (hr.trans rfl)
                                refine qm_Rp.go 2 (c' := (196, [.ref 28, .int y, .int x, .int g, .int 0, .int v18, .int 0, .int 1, .int v59, .float 0], [.int (-3)], h)) rfl ?_
                                refine qm_Rp.rt (v := (some (.int (-3)))) (h' := h) rfl ?_
                                exact k0 (-3) (unl_e ⟨by omega, by omega, by omega, by omega, by omega, by omega⟩ (by rw [el, ek, eb]; omega) (by rw [el, em]; intro z; omega) (by rw [el, ewt]; omega) (okb_f (by rw [el, ewt, ← e_v61]; exact fun z => z.elim hbo hnw))).symm (by decide)
                          · refine qm_Rp.go 1 (c' := (169, [.ref 28, .int y, .int x, .int g, .int 0, .int v18, .int 0, .int 1, .int v59, .float 0], [.int (-2)], h)) rfl ?_
                            refine qm_Rp.rt (v := (some (.int (-2)))) (h' := h) rfl ?_
                            exact k0 (-2) (unl_d ⟨by omega, by omega, by omega, by omega, by omega, by omega⟩ (by rw [el, ek, eb]; omega) (by rw [el, em]; intro z; omega) (by rw [el, ewt]; omega)).symm (by decide)
                        · refine qm_Rp.go 1 (c' := (110, [.ref 28, .int y, .int x, .int g, .int 0, .int v18, .int 0, .int 1, .float 0, .float 0], [.int (-1)], h)) rfl ?_
                          refine qm_Rp.rt (v := (some (.int (-1)))) (h' := h) rfl ?_
                          exact k0 (-1) (unl_c ⟨by omega, by omega, by omega, by omega, by omega, by omega⟩ (by rw [el, ek, eb]; omega) ⟨by omega, by rw [el, em]; omega⟩).symm (by decide)
                · refine qm_Rp.go 3 (c' := (26, [.ref 28, .int y, .int x, .int 0], [.int 1], h)) rfl ?_
                  refine qm_Rp.rt (v := (some (.int 1))) (h' := h) rfl ?_
                  refine qm_Rp.go 0 (c' := (24, [.ref 28, .int y, .int x, .int g, .float 0, .float 0, .float 0, .float 0, .float 0, .float 0], [.int 1], h)) rfl ?_
                  have ek : kV c (16 * y.toInt + 4 * x.toInt + 0) = 16 * y.toInt + 4 * x.toInt + 1 := (kV_1 (by rw [show 16 * y.toInt + 4 * x.toInt + 0 + 1 = 16 * y.toInt + 4 * x.toInt + 1 by omega, ec1]; omega)).trans (by omega)
                  have eb := ec1
                  have ec2 : c (16 * y.toInt + 4 * x.toInt + 0 + 1).toNat = v14.toInt := by rw [show 16 * y.toInt + 4 * x.toInt + 0 + 1 = 16 * y.toInt + 4 * x.toInt + 1 by omega]; exact ec1
                  have ab_v14 := hA (16 * y.toInt + 4 * x.toInt + 1).toNat (by omega) (by rw [eb]; omega)
                  rw [eb] at ab_v14
                  have rb_v14 := hR v14.toInt.toNat ab_v14.1
                  have ey_v14 : yb v14.toInt.toNat = y.toInt := by omega
                  have ex_v14 : rb v14.toInt.toNat = x.toInt := by omega
                  have et_v14 : tb v14.toInt.toNat = 1 := by omega
                  refine qm_Rp.go 5 (c' := (35, [.ref 28, .int y, .int x, .int g, .int 1, .float 0, .float 0, .float 0, .float 0, .float 0], [.ref 28], h)) rfl ?_
                  refine hp_getr rfl (hH.1 28 (9, 8) rfl) rfl (hH.2 28 3 (some 36) rfl) ?_
                  refine qm_Rp.go 3 (c' := (42, [.ref 28, .int y, .int x, .int g, .int 1, .float 0, .float 0, .float 0, .float 0, .float 0], [.int 1, .int x, .int y, .ref 36], h)) rfl ?_
                  refine qm_Rp.call (j := 75) (as := [.int y, .int x, .int 1]) (c' := (45, [.ref 28, .int y, .int x, .int g, .int 1, .float 0, .float 0, .float 0, .float 0, .float 0], [.ref 36], h)) rfl rfl ?_
                  refine qm_Rp.go 3 (c' := (3, [.int y, .int x, .int 1], [.int (y * 4)], h)) rfl ?_
                  rw [q_v10]
                  refine qm_Rp.go 2 (c' := (5, [.int y, .int x, .int 1], [.int (v10 + x)], h)) rfl ?_
                  rw [q_v11]
                  refine qm_Rp.go 2 (c' := (7, [.int y, .int x, .int 1], [.int (v11 * 4)], h)) rfl ?_
                  rw [q_v12]
                  refine qm_Rp.go 2 (c' := (9, [.int y, .int x, .int 1], [.int (v12 + 1)], h)) rfl ?_
                  rw [q_v13]
                  refine qm_Rp.rt (v := (some (.int v13))) (h' := h) rfl ?_
                  refine qm_Rp.go 0 (c' := (45, [.ref 28, .int y, .int x, .int g, .int 1, .float 0, .float 0, .float 0, .float 0, .float 0], [.int v13, .ref 36], h)) rfl ?_
                  refine hp_ial (v := v14) rfl (hH.1 36 (0, 80) rfl) q_v14 (fun ia_63 ib_63 => ?_)
                  refine qm_Rp.go 2 (c' := (49, [.ref 28, .int y, .int x, .int g, .int 1, .int v14, .float 0, .float 0, .float 0, .float 0], [.ref 28], h)) rfl ?_
                  refine hp_getr rfl (hH.1 28 (9, 8) rfl) rfl (hH.2 28 0 (some 6) rfl) ?_
                  refine qm_Rp.go 0 (c' := (52, [.ref 28, .int y, .int x, .int g, .int 1, .int v14, .float 0, .float 0, .float 0, .float 0], [.ref 6], h)) rfl ?_
                  refine hp_getr rfl (hH.1 6 (6, 9) rfl) rfl (hH.2 6 4 (some 10) rfl) ?_
                  refine qm_Rp.go 1 (c' := (57, [.ref 28, .int y, .int x, .int g, .int 1, .int v14, .float 0, .float 0, .float 0, .float 0], [.int v14, .ref 10], h)) rfl ?_
                  obtain ⟨v65, q_v65⟩ : ∃ v_, h.2.1 10 v14.toInt.toNat = v_ := ⟨_, rfl⟩
                  refine hp_bal (v := v65) rfl (hH.1 10 (2, 30) rfl) q_v65 (fun ia_65 ib_65 => ?_)
                  refine qm_Rp.go 0 (c' := (58, [.ref 28, .int y, .int x, .int g, .int 1, .int v14, .float 0, .float 0, .float 0, .float 0], [.int v65], h)) rfl ?_
                  have est : tk v14.toInt.toNat = v65.toInt := by rw [← eK]; exact congrArg Int32.toInt q_v65
                  refine hp_zeq (ix := v65.toInt) rfl rfl (fun z67 => ?_) (fun z67 => ?_)
                  · refine qm_Rp.go 1 (c' := (80, [.ref 28, .int y, .int x, .int g, .int 1, .int v14, .float 0, .float 0, .float 0, .float 0], [.int 1], h)) rfl ?_
                    have em : mV c tk (16 * y.toInt + 4 * x.toInt + 0) = 1 := mV_1b (by rw [ec2]; omega) (by rw [ec2, est]; omega)
                    refine qm_Rp.go 9 (c' := (93, [.ref 28, .int y, .int x, .int g, .int 1, .int v14, .int 1, .int 1, .float 0, .float 0], [.int (-1), .int g], h)) rfl ?_
                    refine hp_ceq (ix := g.toInt) (iy := (-1)) rfl rfl rfl (fun z68 => ?_) (fun z68 => ?_)
                    · refine qm_Rp.go 1 (c' := (112, [.ref 28, .int y, .int x, .int g, .int 1, .int v14, .int 1, .int 1, .float 0, .float 0], [.ref 28], h)) rfl ?_
                      refine hp_getr rfl (hH.1 28 (9, 8) rfl) rfl (hH.2 28 0 (some 6) rfl) ?_
                      refine qm_Rp.go 0 (c' := (115, [.ref 28, .int y, .int x, .int g, .int 1, .int v14, .int 1, .int 1, .float 0, .float 0], [.ref 6], h)) rfl ?_
                      refine hp_getr rfl (hH.1 6 (6, 9) rfl) rfl (hH.2 6 1 (some 7) rfl) ?_
                      refine qm_Rp.go 1 (c' := (120, [.ref 28, .int y, .int x, .int g, .int 1, .int v14, .int 1, .int 1, .float 0, .float 0], [.int v14, .ref 7], h)) rfl ?_
                      obtain ⟨v69, q_v69⟩ : ∃ v_, h.2.1 7 v14.toInt.toNat = v_ := ⟨_, rfl⟩
                      refine hp_ial (v := v69) rfl (hH.1 7 (0, 30) rfl) q_v69 (fun ia_69 ib_69 => ?_)
                      refine qm_Rp.go 0 (c' := (121, [.ref 28, .int y, .int x, .int g, .int 1, .int v14, .int 1, .int 1, .float 0, .float 0], [.int v69], h)) rfl ?_
                      have ew_v14 : w v14.toInt.toNat = v69.toInt := by rw [← eW]; exact congrArg Int32.toInt q_v69
                      have bw_v14 := hw v14.toInt.toNat
                      rw [ew_v14] at bw_v14
                      refine qm_Rp.go 5 (c' := (153, [.ref 28, .int y, .int x, .int g, .int 1, .int v14, .int 1, .int 1, .float 0, .float 0], [.int (v69 + 0)], h)) rfl ?_
                      obtain ⟨v71, q_v71, e_v71⟩ := hk_add (x := v69) (y := 0) (a := v69.toInt) (b := 0) rfl rfl (by omega) (by omega)
                      rw [q_v71]
                      refine qm_Rp.go 1 (c' := (155, [.ref 28, .int y, .int x, .int g, .int 1, .int v14, .int 1, .int 1, .int v71, .float 0], [], h)) rfl ?_
                      have ewt : w (c (kV c (16 * y.toInt + 4 * x.toInt + 0)).toNat).toNat + (if mV c tk (16 * y.toInt + 4 * x.toInt + 0) = 2 then w (c (16 * y.toInt + 4 * x.toInt + 0).toNat).toNat else 0) = v71.toInt := by rw [ek, eb, em, if_neg (by decide)]; omega
                      refine qm_Rp.go 2 (c' := (158, [.ref 28, .int y, .int x, .int g, .int 1, .int v14, .int 1, .int 1, .int v71, .float 0], [.ref 28, .int v71], h)) rfl ?_
                      refine hp_getr rfl (hH.1 28 (9, 8) rfl) rfl hT ?_
                      refine qm_Rp.go 0 (c' := (161, [.ref 28, .int y, .int x, .int g, .int 1, .int v14, .int 1, .int 1, .int v71, .float 0], [.ref 29, .int v71], h)) rfl ?_
                      refine hp_geti (v := l) rfl (hH.1 29 (11, 16) rfl) rfl q_l ?_
                      refine qm_Rp.go 0 (c' := (164, [.ref 28, .int y, .int x, .int g, .int 1, .int v14, .int 1, .int 1, .int v71, .float 0], [.int l, .int v71], h)) rfl ?_
                      refine hp_cle (ix := v71.toInt) (iy := l.toInt) rfl rfl rfl (fun z72 => ?_) (fun z72 => ?_)
                      · refine qm_Rp.go 5 (c' := (176, [.ref 28, .int y, .int x, .int g, .int 1, .int v14, .int 1, .int 1, .int v71, .float 0], [.int (-v71), .int x, .int y, .ref 28], h)) rfl ?_
                        obtain ⟨v73, q_v73, e_v73⟩ := hk_neg (x := v71) (a := v71.toInt) rfl (by omega)
                        rw [q_v73]
                        refine hp_inv (o := 28) (r := []) (as := [.ref 28, .int y, .int x, .int v73]) rfl rfl (hH.1 28 (9, 8) rfl) rfl rfl rfl (px_cbo29 (m := v73) hH hT q_B hB eV hb q_ls hls q_wt hwt ⟨by omega, by omega⟩ ⟨by omega, by omega⟩ ⟨by omega, by omega⟩ q_g0 q_g1 q_g2 (fun r74 e_r74 => ?_))
                        rcases e_r74 with ⟨hr, hbo⟩ | ⟨hr, hbo⟩
                        · obtain rfl : r74 = 1 := hk_eqi.mpr (hr.trans rfl)
                          refine qm_Rp.go 1 (c' := (197, [.ref 28, .int y, .int x, .int g, .int 1, .int v14, .int 1, .int 1, .int v71, .float 0], [], h)) rfl ?_
                          refine px_cl11 hH q_ls hls q_wt hwt eW eH e12 e13 e14 eC eY eI eV hw hi4 hb ⟨by omega, by omega⟩ ⟨by omega, by omega⟩ ⟨by omega, by omega⟩ (fun z => by omega) ⟨by omega, by omega⟩ eb ey_v14 ex_v14 et_v14 (fun I l2 w2 e x28 q5 q6 el2 ew2 x11 x12 x13 x14 x36 x16 x17 x37 => ?_)
                          exact k1 I l2 w2 e x28 q5 q6 ((unl_f ⟨by omega, by omega, by omega, by omega, by omega, by omega⟩ (by rw [el, ek, eb]; omega) (by rw [el, em]; intro z; omega) (by rw [el, ewt]; omega) (okb_t (by rw [el, ewt, ← e_v73]; exact Or.inl hbo))).trans (by rw [el, em])).symm (by rw [el, ek, eb]; exact el2) (by rw [el, ek, eb]; exact ew2) (by rw [el, ek, eb]; exact x11) (by rw [el, ek, eb]; exact x12) (by rw [el, ek, eb]; exact x13) (by rw [el, ek, eb]; exact x14) (by rw [el, ek]; exact x36) (by rw [el, ek, eb]; exact x16) x17 (by rw [el, ek, eb]; exact x37)
                        · obtain rfl : r74 = 0 := hk_eqi.mpr (hr.trans rfl)
                          refine qm_Rp.go 6 (c' := (188, [.ref 28, .int y, .int x, .int g, .int 1, .int v14, .int 1, .int 1, .int v71, .float 0], [.int (-v71), .int x, .int y, .ref 28], h)) rfl ?_
                          rw [q_v73]
                          refine hp_inv (o := 28) (r := []) (as := [.ref 28, .int y, .int x, .int v73]) rfl rfl (hH.1 28 (9, 8) rfl) rfl rfl rfl (px_cnw29 (m := v73) hH hT q_B hB eV hb q_ls hls q_wt hwt ⟨by omega, by omega⟩ ⟨by omega, by omega⟩ ⟨by omega, by omega⟩ (fun r75 e_r75 => ?_))
                          rcases e_r75 with ⟨hr, hnw⟩ | ⟨hr, hnw⟩
                          · obtain rfl : r75 = 1 := hk_eqi.mpr (hr.trans rfl)
                            refine qm_Rp.go 1 (c' := (197, [.ref 28, .int y, .int x, .int g, .int 1, .int v14, .int 1, .int 1, .int v71, .float 0], [], h)) rfl ?_
                            refine px_cl11 hH q_ls hls q_wt hwt eW eH e12 e13 e14 eC eY eI eV hw hi4 hb ⟨by omega, by omega⟩ ⟨by omega, by omega⟩ ⟨by omega, by omega⟩ (fun z => by omega) ⟨by omega, by omega⟩ eb ey_v14 ex_v14 et_v14 (fun I l2 w2 e x28 q5 q6 el2 ew2 x11 x12 x13 x14 x36 x16 x17 x37 => ?_)
                            exact k1 I l2 w2 e x28 q5 q6 ((unl_f ⟨by omega, by omega, by omega, by omega, by omega, by omega⟩ (by rw [el, ek, eb]; omega) (by rw [el, em]; intro z; omega) (by rw [el, ewt]; omega) (okb_t (by rw [el, ewt, ← e_v73]; exact Or.inr hnw))).trans (by rw [el, em])).symm (by rw [el, ek, eb]; exact el2) (by rw [el, ek, eb]; exact ew2) (by rw [el, ek, eb]; exact x11) (by rw [el, ek, eb]; exact x12) (by rw [el, ek, eb]; exact x13) (by rw [el, ek, eb]; exact x14) (by rw [el, ek]; exact x36) (by rw [el, ek, eb]; exact x16) x17 (by rw [el, ek, eb]; exact x37)
                          · obtain rfl : r75 = 0 := hk_eqi.mpr (hr.trans rfl)
                            refine qm_Rp.go 2 (c' := (196, [.ref 28, .int y, .int x, .int g, .int 1, .int v14, .int 1, .int 1, .int v71, .float 0], [.int (-3)], h)) rfl ?_
                            refine qm_Rp.rt (v := (some (.int (-3)))) (h' := h) rfl ?_
                            exact k0 (-3) (unl_e ⟨by omega, by omega, by omega, by omega, by omega, by omega⟩ (by rw [el, ek, eb]; omega) (by rw [el, em]; intro z; omega) (by rw [el, ewt]; omega) (okb_f (by rw [el, ewt, ← e_v73]; exact fun z => z.elim hbo hnw))).symm (by decide)
                      · refine qm_Rp.go 1 (c' := (169, [.ref 28, .int y, .int x, .int g, .int 1, .int v14, .int 1, .int 1, .int v71, .float 0], [.int (-2)], h)) rfl ?_
                        refine qm_Rp.rt (v := (some (.int (-2)))) (h' := h) rfl ?_
                        exact k0 (-2) (unl_d ⟨by omega, by omega, by omega, by omega, by omega, by omega⟩ (by rw [el, ek, eb]; omega) (by rw [el, em]; intro z; omega) (by rw [el, ewt]; omega)).symm (by decide)
                    · refine qm_Rp.go 1 (c' := (97, [.ref 28, .int y, .int x, .int g, .int 1, .int v14, .int 1, .int 1, .float 0, .float 0], [.ref 28], h)) rfl ?_
                      refine hp_getr rfl (hH.1 28 (9, 8) rfl) rfl (hH.2 28 1 (some 15) rfl) ?_
                      refine qm_Rp.go 1 (c' := (101, [.ref 28, .int y, .int x, .int g, .int 1, .int v14, .int 1, .int 1, .float 0, .float 0], [.int g, .ref 15], h)) rfl ?_
                      refine hp_inv (o := 15) (r := []) (as := [.ref 15, .int g]) rfl rfl (hH.1 15 (15, 8) rfl) rfl rfl rfl ?_
                      refine qm_Rp.go 2 (c' := (2, [.ref 15, .int g], [.ref 15, .int 4], h)) rfl ?_
                      refine hp_getr rfl (hH.1 15 (15, 8) rfl) rfl (hH.2 15 2 (some 17) rfl) ?_
                      refine qm_Rp.go 1 (c' := (6, [.ref 15, .int g], [.int g, .ref 17, .int 4], h)) rfl ?_
                      obtain ⟨v76, q_v76⟩ : ∃ v_, h.2.1 17 g.toInt.toNat = v_ := ⟨_, rfl⟩
                      refine hp_ial (v := v76) rfl (hH.1 17 (0, 4) rfl) q_v76 (fun ia_76 ib_76 => ?_)
                      refine qm_Rp.go 0 (c' := (7, [.ref 15, .int g], [.int v76, .int 4], h)) rfl ?_
                      have eh : hi g.toInt.toNat = v76.toInt := by rw [← eI]; exact congrArg Int32.toInt q_v76
                      have bh := hi4 g.toInt.toNat
                      rw [eh] at bh
                      refine qm_Rp.go 1 (c' := (8, [.ref 15, .int g], [.int (4 - v76)], h)) rfl ?_
                      obtain ⟨v78, q_v78, e_v78⟩ := hk_sub (x := 4) (y := v76) (a := 4) (b := v76.toInt) rfl rfl (by omega) (by omega)
                      rw [q_v78]
                      refine qm_Rp.rt (v := (some (.int v78))) (h' := h) rfl ?_
                      refine qm_Rp.go 1 (c' := (106, [.ref 28, .int y, .int x, .int g, .int 1, .int v14, .int 1, .int 1, .float 0, .float 0], [.int 1, .int v78], h)) rfl ?_
                      refine hp_cge (ix := v78.toInt) (iy := 1) rfl rfl rfl (fun z79 => ?_) (fun z79 => ?_)
                      · refine qm_Rp.go 1 (c' := (112, [.ref 28, .int y, .int x, .int g, .int 1, .int v14, .int 1, .int 1, .float 0, .float 0], [.ref 28], h)) rfl ?_
                        refine hp_getr rfl (hH.1 28 (9, 8) rfl) rfl (hH.2 28 0 (some 6) rfl) ?_
                        refine qm_Rp.go 0 (c' := (115, [.ref 28, .int y, .int x, .int g, .int 1, .int v14, .int 1, .int 1, .float 0, .float 0], [.ref 6], h)) rfl ?_
                        refine hp_getr rfl (hH.1 6 (6, 9) rfl) rfl (hH.2 6 1 (some 7) rfl) ?_
                        refine qm_Rp.go 1 (c' := (120, [.ref 28, .int y, .int x, .int g, .int 1, .int v14, .int 1, .int 1, .float 0, .float 0], [.int v14, .ref 7], h)) rfl ?_
                        obtain ⟨v80, q_v80⟩ : ∃ v_, h.2.1 7 v14.toInt.toNat = v_ := ⟨_, rfl⟩
                        refine hp_ial (v := v80) rfl (hH.1 7 (0, 30) rfl) q_v80 (fun ia_80 ib_80 => ?_)
                        refine qm_Rp.go 0 (c' := (121, [.ref 28, .int y, .int x, .int g, .int 1, .int v14, .int 1, .int 1, .float 0, .float 0], [.int v80], h)) rfl ?_
                        have ew_v14 : w v14.toInt.toNat = v80.toInt := by rw [← eW]; exact congrArg Int32.toInt q_v80
                        have bw_v14 := hw v14.toInt.toNat
                        rw [ew_v14] at bw_v14
                        refine qm_Rp.go 5 (c' := (153, [.ref 28, .int y, .int x, .int g, .int 1, .int v14, .int 1, .int 1, .float 0, .float 0], [.int (v80 + 0)], h)) rfl ?_
                        obtain ⟨v82, q_v82, e_v82⟩ := hk_add (x := v80) (y := 0) (a := v80.toInt) (b := 0) rfl rfl (by omega) (by omega)
                        rw [q_v82]
                        refine qm_Rp.go 1 (c' := (155, [.ref 28, .int y, .int x, .int g, .int 1, .int v14, .int 1, .int 1, .int v82, .float 0], [], h)) rfl ?_
                        have ewt : w (c (kV c (16 * y.toInt + 4 * x.toInt + 0)).toNat).toNat + (if mV c tk (16 * y.toInt + 4 * x.toInt + 0) = 2 then w (c (16 * y.toInt + 4 * x.toInt + 0).toNat).toNat else 0) = v82.toInt := by rw [ek, eb, em, if_neg (by decide)]; omega
                        refine qm_Rp.go 2 (c' := (158, [.ref 28, .int y, .int x, .int g, .int 1, .int v14, .int 1, .int 1, .int v82, .float 0], [.ref 28, .int v82], h)) rfl ?_
                        refine hp_getr rfl (hH.1 28 (9, 8) rfl) rfl hT ?_
                        refine qm_Rp.go 0 (c' := (161, [.ref 28, .int y, .int x, .int g, .int 1, .int v14, .int 1, .int 1, .int v82, .float 0], [.ref 29, .int v82], h)) rfl ?_
                        refine hp_geti (v := l) rfl (hH.1 29 (11, 16) rfl) rfl q_l ?_
                        refine qm_Rp.go 0 (c' := (164, [.ref 28, .int y, .int x, .int g, .int 1, .int v14, .int 1, .int 1, .int v82, .float 0], [.int l, .int v82], h)) rfl ?_
                        refine hp_cle (ix := v82.toInt) (iy := l.toInt) rfl rfl rfl (fun z83 => ?_) (fun z83 => ?_)
                        · refine qm_Rp.go 5 (c' := (176, [.ref 28, .int y, .int x, .int g, .int 1, .int v14, .int 1, .int 1, .int v82, .float 0], [.int (-v82), .int x, .int y, .ref 28], h)) rfl ?_
                          obtain ⟨v84, q_v84, e_v84⟩ := hk_neg (x := v82) (a := v82.toInt) rfl (by omega)
                          rw [q_v84]
                          refine hp_inv (o := 28) (r := []) (as := [.ref 28, .int y, .int x, .int v84]) rfl rfl (hH.1 28 (9, 8) rfl) rfl rfl rfl (px_cbo29 (m := v84) hH hT q_B hB eV hb q_ls hls q_wt hwt ⟨by omega, by omega⟩ ⟨by omega, by omega⟩ ⟨by omega, by omega⟩ q_g0 q_g1 q_g2 (fun r85 e_r85 => ?_))
                          rcases e_r85 with ⟨hr, hbo⟩ | ⟨hr, hbo⟩
                          · obtain rfl : r85 = 1 := hk_eqi.mpr (hr.trans rfl)
                            refine qm_Rp.go 1 (c' := (197, [.ref 28, .int y, .int x, .int g, .int 1, .int v14, .int 1, .int 1, .int v82, .float 0], [], h)) rfl ?_
                            refine px_cl11 hH q_ls hls q_wt hwt eW eH e12 e13 e14 eC eY eI eV hw hi4 hb ⟨by omega, by omega⟩ ⟨by omega, by omega⟩ ⟨by omega, by omega⟩ (fun z => by omega) ⟨by omega, by omega⟩ eb ey_v14 ex_v14 et_v14 (fun I l2 w2 e x28 q5 q6 el2 ew2 x11 x12 x13 x14 x36 x16 x17 x37 => ?_)
                            exact k1 I l2 w2 e x28 q5 q6 ((unl_f ⟨by omega, by omega, by omega, by omega, by omega, by omega⟩ (by rw [el, ek, eb]; omega) (by rw [el, em]; intro z; omega) (by rw [el, ewt]; omega) (okb_t (by rw [el, ewt, ← e_v84]; exact Or.inl hbo))).trans (by rw [el, em])).symm (by rw [el, ek, eb]; exact el2) (by rw [el, ek, eb]; exact ew2) (by rw [el, ek, eb]; exact x11) (by rw [el, ek, eb]; exact x12) (by rw [el, ek, eb]; exact x13) (by rw [el, ek, eb]; exact x14) (by rw [el, ek]; exact x36) (by rw [el, ek, eb]; exact x16) x17 (by rw [el, ek, eb]; exact x37)
                          · obtain rfl : r85 = 0 := hk_eqi.mpr (hr.trans rfl)
                            refine qm_Rp.go 6 (c' := (188, [.ref 28, .int y, .int x, .int g, .int 1, .int v14, .int 1, .int 1, .int v82, .float 0], [.int (-v82), .int x, .int y, .ref 28], h)) rfl ?_
                            rw [q_v84]
                            refine hp_inv (o := 28) (r := []) (as := [.ref 28, .int y, .int x, .int v84]) rfl rfl (hH.1 28 (9, 8) rfl) rfl rfl rfl (px_cnw29 (m := v84) hH hT q_B hB eV hb q_ls hls q_wt hwt ⟨by omega, by omega⟩ ⟨by omega, by omega⟩ ⟨by omega, by omega⟩ (fun r86 e_r86 => ?_))
                            rcases e_r86 with ⟨hr, hnw⟩ | ⟨hr, hnw⟩
                            · obtain rfl : r86 = 1 := hk_eqi.mpr (hr.trans rfl)
                              refine qm_Rp.go 1 (c' := (197, [.ref 28, .int y, .int x, .int g, .int 1, .int v14, .int 1, .int 1, .int v82, .float 0], [], h)) rfl ?_
                              refine px_cl11 hH q_ls hls q_wt hwt eW eH e12 e13 e14 eC eY eI eV hw hi4 hb ⟨by omega, by omega⟩ ⟨by omega, by omega⟩ ⟨by omega, by omega⟩ (fun z => by omega) ⟨by omega, by omega⟩ eb ey_v14 ex_v14 et_v14 (fun I l2 w2 e x28 q5 q6 el2 ew2 x11 x12 x13 x14 x36 x16 x17 x37 => ?_)
                              exact k1 I l2 w2 e x28 q5 q6 ((unl_f ⟨by omega, by omega, by omega, by omega, by omega, by omega⟩ (by rw [el, ek, eb]; omega) (by rw [el, em]; intro z; omega) (by rw [el, ewt]; omega) (okb_t (by rw [el, ewt, ← e_v84]; exact Or.inr hnw))).trans (by rw [el, em])).symm (by rw [el, ek, eb]; exact el2) (by rw [el, ek, eb]; exact ew2) (by rw [el, ek, eb]; exact x11) (by rw [el, ek, eb]; exact x12) (by rw [el, ek, eb]; exact x13) (by rw [el, ek, eb]; exact x14) (by rw [el, ek]; exact x36) (by rw [el, ek, eb]; exact x16) x17 (by rw [el, ek, eb]; exact x37)
                            · obtain rfl : r86 = 0 := hk_eqi.mpr (hr.trans rfl)
                              refine qm_Rp.go 2 (c' := (196, [.ref 28, .int y, .int x, .int g, .int 1, .int v14, .int 1, .int 1, .int v82, .float 0], [.int (-3)], h)) rfl ?_
                              refine qm_Rp.rt (v := (some (.int (-3)))) (h' := h) rfl ?_
                              exact k0 (-3) (unl_e ⟨by omega, by omega, by omega, by omega, by omega, by omega⟩ (by rw [el, ek, eb]; omega) (by rw [el, em]; intro z; omega) (by rw [el, ewt]; omega) (okb_f (by rw [el, ewt, ← e_v84]; exact fun z => z.elim hbo hnw))).symm (by decide)
                        · refine qm_Rp.go 1 (c' := (169, [.ref 28, .int y, .int x, .int g, .int 1, .int v14, .int 1, .int 1, .int v82, .float 0], [.int (-2)], h)) rfl ?_
                          refine qm_Rp.rt (v := (some (.int (-2)))) (h' := h) rfl ?_
                          exact k0 (-2) (unl_d ⟨by omega, by omega, by omega, by omega, by omega, by omega⟩ (by rw [el, ek, eb]; omega) (by rw [el, em]; intro z; omega) (by rw [el, ewt]; omega)).symm (by decide)
                      · refine qm_Rp.go 1 (c' := (110, [.ref 28, .int y, .int x, .int g, .int 1, .int v14, .int 1, .int 1, .float 0, .float 0], [.int (-1)], h)) rfl ?_
                        refine qm_Rp.rt (v := (some (.int (-1)))) (h' := h) rfl ?_
                        exact k0 (-1) (unl_c ⟨by omega, by omega, by omega, by omega, by omega, by omega⟩ (by rw [el, ek, eb]; omega) ⟨by omega, by rw [el, em]; omega⟩).symm (by decide)
                  · refine qm_Rp.go 3 (c' := (65, [.ref 28, .int y, .int x, .int g, .int 1, .int v14, .float 0, .float 0, .float 0, .float 0], [.int y, .ref 28, .int 1], h)) rfl ?_
                    refine hp_inv (o := 28) (r := [.int 1]) (as := [.ref 28, .int y]) rfl rfl (hH.1 28 (9, 8) rfl) rfl rfl rfl ?_
                    refine qm_Rp.go 2 (c' := (2, [.ref 28, .int y], [.int y, .ref 28], h)) rfl ?_
                    refine hp_inv (o := 28) (r := []) (as := [.ref 28, .int y]) rfl rfl (hH.1 28 (9, 8) rfl) rfl rfl rfl ?_
                    refine qm_Rp.go 1 (c' := (1, [.ref 28, .int y], [.ref 28], h)) rfl ?_
                    refine hp_geti (v := cv) rfl (hH.1 28 (9, 8) rfl) rfl q_cv ?_
                    refine qm_Rp.go 2 (c' := (6, [.ref 28, .int y], [.int (cv >>> (y &&& 31))], h)) rfl ?_
                    rw [q_v7]
                    refine qm_Rp.go 2 (c' := (8, [.ref 28, .int y], [.int (v7 &&& 1)], h)) rfl ?_
                    rw [q_v8]
                    refine qm_Rp.go 1 (c' := (9, [.ref 28, .int y], [.int 1, .int v8], h)) rfl ?_
                    refine hp_cne (ix := v8.toInt) (iy := 1) rfl rfl rfl (fun z87 => ?_) (fun z87 => by exfalso; omega)
                    refine qm_Rp.go 1 (c' := (17, [.ref 28, .int y], [.int 0], h)) rfl ?_
                    refine qm_Rp.rt (v := (some (.int 0))) (h' := h) rfl ?_
                    refine qm_Rp.go 2 (c' := (13, [.ref 28, .int y], [.int 0], h)) rfl ?_
                    refine qm_Rp.rt (v := (some (.int 0))) (h' := h) rfl ?_
                    refine qm_Rp.go 5 (c' := (80, [.ref 28, .int y, .int x, .int g, .int 1, .int v14, .float 0, .float 0, .float 0, .float 0], [.int 0], h)) rfl ?_
                    have em : mV c tk (16 * y.toInt + 4 * x.toInt + 0) = 2 := mV_2 (by rw [ec2]; omega) (by rw [ec2, est]; omega)
                    refine qm_Rp.go 9 (c' := (93, [.ref 28, .int y, .int x, .int g, .int 1, .int v14, .int 0, .int 2, .float 0, .float 0], [.int (-1), .int g], h)) rfl ?_
                    refine hp_ceq (ix := g.toInt) (iy := (-1)) rfl rfl rfl (fun z88 => ?_) (fun z88 => ?_)
                    · refine qm_Rp.go 1 (c' := (112, [.ref 28, .int y, .int x, .int g, .int 1, .int v14, .int 0, .int 2, .float 0, .float 0], [.ref 28], h)) rfl ?_
                      refine hp_getr rfl (hH.1 28 (9, 8) rfl) rfl (hH.2 28 0 (some 6) rfl) ?_
                      refine qm_Rp.go 0 (c' := (115, [.ref 28, .int y, .int x, .int g, .int 1, .int v14, .int 0, .int 2, .float 0, .float 0], [.ref 6], h)) rfl ?_
                      refine hp_getr rfl (hH.1 6 (6, 9) rfl) rfl (hH.2 6 1 (some 7) rfl) ?_
                      refine qm_Rp.go 1 (c' := (120, [.ref 28, .int y, .int x, .int g, .int 1, .int v14, .int 0, .int 2, .float 0, .float 0], [.int v14, .ref 7], h)) rfl ?_
                      obtain ⟨v89, q_v89⟩ : ∃ v_, h.2.1 7 v14.toInt.toNat = v_ := ⟨_, rfl⟩
                      refine hp_ial (v := v89) rfl (hH.1 7 (0, 30) rfl) q_v89 (fun ia_89 ib_89 => ?_)
                      refine qm_Rp.go 0 (c' := (121, [.ref 28, .int y, .int x, .int g, .int 1, .int v14, .int 0, .int 2, .float 0, .float 0], [.int v89], h)) rfl ?_
                      have ew_v14 : w v14.toInt.toNat = v89.toInt := by rw [← eW]; exact congrArg Int32.toInt q_v89
                      have bw_v14 := hw v14.toInt.toNat
                      rw [ew_v14] at bw_v14
                      refine qm_Rp.go 4 (c' := (129, [.ref 28, .int y, .int x, .int g, .int 1, .int v14, .int 0, .int 2, .float 0, .float 0], [.ref 28, .int v89], h)) rfl ?_
                      refine hp_getr rfl (hH.1 28 (9, 8) rfl) rfl (hH.2 28 0 (some 6) rfl) ?_
                      refine qm_Rp.go 0 (c' := (132, [.ref 28, .int y, .int x, .int g, .int 1, .int v14, .int 0, .int 2, .float 0, .float 0], [.ref 6, .int v89], h)) rfl ?_
                      refine hp_getr rfl (hH.1 6 (6, 9) rfl) rfl (hH.2 6 1 (some 7) rfl) ?_
                      refine qm_Rp.go 1 (c' := (136, [.ref 28, .int y, .int x, .int g, .int 1, .int v14, .int 0, .int 2, .float 0, .float 0], [.ref 28, .ref 7, .int v89], h)) rfl ?_
                      refine hp_getr rfl (hH.1 28 (9, 8) rfl) rfl (hH.2 28 3 (some 36) rfl) ?_
                      refine qm_Rp.go 3 (c' := (143, [.ref 28, .int y, .int x, .int g, .int 1, .int v14, .int 0, .int 2, .float 0, .float 0], [.int 0, .int x, .int y, .ref 36, .ref 7, .int v89], h)) rfl ?_
                      refine qm_Rp.call (j := 75) (as := [.int y, .int x, .int 0]) (c' := (146, [.ref 28, .int y, .int x, .int g, .int 1, .int v14, .int 0, .int 2, .float 0, .float 0], [.ref 36, .ref 7, .int v89], h)) rfl rfl ?_
                      refine qm_Rp.go 3 (c' := (3, [.int y, .int x, .int 0], [.int (y * 4)], h)) rfl ?_
                      rw [q_v10]
                      refine qm_Rp.go 2 (c' := (5, [.int y, .int x, .int 0], [.int (v10 + x)], h)) rfl ?_
                      rw [q_v11]
                      refine qm_Rp.go 2 (c' := (7, [.int y, .int x, .int 0], [.int (v11 * 4)], h)) rfl ?_
                      rw [q_v12]
                      refine qm_Rp.go 2 (c' := (9, [.int y, .int x, .int 0], [.int (v12 + 0)], h)) rfl ?_
                      obtain ⟨v91, q_v91, e_v91⟩ := hk_add (x := v12) (y := 0) (a := v12.toInt) (b := 0) rfl rfl (by omega) (by omega)
                      rw [q_v91]
                      refine qm_Rp.rt (v := (some (.int v91))) (h' := h) rfl ?_
                      refine qm_Rp.go 0 (c' := (146, [.ref 28, .int y, .int x, .int g, .int 1, .int v14, .int 0, .int 2, .float 0, .float 0], [.int v91, .ref 36, .ref 7, .int v89], h)) rfl ?_
                      obtain ⟨v92, q_v92⟩ : ∃ v_, h.2.1 36 v91.toInt.toNat = v_ := ⟨_, rfl⟩
                      refine hp_ial (v := v92) rfl (hH.1 36 (0, 80) rfl) q_v92 (fun ia_92 ib_92 => ?_)
                      refine qm_Rp.go 0 (c' := (147, [.ref 28, .int y, .int x, .int g, .int 1, .int v14, .int 0, .int 2, .float 0, .float 0], [.int v92, .ref 7, .int v89], h)) rfl ?_
                      have etw : c (16 * y.toInt + 4 * x.toInt + 0).toNat = v92.toInt := by rw [← eC, show (16 * y.toInt + 4 * x.toInt + 0).toNat = v91.toInt.toNat by omega]; exact congrArg Int32.toInt q_v92
                      have betw := hc (16 * y.toInt + 4 * x.toInt + 0).toNat
                      rw [etw] at betw
                      have t0 := hb2 ((16 * y.toInt + 4 * x.toInt + 0).toNat / 2) (by omega) (by rw [show 2 * ((16 * y.toInt + 4 * x.toInt + 0).toNat / 2) + 1 = (16 * y.toInt + 4 * x.toInt + 1).toNat by omega, ec1]; omega)
                      rw [show 2 * ((16 * y.toInt + 4 * x.toInt + 0).toNat / 2) = (16 * y.toInt + 4 * x.toInt + 0).toNat by omega, etw] at t0
                      have ab_v92 := hA (16 * y.toInt + 4 * x.toInt + 0).toNat (by omega) (by rw [etw]; omega)
                      rw [etw] at ab_v92
                      have rb_v92 := hR v92.toInt.toNat ab_v92.1
                      have ey_v92 : yb v92.toInt.toNat = y.toInt := by omega
                      have ex_v92 : rb v92.toInt.toNat = x.toInt := by omega
                      have et_v92 : tb v92.toInt.toNat = 0 := by omega
                      have hne : v14.toInt.toNat ≠ v92.toInt.toNat := fun z => by rw [z] at et_v14; omega
                      obtain ⟨v94, q_v94⟩ : ∃ v_, h.2.1 7 v92.toInt.toNat = v_ := ⟨_, rfl⟩
                      refine hp_ial (v := v94) rfl (hH.1 7 (0, 30) rfl) q_v94 (fun ia_94 ib_94 => ?_)
                      refine qm_Rp.go 0 (c' := (148, [.ref 28, .int y, .int x, .int g, .int 1, .int v14, .int 0, .int 2, .float 0, .float 0], [.int v94, .int v89], h)) rfl ?_
                      have ew_v92 : w v92.toInt.toNat = v94.toInt := by rw [← eW]; exact congrArg Int32.toInt q_v94
                      have bw_v92 := hw v92.toInt.toNat
                      rw [ew_v92] at bw_v92
                      refine qm_Rp.go 2 (c' := (153, [.ref 28, .int y, .int x, .int g, .int 1, .int v14, .int 0, .int 2, .float 0, .float 0], [.int (v89 + v94)], h)) rfl ?_
                      obtain ⟨v96, q_v96, e_v96⟩ := hk_add (x := v89) (y := v94) (a := v89.toInt) (b := v94.toInt) rfl rfl (by omega) (by omega)
                      rw [q_v96]
                      refine qm_Rp.go 1 (c' := (155, [.ref 28, .int y, .int x, .int g, .int 1, .int v14, .int 0, .int 2, .int v96, .float 0], [], h)) rfl ?_
                      have ewt : w (c (kV c (16 * y.toInt + 4 * x.toInt + 0)).toNat).toNat + (if mV c tk (16 * y.toInt + 4 * x.toInt + 0) = 2 then w (c (16 * y.toInt + 4 * x.toInt + 0).toNat).toNat else 0) = v96.toInt := by rw [ek, eb, em, if_pos rfl, etw]; omega
                      refine qm_Rp.go 2 (c' := (158, [.ref 28, .int y, .int x, .int g, .int 1, .int v14, .int 0, .int 2, .int v96, .float 0], [.ref 28, .int v96], h)) rfl ?_
                      refine hp_getr rfl (hH.1 28 (9, 8) rfl) rfl hT ?_
                      refine qm_Rp.go 0 (c' := (161, [.ref 28, .int y, .int x, .int g, .int 1, .int v14, .int 0, .int 2, .int v96, .float 0], [.ref 29, .int v96], h)) rfl ?_
                      refine hp_geti (v := l) rfl (hH.1 29 (11, 16) rfl) rfl q_l ?_
                      refine qm_Rp.go 0 (c' := (164, [.ref 28, .int y, .int x, .int g, .int 1, .int v14, .int 0, .int 2, .int v96, .float 0], [.int l, .int v96], h)) rfl ?_
                      refine hp_cle (ix := v96.toInt) (iy := l.toInt) rfl rfl rfl (fun z97 => ?_) (fun z97 => ?_)
                      · refine qm_Rp.go 5 (c' := (176, [.ref 28, .int y, .int x, .int g, .int 1, .int v14, .int 0, .int 2, .int v96, .float 0], [.int (-v96), .int x, .int y, .ref 28], h)) rfl ?_
                        obtain ⟨v98, q_v98, e_v98⟩ := hk_neg (x := v96) (a := v96.toInt) rfl (by omega)
                        rw [q_v98]
                        refine hp_inv (o := 28) (r := []) (as := [.ref 28, .int y, .int x, .int v98]) rfl rfl (hH.1 28 (9, 8) rfl) rfl rfl rfl (px_cbo29 (m := v98) hH hT q_B hB eV hb q_ls hls q_wt hwt ⟨by omega, by omega⟩ ⟨by omega, by omega⟩ ⟨by omega, by omega⟩ q_g0 q_g1 q_g2 (fun r99 e_r99 => ?_))
                        rcases e_r99 with ⟨hr, hbo⟩ | ⟨hr, hbo⟩
                        · obtain rfl : r99 = 1 := hk_eqi.mpr (hr.trans rfl)
                          refine qm_Rp.go 1 (c' := (197, [.ref 28, .int y, .int x, .int g, .int 1, .int v14, .int 0, .int 2, .int v96, .float 0], [], h)) rfl ?_
                          refine px_cl01 hH q_ls hls q_wt hwt eW eH e12 e13 e14 eC eY eI eV hw hi4 hb ⟨by omega, by omega⟩ ⟨by omega, by omega⟩ ⟨by omega, by omega⟩ (fun z => by omega) ⟨by omega, by omega⟩ eb ey_v14 ex_v14 et_v14 ⟨by omega, by omega⟩ etw ey_v92 ex_v92 et_v92 hne (fun I l2 w2 e x28 q5 q6 el2 ew2 x11 x12 x13 x14 x36 x16 x17 x37 => ?_)
                          exact k2 I l2 w2 e x28 q5 q6 ((unl_f ⟨by omega, by omega, by omega, by omega, by omega, by omega⟩ (by rw [el, ek, eb]; omega) (by rw [el, em]; intro z; omega) (by rw [el, ewt]; omega) (okb_t (by rw [el, ewt, ← e_v98]; exact Or.inl hbo))).trans (by rw [el, em])).symm (by rw [el, ec2, etw]; exact el2) (by rw [el, ec2, etw]; exact ew2) (by rw [el, ec2, etw]; exact x11) (by rw [el, ec2, etw]; exact x12) (by rw [el, ec2, etw]; exact x13) (by rw [el, ec2, etw]; exact x14) (by rw [el]; rw [show (16 * y.toInt + 4 * x.toInt + 0 + 1) = 16 * y.toInt + 4 * x.toInt + 1 by omega]; exact x36) (by rw [el, ec2, etw]; exact x16) x17 (by rw [el, ec2, etw]; exact x37)
                        · obtain rfl : r99 = 0 := hk_eqi.mpr (hr.trans rfl)
                          refine qm_Rp.go 6 (c' := (188, [.ref 28, .int y, .int x, .int g, .int 1, .int v14, .int 0, .int 2, .int v96, .float 0], [.int (-v96), .int x, .int y, .ref 28], h)) rfl ?_
                          rw [q_v98]
                          refine hp_inv (o := 28) (r := []) (as := [.ref 28, .int y, .int x, .int v98]) rfl rfl (hH.1 28 (9, 8) rfl) rfl rfl rfl (px_cnw29 (m := v98) hH hT q_B hB eV hb q_ls hls q_wt hwt ⟨by omega, by omega⟩ ⟨by omega, by omega⟩ ⟨by omega, by omega⟩ (fun r100 e_r100 => ?_))
                          rcases e_r100 with ⟨hr, hnw⟩ | ⟨hr, hnw⟩
                          · obtain rfl : r100 = 1 := hk_eqi.mpr (hr.trans rfl)
                            refine qm_Rp.go 1 (c' := (197, [.ref 28, .int y, .int x, .int g, .int 1, .int v14, .int 0, .int 2, .int v96, .float 0], [], h)) rfl ?_
                            refine px_cl01 hH q_ls hls q_wt hwt eW eH e12 e13 e14 eC eY eI eV hw hi4 hb ⟨by omega, by omega⟩ ⟨by omega, by omega⟩ ⟨by omega, by omega⟩ (fun z => by omega) ⟨by omega, by omega⟩ eb ey_v14 ex_v14 et_v14 ⟨by omega, by omega⟩ etw ey_v92 ex_v92 et_v92 hne (fun I l2 w2 e x28 q5 q6 el2 ew2 x11 x12 x13 x14 x36 x16 x17 x37 => ?_)
                            exact k2 I l2 w2 e x28 q5 q6 ((unl_f ⟨by omega, by omega, by omega, by omega, by omega, by omega⟩ (by rw [el, ek, eb]; omega) (by rw [el, em]; intro z; omega) (by rw [el, ewt]; omega) (okb_t (by rw [el, ewt, ← e_v98]; exact Or.inr hnw))).trans (by rw [el, em])).symm (by rw [el, ec2, etw]; exact el2) (by rw [el, ec2, etw]; exact ew2) (by rw [el, ec2, etw]; exact x11) (by rw [el, ec2, etw]; exact x12) (by rw [el, ec2, etw]; exact x13) (by rw [el, ec2, etw]; exact x14) (by rw [el]; rw [show (16 * y.toInt + 4 * x.toInt + 0 + 1) = 16 * y.toInt + 4 * x.toInt + 1 by omega]; exact x36) (by rw [el, ec2, etw]; exact x16) x17 (by rw [el, ec2, etw]; exact x37)
                          · obtain rfl : r100 = 0 := hk_eqi.mpr (hr.trans rfl)
                            refine qm_Rp.go 2 (c' := (196, [.ref 28, .int y, .int x, .int g, .int 1, .int v14, .int 0, .int 2, .int v96, .float 0], [.int (-3)], h)) rfl ?_
                            refine qm_Rp.rt (v := (some (.int (-3)))) (h' := h) rfl ?_
                            exact k0 (-3) (unl_e ⟨by omega, by omega, by omega, by omega, by omega, by omega⟩ (by rw [el, ek, eb]; omega) (by rw [el, em]; intro z; omega) (by rw [el, ewt]; omega) (okb_f (by rw [el, ewt, ← e_v98]; exact fun z => z.elim hbo hnw))).symm (by decide)
                      · refine qm_Rp.go 1 (c' := (169, [.ref 28, .int y, .int x, .int g, .int 1, .int v14, .int 0, .int 2, .int v96, .float 0], [.int (-2)], h)) rfl ?_
                        refine qm_Rp.rt (v := (some (.int (-2)))) (h' := h) rfl ?_
                        exact k0 (-2) (unl_d ⟨by omega, by omega, by omega, by omega, by omega, by omega⟩ (by rw [el, ek, eb]; omega) (by rw [el, em]; intro z; omega) (by rw [el, ewt]; omega)).symm (by decide)
                    · refine qm_Rp.go 1 (c' := (97, [.ref 28, .int y, .int x, .int g, .int 1, .int v14, .int 0, .int 2, .float 0, .float 0], [.ref 28], h)) rfl ?_
                      refine hp_getr rfl (hH.1 28 (9, 8) rfl) rfl (hH.2 28 1 (some 15) rfl) ?_
                      refine qm_Rp.go 1 (c' := (101, [.ref 28, .int y, .int x, .int g, .int 1, .int v14, .int 0, .int 2, .float 0, .float 0], [.int g, .ref 15], h)) rfl ?_
                      refine hp_inv (o := 15) (r := []) (as := [.ref 15, .int g]) rfl rfl (hH.1 15 (15, 8) rfl) rfl rfl rfl ?_
                      refine qm_Rp.go 2 (c' := (2, [.ref 15, .int g], [.ref 15, .int 4], h)) rfl ?_
                      refine hp_getr rfl (hH.1 15 (15, 8) rfl) rfl (hH.2 15 2 (some 17) rfl) ?_
                      refine qm_Rp.go 1 (c' := (6, [.ref 15, .int g], [.int g, .ref 17, .int 4], h)) rfl ?_
                      obtain ⟨v101, q_v101⟩ : ∃ v_, h.2.1 17 g.toInt.toNat = v_ := ⟨_, rfl⟩
                      refine hp_ial (v := v101) rfl (hH.1 17 (0, 4) rfl) q_v101 (fun ia_101 ib_101 => ?_)
                      refine qm_Rp.go 0 (c' := (7, [.ref 15, .int g], [.int v101, .int 4], h)) rfl ?_
                      have eh : hi g.toInt.toNat = v101.toInt := by rw [← eI]; exact congrArg Int32.toInt q_v101
                      have bh := hi4 g.toInt.toNat
                      rw [eh] at bh
                      refine qm_Rp.go 1 (c' := (8, [.ref 15, .int g], [.int (4 - v101)], h)) rfl ?_
                      obtain ⟨v103, q_v103, e_v103⟩ := hk_sub (x := 4) (y := v101) (a := 4) (b := v101.toInt) rfl rfl (by omega) (by omega)
                      rw [q_v103]
                      refine qm_Rp.rt (v := (some (.int v103))) (h' := h) rfl ?_
                      refine qm_Rp.go 1 (c' := (106, [.ref 28, .int y, .int x, .int g, .int 1, .int v14, .int 0, .int 2, .float 0, .float 0], [.int 2, .int v103], h)) rfl ?_
                      refine hp_cge (ix := v103.toInt) (iy := 2) rfl rfl rfl (fun z104 => ?_) (fun z104 => ?_)
                      · refine qm_Rp.go 1 (c' := (112, [.ref 28, .int y, .int x, .int g, .int 1, .int v14, .int 0, .int 2, .float 0, .float 0], [.ref 28], h)) rfl ?_
                        refine hp_getr rfl (hH.1 28 (9, 8) rfl) rfl (hH.2 28 0 (some 6) rfl) ?_
                        refine qm_Rp.go 0 (c' := (115, [.ref 28, .int y, .int x, .int g, .int 1, .int v14, .int 0, .int 2, .float 0, .float 0], [.ref 6], h)) rfl ?_
                        refine hp_getr rfl (hH.1 6 (6, 9) rfl) rfl (hH.2 6 1 (some 7) rfl) ?_
                        refine qm_Rp.go 1 (c' := (120, [.ref 28, .int y, .int x, .int g, .int 1, .int v14, .int 0, .int 2, .float 0, .float 0], [.int v14, .ref 7], h)) rfl ?_
                        obtain ⟨v105, q_v105⟩ : ∃ v_, h.2.1 7 v14.toInt.toNat = v_ := ⟨_, rfl⟩
                        refine hp_ial (v := v105) rfl (hH.1 7 (0, 30) rfl) q_v105 (fun ia_105 ib_105 => ?_)
                        refine qm_Rp.go 0 (c' := (121, [.ref 28, .int y, .int x, .int g, .int 1, .int v14, .int 0, .int 2, .float 0, .float 0], [.int v105], h)) rfl ?_
                        have ew_v14 : w v14.toInt.toNat = v105.toInt := by rw [← eW]; exact congrArg Int32.toInt q_v105
                        have bw_v14 := hw v14.toInt.toNat
                        rw [ew_v14] at bw_v14
                        refine qm_Rp.go 4 (c' := (129, [.ref 28, .int y, .int x, .int g, .int 1, .int v14, .int 0, .int 2, .float 0, .float 0], [.ref 28, .int v105], h)) rfl ?_
                        refine hp_getr rfl (hH.1 28 (9, 8) rfl) rfl (hH.2 28 0 (some 6) rfl) ?_
                        refine qm_Rp.go 0 (c' := (132, [.ref 28, .int y, .int x, .int g, .int 1, .int v14, .int 0, .int 2, .float 0, .float 0], [.ref 6, .int v105], h)) rfl ?_
                        refine hp_getr rfl (hH.1 6 (6, 9) rfl) rfl (hH.2 6 1 (some 7) rfl) ?_
                        refine qm_Rp.go 1 (c' := (136, [.ref 28, .int y, .int x, .int g, .int 1, .int v14, .int 0, .int 2, .float 0, .float 0], [.ref 28, .ref 7, .int v105], h)) rfl ?_
                        refine hp_getr rfl (hH.1 28 (9, 8) rfl) rfl (hH.2 28 3 (some 36) rfl) ?_
                        refine qm_Rp.go 3 (c' := (143, [.ref 28, .int y, .int x, .int g, .int 1, .int v14, .int 0, .int 2, .float 0, .float 0], [.int 0, .int x, .int y, .ref 36, .ref 7, .int v105], h)) rfl ?_
                        refine qm_Rp.call (j := 75) (as := [.int y, .int x, .int 0]) (c' := (146, [.ref 28, .int y, .int x, .int g, .int 1, .int v14, .int 0, .int 2, .float 0, .float 0], [.ref 36, .ref 7, .int v105], h)) rfl rfl ?_
                        refine qm_Rp.go 3 (c' := (3, [.int y, .int x, .int 0], [.int (y * 4)], h)) rfl ?_
                        rw [q_v10]
                        refine qm_Rp.go 2 (c' := (5, [.int y, .int x, .int 0], [.int (v10 + x)], h)) rfl ?_
                        rw [q_v11]
                        refine qm_Rp.go 2 (c' := (7, [.int y, .int x, .int 0], [.int (v11 * 4)], h)) rfl ?_
                        rw [q_v12]
                        refine qm_Rp.go 2 (c' := (9, [.int y, .int x, .int 0], [.int (v12 + 0)], h)) rfl ?_
                        obtain ⟨v107, q_v107, e_v107⟩ := hk_add (x := v12) (y := 0) (a := v12.toInt) (b := 0) rfl rfl (by omega) (by omega)
                        rw [q_v107]
                        refine qm_Rp.rt (v := (some (.int v107))) (h' := h) rfl ?_
                        refine qm_Rp.go 0 (c' := (146, [.ref 28, .int y, .int x, .int g, .int 1, .int v14, .int 0, .int 2, .float 0, .float 0], [.int v107, .ref 36, .ref 7, .int v105], h)) rfl ?_
                        obtain ⟨v108, q_v108⟩ : ∃ v_, h.2.1 36 v107.toInt.toNat = v_ := ⟨_, rfl⟩
                        refine hp_ial (v := v108) rfl (hH.1 36 (0, 80) rfl) q_v108 (fun ia_108 ib_108 => ?_)
                        refine qm_Rp.go 0 (c' := (147, [.ref 28, .int y, .int x, .int g, .int 1, .int v14, .int 0, .int 2, .float 0, .float 0], [.int v108, .ref 7, .int v105], h)) rfl ?_
                        have etw : c (16 * y.toInt + 4 * x.toInt + 0).toNat = v108.toInt := by rw [← eC, show (16 * y.toInt + 4 * x.toInt + 0).toNat = v107.toInt.toNat by omega]; exact congrArg Int32.toInt q_v108
                        have betw := hc (16 * y.toInt + 4 * x.toInt + 0).toNat
                        rw [etw] at betw
                        have t0 := hb2 ((16 * y.toInt + 4 * x.toInt + 0).toNat / 2) (by omega) (by rw [show 2 * ((16 * y.toInt + 4 * x.toInt + 0).toNat / 2) + 1 = (16 * y.toInt + 4 * x.toInt + 1).toNat by omega, ec1]; omega)
                        rw [show 2 * ((16 * y.toInt + 4 * x.toInt + 0).toNat / 2) = (16 * y.toInt + 4 * x.toInt + 0).toNat by omega, etw] at t0
                        have ab_v108 := hA (16 * y.toInt + 4 * x.toInt + 0).toNat (by omega) (by rw [etw]; omega)
                        rw [etw] at ab_v108
                        have rb_v108 := hR v108.toInt.toNat ab_v108.1
                        have ey_v108 : yb v108.toInt.toNat = y.toInt := by omega
                        have ex_v108 : rb v108.toInt.toNat = x.toInt := by omega
                        have et_v108 : tb v108.toInt.toNat = 0 := by omega
                        have hne : v14.toInt.toNat ≠ v108.toInt.toNat := fun z => by rw [z] at et_v14; omega
                        obtain ⟨v110, q_v110⟩ : ∃ v_, h.2.1 7 v108.toInt.toNat = v_ := ⟨_, rfl⟩
                        refine hp_ial (v := v110) rfl (hH.1 7 (0, 30) rfl) q_v110 (fun ia_110 ib_110 => ?_)
                        refine qm_Rp.go 0 (c' := (148, [.ref 28, .int y, .int x, .int g, .int 1, .int v14, .int 0, .int 2, .float 0, .float 0], [.int v110, .int v105], h)) rfl ?_
                        have ew_v108 : w v108.toInt.toNat = v110.toInt := by rw [← eW]; exact congrArg Int32.toInt q_v110
                        have bw_v108 := hw v108.toInt.toNat
                        rw [ew_v108] at bw_v108
                        refine qm_Rp.go 2 (c' := (153, [.ref 28, .int y, .int x, .int g, .int 1, .int v14, .int 0, .int 2, .float 0, .float 0], [.int (v105 + v110)], h)) rfl ?_
                        obtain ⟨v112, q_v112, e_v112⟩ := hk_add (x := v105) (y := v110) (a := v105.toInt) (b := v110.toInt) rfl rfl (by omega) (by omega)
                        rw [q_v112]
                        refine qm_Rp.go 1 (c' := (155, [.ref 28, .int y, .int x, .int g, .int 1, .int v14, .int 0, .int 2, .int v112, .float 0], [], h)) rfl ?_
                        have ewt : w (c (kV c (16 * y.toInt + 4 * x.toInt + 0)).toNat).toNat + (if mV c tk (16 * y.toInt + 4 * x.toInt + 0) = 2 then w (c (16 * y.toInt + 4 * x.toInt + 0).toNat).toNat else 0) = v112.toInt := by rw [ek, eb, em, if_pos rfl, etw]; omega
                        refine qm_Rp.go 2 (c' := (158, [.ref 28, .int y, .int x, .int g, .int 1, .int v14, .int 0, .int 2, .int v112, .float 0], [.ref 28, .int v112], h)) rfl ?_
                        refine hp_getr rfl (hH.1 28 (9, 8) rfl) rfl hT ?_
                        refine qm_Rp.go 0 (c' := (161, [.ref 28, .int y, .int x, .int g, .int 1, .int v14, .int 0, .int 2, .int v112, .float 0], [.ref 29, .int v112], h)) rfl ?_
                        refine hp_geti (v := l) rfl (hH.1 29 (11, 16) rfl) rfl q_l ?_
                        refine qm_Rp.go 0 (c' := (164, [.ref 28, .int y, .int x, .int g, .int 1, .int v14, .int 0, .int 2, .int v112, .float 0], [.int l, .int v112], h)) rfl ?_
                        refine hp_cle (ix := v112.toInt) (iy := l.toInt) rfl rfl rfl (fun z113 => ?_) (fun z113 => ?_)
                        · refine qm_Rp.go 5 (c' := (176, [.ref 28, .int y, .int x, .int g, .int 1, .int v14, .int 0, .int 2, .int v112, .float 0], [.int (-v112), .int x, .int y, .ref 28], h)) rfl ?_
                          obtain ⟨v114, q_v114, e_v114⟩ := hk_neg (x := v112) (a := v112.toInt) rfl (by omega)
                          rw [q_v114]
                          refine hp_inv (o := 28) (r := []) (as := [.ref 28, .int y, .int x, .int v114]) rfl rfl (hH.1 28 (9, 8) rfl) rfl rfl rfl (px_cbo29 (m := v114) hH hT q_B hB eV hb q_ls hls q_wt hwt ⟨by omega, by omega⟩ ⟨by omega, by omega⟩ ⟨by omega, by omega⟩ q_g0 q_g1 q_g2 (fun r115 e_r115 => ?_))
                          rcases e_r115 with ⟨hr, hbo⟩ | ⟨hr, hbo⟩
                          · obtain rfl : r115 = 1 := hk_eqi.mpr (hr.trans rfl)
                            refine qm_Rp.go 1 (c' := (197, [.ref 28, .int y, .int x, .int g, .int 1, .int v14, .int 0, .int 2, .int v112, .float 0], [], h)) rfl ?_
                            refine px_cl01 hH q_ls hls q_wt hwt eW eH e12 e13 e14 eC eY eI eV hw hi4 hb ⟨by omega, by omega⟩ ⟨by omega, by omega⟩ ⟨by omega, by omega⟩ (fun z => by omega) ⟨by omega, by omega⟩ eb ey_v14 ex_v14 et_v14 ⟨by omega, by omega⟩ etw ey_v108 ex_v108 et_v108 hne (fun I l2 w2 e x28 q5 q6 el2 ew2 x11 x12 x13 x14 x36 x16 x17 x37 => ?_)
                            exact k2 I l2 w2 e x28 q5 q6 ((unl_f ⟨by omega, by omega, by omega, by omega, by omega, by omega⟩ (by rw [el, ek, eb]; omega) (by rw [el, em]; intro z; omega) (by rw [el, ewt]; omega) (okb_t (by rw [el, ewt, ← e_v114]; exact Or.inl hbo))).trans (by rw [el, em])).symm (by rw [el, ec2, etw]; exact el2) (by rw [el, ec2, etw]; exact ew2) (by rw [el, ec2, etw]; exact x11) (by rw [el, ec2, etw]; exact x12) (by rw [el, ec2, etw]; exact x13) (by rw [el, ec2, etw]; exact x14) (by rw [el]; rw [show (16 * y.toInt + 4 * x.toInt + 0 + 1) = 16 * y.toInt + 4 * x.toInt + 1 by omega]; exact x36) (by rw [el, ec2, etw]; exact x16) x17 (by rw [el, ec2, etw]; exact x37)
                          · obtain rfl : r115 = 0 := hk_eqi.mpr (hr.trans rfl)
                            refine qm_Rp.go 6 (c' := (188, [.ref 28, .int y, .int x, .int g, .int 1, .int v14, .int 0, .int 2, .int v112, .float 0], [.int (-v112), .int x, .int y, .ref 28], h)) rfl ?_
                            rw [q_v114]
                            refine hp_inv (o := 28) (r := []) (as := [.ref 28, .int y, .int x, .int v114]) rfl rfl (hH.1 28 (9, 8) rfl) rfl rfl rfl (px_cnw29 (m := v114) hH hT q_B hB eV hb q_ls hls q_wt hwt ⟨by omega, by omega⟩ ⟨by omega, by omega⟩ ⟨by omega, by omega⟩ (fun r116 e_r116 => ?_))
                            rcases e_r116 with ⟨hr, hnw⟩ | ⟨hr, hnw⟩
                            · obtain rfl : r116 = 1 := hk_eqi.mpr (hr.trans rfl)
                              refine qm_Rp.go 1 (c' := (197, [.ref 28, .int y, .int x, .int g, .int 1, .int v14, .int 0, .int 2, .int v112, .float 0], [], h)) rfl ?_
                              refine px_cl01 hH q_ls hls q_wt hwt eW eH e12 e13 e14 eC eY eI eV hw hi4 hb ⟨by omega, by omega⟩ ⟨by omega, by omega⟩ ⟨by omega, by omega⟩ (fun z => by omega) ⟨by omega, by omega⟩ eb ey_v14 ex_v14 et_v14 ⟨by omega, by omega⟩ etw ey_v108 ex_v108 et_v108 hne (fun I l2 w2 e x28 q5 q6 el2 ew2 x11 x12 x13 x14 x36 x16 x17 x37 => ?_)
                              exact k2 I l2 w2 e x28 q5 q6 ((unl_f ⟨by omega, by omega, by omega, by omega, by omega, by omega⟩ (by rw [el, ek, eb]; omega) (by rw [el, em]; intro z; omega) (by rw [el, ewt]; omega) (okb_t (by rw [el, ewt, ← e_v114]; exact Or.inr hnw))).trans (by rw [el, em])).symm (by rw [el, ec2, etw]; exact el2) (by rw [el, ec2, etw]; exact ew2) (by rw [el, ec2, etw]; exact x11) (by rw [el, ec2, etw]; exact x12) (by rw [el, ec2, etw]; exact x13) (by rw [el, ec2, etw]; exact x14) (by rw [el]; rw [show (16 * y.toInt + 4 * x.toInt + 0 + 1) = 16 * y.toInt + 4 * x.toInt + 1 by omega]; exact x36) (by rw [el, ec2, etw]; exact x16) x17 (by rw [el, ec2, etw]; exact x37)
                            · obtain rfl : r116 = 0 := hk_eqi.mpr (hr.trans rfl)
                              refine qm_Rp.go 2 (c' := (196, [.ref 28, .int y, .int x, .int g, .int 1, .int v14, .int 0, .int 2, .int v112, .float 0], [.int (-3)], h)) rfl ?_
                              refine qm_Rp.rt (v := (some (.int (-3)))) (h' := h) rfl ?_
                              exact k0 (-3) (unl_e ⟨by omega, by omega, by omega, by omega, by omega, by omega⟩ (by rw [el, ek, eb]; omega) (by rw [el, em]; intro z; omega) (by rw [el, ewt]; omega) (okb_f (by rw [el, ewt, ← e_v114]; exact fun z => z.elim hbo hnw))).symm (by decide)
                        · refine qm_Rp.go 1 (c' := (169, [.ref 28, .int y, .int x, .int g, .int 1, .int v14, .int 0, .int 2, .int v112, .float 0], [.int (-2)], h)) rfl ?_
                          refine qm_Rp.rt (v := (some (.int (-2)))) (h' := h) rfl ?_
                          exact k0 (-2) (unl_d ⟨by omega, by omega, by omega, by omega, by omega, by omega⟩ (by rw [el, ek, eb]; omega) (by rw [el, em]; intro z; omega) (by rw [el, ewt]; omega)).symm (by decide)
                      · refine qm_Rp.go 1 (c' := (110, [.ref 28, .int y, .int x, .int g, .int 1, .int v14, .int 0, .int 2, .float 0, .float 0], [.int (-1)], h)) rfl ?_
                        refine qm_Rp.rt (v := (some (.int (-1)))) (h' := h) rfl ?_
                        exact k0 (-1) (unl_c ⟨by omega, by omega, by omega, by omega, by omega, by omega⟩ (by rw [el, ek, eb]; omega) ⟨by omega, by rw [el, em]; omega⟩).symm (by decide)
              · refine qm_Rp.go 2 (c' := (17, [.ref 28, .int y], [.int 1], h)) rfl ?_
                refine qm_Rp.rt (v := (some (.int 1))) (h' := h) rfl ?_
                refine qm_Rp.go 3 (c' := (13, [.ref 28, .int y], [.int 2], h)) rfl ?_
                refine qm_Rp.rt (v := (some (.int 2))) (h' := h) rfl ?_
                refine qm_Rp.go 0 (c' := (5, [.ref 28, .int y, .int x, .float 0], [.int 2], h)) rfl ?_
                have el : lowV cv y x.toInt = 16 * y.toInt + 4 * x.toInt + 2 := low_1 (cv := cv) (bay := y) (x := x.toInt) q_v7 q_v8 (by omega) (by omega)
                refine qm_Rp.go 2 (c' := (7, [.ref 28, .int y, .int x, .int 2], [.ref 28], h)) rfl ?_
                refine hp_getr rfl (hH.1 28 (9, 8) rfl) rfl (hH.2 28 3 (some 36) rfl) ?_
                refine qm_Rp.go 5 (c' := (15, [.ref 28, .int y, .int x, .int 2], [.int 3, .int x, .int y, .ref 36], h)) rfl ?_
                refine qm_Rp.call (j := 75) (as := [.int y, .int x, .int 3]) (c' := (18, [.ref 28, .int y, .int x, .int 2], [.ref 36], h)) rfl rfl ?_
                refine qm_Rp.go 3 (c' := (3, [.int y, .int x, .int 3], [.int (y * 4)], h)) rfl ?_
                obtain ⟨v117, q_v117, e_v117⟩ := hk_mul (x := y) (y := 4) (a := y.toInt) (b := 4) rfl rfl (by omega) (by omega)
                rw [q_v117]
                refine qm_Rp.go 2 (c' := (5, [.int y, .int x, .int 3], [.int (v117 + x)], h)) rfl ?_
                obtain ⟨v118, q_v118, e_v118⟩ := hk_add (x := v117) (y := x) (a := v117.toInt) (b := x.toInt) rfl rfl (by omega) (by omega)
                rw [q_v118]
                refine qm_Rp.go 2 (c' := (7, [.int y, .int x, .int 3], [.int (v118 * 4)], h)) rfl ?_
                obtain ⟨v119, q_v119, e_v119⟩ := hk_mul (x := v118) (y := 4) (a := v118.toInt) (b := 4) rfl rfl (by omega) (by omega)
                rw [q_v119]
                refine qm_Rp.go 2 (c' := (9, [.int y, .int x, .int 3], [.int (v119 + 3)], h)) rfl ?_
                obtain ⟨v120, q_v120, e_v120⟩ := hk_add (x := v119) (y := 3) (a := v119.toInt) (b := 3) rfl rfl (by omega) (by omega)
                rw [q_v120]
                refine qm_Rp.rt (v := (some (.int v120))) (h' := h) rfl ?_
                refine qm_Rp.go 0 (c' := (18, [.ref 28, .int y, .int x, .int 2], [.int v120, .ref 36], h)) rfl ?_
                obtain ⟨v121, q_v121⟩ : ∃ v_, h.2.1 36 v120.toInt.toNat = v_ := ⟨_, rfl⟩
                refine hp_ial (v := v121) rfl (hH.1 36 (0, 80) rfl) q_v121 (fun ia_121 ib_121 => ?_)
                refine qm_Rp.go 0 (c' := (19, [.ref 28, .int y, .int x, .int 2], [.int v121], h)) rfl ?_
                have ec1 : c (16 * y.toInt + 4 * x.toInt + 3).toNat = v121.toInt := by rw [← eC, show (16 * y.toInt + 4 * x.toInt + 3).toNat = v120.toInt.toNat by omega]; exact congrArg Int32.toInt q_v121
                have bec1 := hc (16 * y.toInt + 4 * x.toInt + 3).toNat
                rw [ec1] at bec1
                refine qm_Rp.go 1 (c' := (20, [.ref 28, .int y, .int x, .int 2], [.int (-1), .int v121], h)) rfl ?_
                refine hp_ceq (ix := v121.toInt) (iy := (-1)) rfl rfl rfl (fun z123 => ?_) (fun z123 => ?_)
                · refine qm_Rp.go 1 (c' := (28, [.ref 28, .int y, .int x, .int 2], [.ref 28], h)) rfl ?_
                  refine hp_getr rfl (hH.1 28 (9, 8) rfl) rfl (hH.2 28 3 (some 36) rfl) ?_
                  refine qm_Rp.go 3 (c' := (34, [.ref 28, .int y, .int x, .int 2], [.int 2, .int x, .int y, .ref 36], h)) rfl ?_
                  refine qm_Rp.call (j := 75) (as := [.int y, .int x, .int 2]) (c' := (37, [.ref 28, .int y, .int x, .int 2], [.ref 36], h)) rfl rfl ?_
                  refine qm_Rp.go 3 (c' := (3, [.int y, .int x, .int 2], [.int (y * 4)], h)) rfl ?_
                  rw [q_v117]
                  refine qm_Rp.go 2 (c' := (5, [.int y, .int x, .int 2], [.int (v117 + x)], h)) rfl ?_
                  rw [q_v118]
                  refine qm_Rp.go 2 (c' := (7, [.int y, .int x, .int 2], [.int (v118 * 4)], h)) rfl ?_
                  rw [q_v119]
                  refine qm_Rp.go 2 (c' := (9, [.int y, .int x, .int 2], [.int (v119 + 2)], h)) rfl ?_
                  obtain ⟨v124, q_v124, e_v124⟩ := hk_add (x := v119) (y := 2) (a := v119.toInt) (b := 2) rfl rfl (by omega) (by omega)
                  rw [q_v124]
                  refine qm_Rp.rt (v := (some (.int v124))) (h' := h) rfl ?_
                  refine qm_Rp.go 0 (c' := (37, [.ref 28, .int y, .int x, .int 2], [.int v124, .ref 36], h)) rfl ?_
                  obtain ⟨v125, q_v125⟩ : ∃ v_, h.2.1 36 v124.toInt.toNat = v_ := ⟨_, rfl⟩
                  refine hp_ial (v := v125) rfl (hH.1 36 (0, 80) rfl) q_v125 (fun ia_125 ib_125 => ?_)
                  refine qm_Rp.go 0 (c' := (38, [.ref 28, .int y, .int x, .int 2], [.int v125], h)) rfl ?_
                  have ec0 : c (16 * y.toInt + 4 * x.toInt + 2).toNat = v125.toInt := by rw [← eC, show (16 * y.toInt + 4 * x.toInt + 2).toNat = v124.toInt.toNat by omega]; exact congrArg Int32.toInt q_v125
                  have bec0 := hc (16 * y.toInt + 4 * x.toInt + 2).toNat
                  rw [ec0] at bec0
                  refine qm_Rp.go 1 (c' := (39, [.ref 28, .int y, .int x, .int 2], [.int (-1), .int v125], h)) rfl ?_
                  refine hp_ceq (ix := v125.toInt) (iy := (-1)) rfl rfl rfl (fun z127 => ?_) (fun z127 => ?_)
                  · refine qm_Rp.go 1 (c' := (47, [.ref 28, .int y, .int x, .int 2], [.int (-1)], h)) rfl ?_
                    refine qm_Rp.rt (v := (some (.int (-1)))) (h' := h) rfl ?_
                    refine qm_Rp.go 0 (c' := (24, [.ref 28, .int y, .int x, .int g, .float 0, .float 0, .float 0, .float 0, .float 0, .float 0], [.int (-1)], h)) rfl ?_
                    have ek : kV c (16 * y.toInt + 4 * x.toInt + 2) = 16 * y.toInt + 4 * x.toInt + 2 := kV_0 (by rw [show 16 * y.toInt + 4 * x.toInt + 2 + 1 = 16 * y.toInt + 4 * x.toInt + 3 by omega, ec1]; omega)
                    have eb := ec0
                    have ec2 : c (16 * y.toInt + 4 * x.toInt + 2 + 1).toNat = v121.toInt := by rw [show 16 * y.toInt + 4 * x.toInt + 2 + 1 = 16 * y.toInt + 4 * x.toInt + 3 by omega]; exact ec1
                    refine qm_Rp.go 5 (c' := (33, [.ref 28, .int y, .int x, .int g, .int (-1), .float 0, .float 0, .float 0, .float 0, .float 0], [.int (-1)], h)) rfl ?_
                    refine qm_Rp.rt (v := (some (.int (-1)))) (h' := h) rfl ?_
                    exact k0 (-1) (unl_b ⟨by omega, by omega, by omega, by omega, by omega, by omega⟩ (by rw [el, ek, eb]; omega)).symm (by decide)
                  · refine qm_Rp.go 2 (c' := (47, [.ref 28, .int y, .int x, .int 2], [.int 2], h)) rfl ?_
                    refine qm_Rp.rt (v := (some (.int 2))) (h' := h) rfl ?_
                    refine qm_Rp.go 0 (c' := (24, [.ref 28, .int y, .int x, .int g, .float 0, .float 0, .float 0, .float 0, .float 0, .float 0], [.int 2], h)) rfl ?_
                    have ek : kV c (16 * y.toInt + 4 * x.toInt + 2) = 16 * y.toInt + 4 * x.toInt + 2 := kV_0 (by rw [show 16 * y.toInt + 4 * x.toInt + 2 + 1 = 16 * y.toInt + 4 * x.toInt + 3 by omega, ec1]; omega)
                    have eb := ec0
                    have ec2 : c (16 * y.toInt + 4 * x.toInt + 2 + 1).toNat = v121.toInt := by rw [show 16 * y.toInt + 4 * x.toInt + 2 + 1 = 16 * y.toInt + 4 * x.toInt + 3 by omega]; exact ec1
                    have ab_v125 := hA (16 * y.toInt + 4 * x.toInt + 2).toNat (by omega) (by rw [eb]; omega)
                    rw [eb] at ab_v125
                    have rb_v125 := hR v125.toInt.toNat ab_v125.1
                    have ey_v125 : yb v125.toInt.toNat = y.toInt := by omega
                    have ex_v125 : rb v125.toInt.toNat = x.toInt := by omega
                    have et_v125 : tb v125.toInt.toNat = 2 := by omega
                    refine qm_Rp.go 5 (c' := (35, [.ref 28, .int y, .int x, .int g, .int 2, .float 0, .float 0, .float 0, .float 0, .float 0], [.ref 28], h)) rfl ?_
                    refine hp_getr rfl (hH.1 28 (9, 8) rfl) rfl (hH.2 28 3 (some 36) rfl) ?_
                    refine qm_Rp.go 3 (c' := (42, [.ref 28, .int y, .int x, .int g, .int 2, .float 0, .float 0, .float 0, .float 0, .float 0], [.int 2, .int x, .int y, .ref 36], h)) rfl ?_
                    refine qm_Rp.call (j := 75) (as := [.int y, .int x, .int 2]) (c' := (45, [.ref 28, .int y, .int x, .int g, .int 2, .float 0, .float 0, .float 0, .float 0, .float 0], [.ref 36], h)) rfl rfl ?_
                    refine qm_Rp.go 3 (c' := (3, [.int y, .int x, .int 2], [.int (y * 4)], h)) rfl ?_
                    rw [q_v117]
                    refine qm_Rp.go 2 (c' := (5, [.int y, .int x, .int 2], [.int (v117 + x)], h)) rfl ?_
                    rw [q_v118]
                    refine qm_Rp.go 2 (c' := (7, [.int y, .int x, .int 2], [.int (v118 * 4)], h)) rfl ?_
                    rw [q_v119]
                    refine qm_Rp.go 2 (c' := (9, [.int y, .int x, .int 2], [.int (v119 + 2)], h)) rfl ?_
                    rw [q_v124]
                    refine qm_Rp.rt (v := (some (.int v124))) (h' := h) rfl ?_
                    refine qm_Rp.go 0 (c' := (45, [.ref 28, .int y, .int x, .int g, .int 2, .float 0, .float 0, .float 0, .float 0, .float 0], [.int v124, .ref 36], h)) rfl ?_
                    refine hp_ial (v := v125) rfl (hH.1 36 (0, 80) rfl) q_v125 (fun ia_127 ib_127 => ?_)
                    refine qm_Rp.go 2 (c' := (49, [.ref 28, .int y, .int x, .int g, .int 2, .int v125, .float 0, .float 0, .float 0, .float 0], [.ref 28], h)) rfl ?_
                    refine hp_getr rfl (hH.1 28 (9, 8) rfl) rfl (hH.2 28 0 (some 6) rfl) ?_
                    refine qm_Rp.go 0 (c' := (52, [.ref 28, .int y, .int x, .int g, .int 2, .int v125, .float 0, .float 0, .float 0, .float 0], [.ref 6], h)) rfl ?_
                    refine hp_getr rfl (hH.1 6 (6, 9) rfl) rfl (hH.2 6 4 (some 10) rfl) ?_
                    refine qm_Rp.go 1 (c' := (57, [.ref 28, .int y, .int x, .int g, .int 2, .int v125, .float 0, .float 0, .float 0, .float 0], [.int v125, .ref 10], h)) rfl ?_
                    obtain ⟨v129, q_v129⟩ : ∃ v_, h.2.1 10 v125.toInt.toNat = v_ := ⟨_, rfl⟩
                    refine hp_bal (v := v129) rfl (hH.1 10 (2, 30) rfl) q_v129 (fun ia_129 ib_129 => ?_)
                    refine qm_Rp.go 0 (c' := (58, [.ref 28, .int y, .int x, .int g, .int 2, .int v125, .float 0, .float 0, .float 0, .float 0], [.int v129], h)) rfl ?_
                    have est : tk v125.toInt.toNat = v129.toInt := by rw [← eK]; exact congrArg Int32.toInt q_v129
                    refine hp_zeq (ix := v129.toInt) rfl rfl (fun z131 => ?_) (fun z131 => ?_)
                    · refine qm_Rp.go 1 (c' := (80, [.ref 28, .int y, .int x, .int g, .int 2, .int v125, .float 0, .float 0, .float 0, .float 0], [.int 2], h)) rfl ?_
                      have em : mV c tk (16 * y.toInt + 4 * x.toInt + 2) = 1 := mV_1a (by rw [ec2]; omega)
                      refine qm_Rp.go 9 (c' := (93, [.ref 28, .int y, .int x, .int g, .int 2, .int v125, .int 2, .int 1, .float 0, .float 0], [.int (-1), .int g], h)) rfl ?_
                      refine hp_ceq (ix := g.toInt) (iy := (-1)) rfl rfl rfl (fun z132 => ?_) (fun z132 => ?_)
                      · refine qm_Rp.go 1 (c' := (112, [.ref 28, .int y, .int x, .int g, .int 2, .int v125, .int 2, .int 1, .float 0, .float 0], [.ref 28], h)) rfl ?_
                        refine hp_getr rfl (hH.1 28 (9, 8) rfl) rfl (hH.2 28 0 (some 6) rfl) ?_
                        refine qm_Rp.go 0 (c' := (115, [.ref 28, .int y, .int x, .int g, .int 2, .int v125, .int 2, .int 1, .float 0, .float 0], [.ref 6], h)) rfl ?_
                        refine hp_getr rfl (hH.1 6 (6, 9) rfl) rfl (hH.2 6 1 (some 7) rfl) ?_
                        refine qm_Rp.go 1 (c' := (120, [.ref 28, .int y, .int x, .int g, .int 2, .int v125, .int 2, .int 1, .float 0, .float 0], [.int v125, .ref 7], h)) rfl ?_
                        obtain ⟨v133, q_v133⟩ : ∃ v_, h.2.1 7 v125.toInt.toNat = v_ := ⟨_, rfl⟩
                        refine hp_ial (v := v133) rfl (hH.1 7 (0, 30) rfl) q_v133 (fun ia_133 ib_133 => ?_)
                        refine qm_Rp.go 0 (c' := (121, [.ref 28, .int y, .int x, .int g, .int 2, .int v125, .int 2, .int 1, .float 0, .float 0], [.int v133], h)) rfl ?_
                        have ew_v125 : w v125.toInt.toNat = v133.toInt := by rw [← eW]; exact congrArg Int32.toInt q_v133
                        have bw_v125 := hw v125.toInt.toNat
                        rw [ew_v125] at bw_v125
                        refine qm_Rp.go 5 (c' := (153, [.ref 28, .int y, .int x, .int g, .int 2, .int v125, .int 2, .int 1, .float 0, .float 0], [.int (v133 + 0)], h)) rfl ?_
                        obtain ⟨v135, q_v135, e_v135⟩ := hk_add (x := v133) (y := 0) (a := v133.toInt) (b := 0) rfl rfl (by omega) (by omega)
                        rw [q_v135]
                        refine qm_Rp.go 1 (c' := (155, [.ref 28, .int y, .int x, .int g, .int 2, .int v125, .int 2, .int 1, .int v135, .float 0], [], h)) rfl ?_
                        have ewt : w (c (kV c (16 * y.toInt + 4 * x.toInt + 2)).toNat).toNat + (if mV c tk (16 * y.toInt + 4 * x.toInt + 2) = 2 then w (c (16 * y.toInt + 4 * x.toInt + 2).toNat).toNat else 0) = v135.toInt := by rw [ek, eb, em, if_neg (by decide)]; omega
                        refine qm_Rp.go 2 (c' := (158, [.ref 28, .int y, .int x, .int g, .int 2, .int v125, .int 2, .int 1, .int v135, .float 0], [.ref 28, .int v135], h)) rfl ?_
                        refine hp_getr rfl (hH.1 28 (9, 8) rfl) rfl hT ?_
                        refine qm_Rp.go 0 (c' := (161, [.ref 28, .int y, .int x, .int g, .int 2, .int v125, .int 2, .int 1, .int v135, .float 0], [.ref 29, .int v135], h)) rfl ?_
                        refine hp_geti (v := l) rfl (hH.1 29 (11, 16) rfl) rfl q_l ?_
                        refine qm_Rp.go 0 (c' := (164, [.ref 28, .int y, .int x, .int g, .int 2, .int v125, .int 2, .int 1, .int v135, .float 0], [.int l, .int v135], h)) rfl ?_
                        refine hp_cle (ix := v135.toInt) (iy := l.toInt) rfl rfl rfl (fun z136 => ?_) (fun z136 => ?_)
                        · refine qm_Rp.go 5 (c' := (176, [.ref 28, .int y, .int x, .int g, .int 2, .int v125, .int 2, .int 1, .int v135, .float 0], [.int (-v135), .int x, .int y, .ref 28], h)) rfl ?_
                          obtain ⟨v137, q_v137, e_v137⟩ := hk_neg (x := v135) (a := v135.toInt) rfl (by omega)
                          rw [q_v137]
                          refine hp_inv (o := 28) (r := []) (as := [.ref 28, .int y, .int x, .int v137]) rfl rfl (hH.1 28 (9, 8) rfl) rfl rfl rfl (px_cbo29 (m := v137) hH hT q_B hB eV hb q_ls hls q_wt hwt ⟨by omega, by omega⟩ ⟨by omega, by omega⟩ ⟨by omega, by omega⟩ q_g0 q_g1 q_g2 (fun r138 e_r138 => ?_))
                          rcases e_r138 with ⟨hr, hbo⟩ | ⟨hr, hbo⟩
                          · obtain rfl : r138 = 1 := hk_eqi.mpr (hr.trans rfl)
                            refine qm_Rp.go 1 (c' := (197, [.ref 28, .int y, .int x, .int g, .int 2, .int v125, .int 2, .int 1, .int v135, .float 0], [], h)) rfl ?_
                            refine px_cl22 hH q_ls hls q_wt hwt eW eH e12 e13 e14 eC eY eI eV hw hi4 hb ⟨by omega, by omega⟩ ⟨by omega, by omega⟩ ⟨by omega, by omega⟩ (fun z => by omega) ⟨by omega, by omega⟩ eb ey_v125 ex_v125 et_v125 (fun I l2 w2 e x28 q5 q6 el2 ew2 x11 x12 x13 x14 x36 x16 x17 x37 => ?_)
                            exact k1 I l2 w2 e x28 q5 q6 ((unl_f ⟨by omega, by omega, by omega, by omega, by omega, by omega⟩ (by rw [el, ek, eb]; omega) (by rw [el, em]; intro z; omega) (by rw [el, ewt]; omega) (okb_t (by rw [el, ewt, ← e_v137]; exact Or.inl hbo))).trans (by rw [el, em])).symm (by rw [el, ek, eb]; exact el2) (by rw [el, ek, eb]; exact ew2) (by rw [el, ek, eb]; exact x11) (by rw [el, ek, eb]; exact x12) (by rw [el, ek, eb]; exact x13) (by rw [el, ek, eb]; exact x14) (by rw [el, ek]; exact x36) (by rw [el, ek, eb]; exact x16) x17 (by rw [el, ek, eb]; exact x37)
                          · obtain rfl : r138 = 0 := hk_eqi.mpr (hr.trans rfl)
                            refine qm_Rp.go 6 (c' := (188, [.ref 28, .int y, .int x, .int g, .int 2, .int v125, .int 2, .int 1, .int v135, .float 0], [.int (-v135), .int x, .int y, .ref 28], h)) rfl ?_
                            rw [q_v137]
                            refine hp_inv (o := 28) (r := []) (as := [.ref 28, .int y, .int x, .int v137]) rfl rfl (hH.1 28 (9, 8) rfl) rfl rfl rfl (px_cnw29 (m := v137) hH hT q_B hB eV hb q_ls hls q_wt hwt ⟨by omega, by omega⟩ ⟨by omega, by omega⟩ ⟨by omega, by omega⟩ (fun r139 e_r139 => ?_))
                            rcases e_r139 with ⟨hr, hnw⟩ | ⟨hr, hnw⟩
                            · obtain rfl : r139 = 1 := hk_eqi.mpr (hr.trans rfl)
                              refine qm_Rp.go 1 (c' := (197, [.ref 28, .int y, .int x, .int g, .int 2, .int v125, .int 2, .int 1, .int v135, .float 0], [], h)) rfl ?_
                              refine px_cl22 hH q_ls hls q_wt hwt eW eH e12 e13 e14 eC eY eI eV hw hi4 hb ⟨by omega, by omega⟩ ⟨by omega, by omega⟩ ⟨by omega, by omega⟩ (fun z => by omega) ⟨by omega, by omega⟩ eb ey_v125 ex_v125 et_v125 (fun I l2 w2 e x28 q5 q6 el2 ew2 x11 x12 x13 x14 x36 x16 x17 x37 => ?_)
                              exact k1 I l2 w2 e x28 q5 q6 ((unl_f ⟨by omega, by omega, by omega, by omega, by omega, by omega⟩ (by rw [el, ek, eb]; omega) (by rw [el, em]; intro z; omega) (by rw [el, ewt]; omega) (okb_t (by rw [el, ewt, ← e_v137]; exact Or.inr hnw))).trans (by rw [el, em])).symm (by rw [el, ek, eb]; exact el2) (by rw [el, ek, eb]; exact ew2) (by rw [el, ek, eb]; exact x11) (by rw [el, ek, eb]; exact x12) (by rw [el, ek, eb]; exact x13) (by rw [el, ek, eb]; exact x14) (by rw [el, ek]; exact x36) (by rw [el, ek, eb]; exact x16) x17 (by rw [el, ek, eb]; exact x37)
                            · obtain rfl : r139 = 0 := hk_eqi.mpr (hr.trans rfl)
                              refine qm_Rp.go 2 (c' := (196, [.ref 28, .int y, .int x, .int g, .int 2, .int v125, .int 2, .int 1, .int v135, .float 0], [.int (-3)], h)) rfl ?_
                              refine qm_Rp.rt (v := (some (.int (-3)))) (h' := h) rfl ?_
                              exact k0 (-3) (unl_e ⟨by omega, by omega, by omega, by omega, by omega, by omega⟩ (by rw [el, ek, eb]; omega) (by rw [el, em]; intro z; omega) (by rw [el, ewt]; omega) (okb_f (by rw [el, ewt, ← e_v137]; exact fun z => z.elim hbo hnw))).symm (by decide)
                        · refine qm_Rp.go 1 (c' := (169, [.ref 28, .int y, .int x, .int g, .int 2, .int v125, .int 2, .int 1, .int v135, .float 0], [.int (-2)], h)) rfl ?_
                          refine qm_Rp.rt (v := (some (.int (-2)))) (h' := h) rfl ?_
                          exact k0 (-2) (unl_d ⟨by omega, by omega, by omega, by omega, by omega, by omega⟩ (by rw [el, ek, eb]; omega) (by rw [el, em]; intro z; omega) (by rw [el, ewt]; omega)).symm (by decide)
                      · refine qm_Rp.go 1 (c' := (97, [.ref 28, .int y, .int x, .int g, .int 2, .int v125, .int 2, .int 1, .float 0, .float 0], [.ref 28], h)) rfl ?_
                        refine hp_getr rfl (hH.1 28 (9, 8) rfl) rfl (hH.2 28 1 (some 15) rfl) ?_
                        refine qm_Rp.go 1 (c' := (101, [.ref 28, .int y, .int x, .int g, .int 2, .int v125, .int 2, .int 1, .float 0, .float 0], [.int g, .ref 15], h)) rfl ?_
                        refine hp_inv (o := 15) (r := []) (as := [.ref 15, .int g]) rfl rfl (hH.1 15 (15, 8) rfl) rfl rfl rfl ?_
                        refine qm_Rp.go 2 (c' := (2, [.ref 15, .int g], [.ref 15, .int 4], h)) rfl ?_
                        refine hp_getr rfl (hH.1 15 (15, 8) rfl) rfl (hH.2 15 2 (some 17) rfl) ?_
                        refine qm_Rp.go 1 (c' := (6, [.ref 15, .int g], [.int g, .ref 17, .int 4], h)) rfl ?_
                        obtain ⟨v140, q_v140⟩ : ∃ v_, h.2.1 17 g.toInt.toNat = v_ := ⟨_, rfl⟩
                        refine hp_ial (v := v140) rfl (hH.1 17 (0, 4) rfl) q_v140 (fun ia_140 ib_140 => ?_)
                        refine qm_Rp.go 0 (c' := (7, [.ref 15, .int g], [.int v140, .int 4], h)) rfl ?_
                        have eh : hi g.toInt.toNat = v140.toInt := by rw [← eI]; exact congrArg Int32.toInt q_v140
                        have bh := hi4 g.toInt.toNat
                        rw [eh] at bh
                        refine qm_Rp.go 1 (c' := (8, [.ref 15, .int g], [.int (4 - v140)], h)) rfl ?_
                        obtain ⟨v142, q_v142, e_v142⟩ := hk_sub (x := 4) (y := v140) (a := 4) (b := v140.toInt) rfl rfl (by omega) (by omega)
                        rw [q_v142]
                        refine qm_Rp.rt (v := (some (.int v142))) (h' := h) rfl ?_
                        refine qm_Rp.go 1 (c' := (106, [.ref 28, .int y, .int x, .int g, .int 2, .int v125, .int 2, .int 1, .float 0, .float 0], [.int 1, .int v142], h)) rfl ?_
                        refine hp_cge (ix := v142.toInt) (iy := 1) rfl rfl rfl (fun z143 => ?_) (fun z143 => ?_)
                        · refine qm_Rp.go 1 (c' := (112, [.ref 28, .int y, .int x, .int g, .int 2, .int v125, .int 2, .int 1, .float 0, .float 0], [.ref 28], h)) rfl ?_
                          refine hp_getr rfl (hH.1 28 (9, 8) rfl) rfl (hH.2 28 0 (some 6) rfl) ?_
                          refine qm_Rp.go 0 (c' := (115, [.ref 28, .int y, .int x, .int g, .int 2, .int v125, .int 2, .int 1, .float 0, .float 0], [.ref 6], h)) rfl ?_
                          refine hp_getr rfl (hH.1 6 (6, 9) rfl) rfl (hH.2 6 1 (some 7) rfl) ?_
                          refine qm_Rp.go 1 (c' := (120, [.ref 28, .int y, .int x, .int g, .int 2, .int v125, .int 2, .int 1, .float 0, .float 0], [.int v125, .ref 7], h)) rfl ?_
                          obtain ⟨v144, q_v144⟩ : ∃ v_, h.2.1 7 v125.toInt.toNat = v_ := ⟨_, rfl⟩
                          refine hp_ial (v := v144) rfl (hH.1 7 (0, 30) rfl) q_v144 (fun ia_144 ib_144 => ?_)
                          refine qm_Rp.go 0 (c' := (121, [.ref 28, .int y, .int x, .int g, .int 2, .int v125, .int 2, .int 1, .float 0, .float 0], [.int v144], h)) rfl ?_
                          have ew_v125 : w v125.toInt.toNat = v144.toInt := by rw [← eW]; exact congrArg Int32.toInt q_v144
                          have bw_v125 := hw v125.toInt.toNat
                          rw [ew_v125] at bw_v125
                          refine qm_Rp.go 5 (c' := (153, [.ref 28, .int y, .int x, .int g, .int 2, .int v125, .int 2, .int 1, .float 0, .float 0], [.int (v144 + 0)], h)) rfl ?_
                          obtain ⟨v146, q_v146, e_v146⟩ := hk_add (x := v144) (y := 0) (a := v144.toInt) (b := 0) rfl rfl (by omega) (by omega)
                          rw [q_v146]
                          refine qm_Rp.go 1 (c' := (155, [.ref 28, .int y, .int x, .int g, .int 2, .int v125, .int 2, .int 1, .int v146, .float 0], [], h)) rfl ?_
                          have ewt : w (c (kV c (16 * y.toInt + 4 * x.toInt + 2)).toNat).toNat + (if mV c tk (16 * y.toInt + 4 * x.toInt + 2) = 2 then w (c (16 * y.toInt + 4 * x.toInt + 2).toNat).toNat else 0) = v146.toInt := by rw [ek, eb, em, if_neg (by decide)]; omega
                          refine qm_Rp.go 2 (c' := (158, [.ref 28, .int y, .int x, .int g, .int 2, .int v125, .int 2, .int 1, .int v146, .float 0], [.ref 28, .int v146], h)) rfl ?_
                          refine hp_getr rfl (hH.1 28 (9, 8) rfl) rfl hT ?_
                          refine qm_Rp.go 0 (c' := (161, [.ref 28, .int y, .int x, .int g, .int 2, .int v125, .int 2, .int 1, .int v146, .float 0], [.ref 29, .int v146], h)) rfl ?_
                          refine hp_geti (v := l) rfl (hH.1 29 (11, 16) rfl) rfl q_l ?_
                          refine qm_Rp.go 0 (c' := (164, [.ref 28, .int y, .int x, .int g, .int 2, .int v125, .int 2, .int 1, .int v146, .float 0], [.int l, .int v146], h)) rfl ?_
                          refine hp_cle (ix := v146.toInt) (iy := l.toInt) rfl rfl rfl (fun z147 => ?_) (fun z147 => ?_)
                          · refine qm_Rp.go 5 (c' := (176, [.ref 28, .int y, .int x, .int g, .int 2, .int v125, .int 2, .int 1, .int v146, .float 0], [.int (-v146), .int x, .int y, .ref 28], h)) rfl ?_
                            obtain ⟨v148, q_v148, e_v148⟩ := hk_neg (x := v146) (a := v146.toInt) rfl (by omega)
                            rw [q_v148]
                            refine hp_inv (o := 28) (r := []) (as := [.ref 28, .int y, .int x, .int v148]) rfl rfl (hH.1 28 (9, 8) rfl) rfl rfl rfl (px_cbo29 (m := v148) hH hT q_B hB eV hb q_ls hls q_wt hwt ⟨by omega, by omega⟩ ⟨by omega, by omega⟩ ⟨by omega, by omega⟩ q_g0 q_g1 q_g2 (fun r149 e_r149 => ?_))
                            rcases e_r149 with ⟨hr, hbo⟩ | ⟨hr, hbo⟩
                            · obtain rfl : r149 = 1 := hk_eqi.mpr (hr.trans rfl)
                              refine qm_Rp.go 1 (c' := (197, [.ref 28, .int y, .int x, .int g, .int 2, .int v125, .int 2, .int 1, .int v146, .float 0], [], h)) rfl ?_
                              refine px_cl22 hH q_ls hls q_wt hwt eW eH e12 e13 e14 eC eY eI eV hw hi4 hb ⟨by omega, by omega⟩ ⟨by omega, by omega⟩ ⟨by omega, by omega⟩ (fun z => by omega) ⟨by omega, by omega⟩ eb ey_v125 ex_v125 et_v125 (fun I l2 w2 e x28 q5 q6 el2 ew2 x11 x12 x13 x14 x36 x16 x17 x37 => ?_)
                              exact k1 I l2 w2 e x28 q5 q6 ((unl_f ⟨by omega, by omega, by omega, by omega, by omega, by omega⟩ (by rw [el, ek, eb]; omega) (by rw [el, em]; intro z; omega) (by rw [el, ewt]; omega) (okb_t (by rw [el, ewt, ← e_v148]; exact Or.inl hbo))).trans (by rw [el, em])).symm (by rw [el, ek, eb]; exact el2) (by rw [el, ek, eb]; exact ew2) (by rw [el, ek, eb]; exact x11) (by rw [el, ek, eb]; exact x12) (by rw [el, ek, eb]; exact x13) (by rw [el, ek, eb]; exact x14) (by rw [el, ek]; exact x36) (by rw [el, ek, eb]; exact x16) x17 (by rw [el, ek, eb]; exact x37)
                            · obtain rfl : r149 = 0 := hk_eqi.mpr (hr.trans rfl)
                              refine qm_Rp.go 6 (c' := (188, [.ref 28, .int y, .int x, .int g, .int 2, .int v125, .int 2, .int 1, .int v146, .float 0], [.int (-v146), .int x, .int y, .ref 28], h)) rfl ?_
                              rw [q_v148]
                              refine hp_inv (o := 28) (r := []) (as := [.ref 28, .int y, .int x, .int v148]) rfl rfl (hH.1 28 (9, 8) rfl) rfl rfl rfl (px_cnw29 (m := v148) hH hT q_B hB eV hb q_ls hls q_wt hwt ⟨by omega, by omega⟩ ⟨by omega, by omega⟩ ⟨by omega, by omega⟩ (fun r150 e_r150 => ?_))
                              rcases e_r150 with ⟨hr, hnw⟩ | ⟨hr, hnw⟩
                              · obtain rfl : r150 = 1 := hk_eqi.mpr (hr.trans rfl)
                                refine qm_Rp.go 1 (c' := (197, [.ref 28, .int y, .int x, .int g, .int 2, .int v125, .int 2, .int 1, .int v146, .float 0], [], h)) rfl ?_
                                refine px_cl22 hH q_ls hls q_wt hwt eW eH e12 e13 e14 eC eY eI eV hw hi4 hb ⟨by omega, by omega⟩ ⟨by omega, by omega⟩ ⟨by omega, by omega⟩ (fun z => by omega) ⟨by omega, by omega⟩ eb ey_v125 ex_v125 et_v125 (fun I l2 w2 e x28 q5 q6 el2 ew2 x11 x12 x13 x14 x36 x16 x17 x37 => ?_)
                                exact k1 I l2 w2 e x28 q5 q6 ((unl_f ⟨by omega, by omega, by omega, by omega, by omega, by omega⟩ (by rw [el, ek, eb]; omega) (by rw [el, em]; intro z; omega) (by rw [el, ewt]; omega) (okb_t (by rw [el, ewt, ← e_v148]; exact Or.inr hnw))).trans (by rw [el, em])).symm (by rw [el, ek, eb]; exact el2) (by rw [el, ek, eb]; exact ew2) (by rw [el, ek, eb]; exact x11) (by rw [el, ek, eb]; exact x12) (by rw [el, ek, eb]; exact x13) (by rw [el, ek, eb]; exact x14) (by rw [el, ek]; exact x36) (by rw [el, ek, eb]; exact x16) x17 (by rw [el, ek, eb]; exact x37)
                              · obtain rfl : r150 = 0 := hk_eqi.mpr (hr.trans rfl)
                                refine qm_Rp.go 2 (c' := (196, [.ref 28, .int y, .int x, .int g, .int 2, .int v125, .int 2, .int 1, .int v146, .float 0], [.int (-3)], h)) rfl ?_
                                refine qm_Rp.rt (v := (some (.int (-3)))) (h' := h) rfl ?_
                                exact k0 (-3) (unl_e ⟨by omega, by omega, by omega, by omega, by omega, by omega⟩ (by rw [el, ek, eb]; omega) (by rw [el, em]; intro z; omega) (by rw [el, ewt]; omega) (okb_f (by rw [el, ewt, ← e_v148]; exact fun z => z.elim hbo hnw))).symm (by decide)
                          · refine qm_Rp.go 1 (c' := (169, [.ref 28, .int y, .int x, .int g, .int 2, .int v125, .int 2, .int 1, .int v146, .float 0], [.int (-2)], h)) rfl ?_
                            refine qm_Rp.rt (v := (some (.int (-2)))) (h' := h) rfl ?_
                            exact k0 (-2) (unl_d ⟨by omega, by omega, by omega, by omega, by omega, by omega⟩ (by rw [el, ek, eb]; omega) (by rw [el, em]; intro z; omega) (by rw [el, ewt]; omega)).symm (by decide)
                        · refine qm_Rp.go 1 (c' := (110, [.ref 28, .int y, .int x, .int g, .int 2, .int v125, .int 2, .int 1, .float 0, .float 0], [.int (-1)], h)) rfl ?_
                          refine qm_Rp.rt (v := (some (.int (-1)))) (h' := h) rfl ?_
                          exact k0 (-1) (unl_c ⟨by omega, by omega, by omega, by omega, by omega, by omega⟩ (by rw [el, ek, eb]; omega) ⟨by omega, by rw [el, em]; omega⟩).symm (by decide)
                    · refine qm_Rp.go 3 (c' := (65, [.ref 28, .int y, .int x, .int g, .int 2, .int v125, .float 0, .float 0, .float 0, .float 0], [.int y, .ref 28, .int 2], h)) rfl ?_
                      refine hp_inv (o := 28) (r := [.int 2]) (as := [.ref 28, .int y]) rfl rfl (hH.1 28 (9, 8) rfl) rfl rfl rfl ?_
                      refine qm_Rp.go 2 (c' := (2, [.ref 28, .int y], [.int y, .ref 28], h)) rfl ?_
                      refine hp_inv (o := 28) (r := []) (as := [.ref 28, .int y]) rfl rfl (hH.1 28 (9, 8) rfl) rfl rfl rfl ?_
                      refine qm_Rp.go 1 (c' := (1, [.ref 28, .int y], [.ref 28], h)) rfl ?_
                      refine hp_geti (v := cv) rfl (hH.1 28 (9, 8) rfl) rfl q_cv ?_
                      refine qm_Rp.go 2 (c' := (6, [.ref 28, .int y], [.int (cv >>> (y &&& 31))], h)) rfl ?_
                      rw [q_v7]
                      refine qm_Rp.go 2 (c' := (8, [.ref 28, .int y], [.int (v7 &&& 1)], h)) rfl ?_
                      rw [q_v8]
                      refine qm_Rp.go 1 (c' := (9, [.ref 28, .int y], [.int 1, .int v8], h)) rfl ?_
                      refine hp_cne (ix := v8.toInt) (iy := 1) rfl rfl rfl (fun z151 => by exfalso; omega) (fun z151 => ?_)
                      refine qm_Rp.go 2 (c' := (17, [.ref 28, .int y], [.int 1], h)) rfl ?_
                      refine qm_Rp.rt (v := (some (.int 1))) (h' := h) rfl ?_
                      refine qm_Rp.go 3 (c' := (13, [.ref 28, .int y], [.int 2], h)) rfl ?_
                      refine qm_Rp.rt (v := (some (.int 2))) (h' := h) rfl ?_
                      refine qm_Rp.go 2 (c' := (80, [.ref 28, .int y, .int x, .int g, .int 2, .int v125, .float 0, .float 0, .float 0, .float 0], [.int 2], h)) rfl ?_
                      have em : mV c tk (16 * y.toInt + 4 * x.toInt + 2) = 1 := mV_1a (by rw [ec2]; omega)
                      refine qm_Rp.go 9 (c' := (93, [.ref 28, .int y, .int x, .int g, .int 2, .int v125, .int 2, .int 1, .float 0, .float 0], [.int (-1), .int g], h)) rfl ?_
                      refine hp_ceq (ix := g.toInt) (iy := (-1)) rfl rfl rfl (fun z152 => ?_) (fun z152 => ?_)
                      · refine qm_Rp.go 1 (c' := (112, [.ref 28, .int y, .int x, .int g, .int 2, .int v125, .int 2, .int 1, .float 0, .float 0], [.ref 28], h)) rfl ?_
                        refine hp_getr rfl (hH.1 28 (9, 8) rfl) rfl (hH.2 28 0 (some 6) rfl) ?_
                        refine qm_Rp.go 0 (c' := (115, [.ref 28, .int y, .int x, .int g, .int 2, .int v125, .int 2, .int 1, .float 0, .float 0], [.ref 6], h)) rfl ?_
                        refine hp_getr rfl (hH.1 6 (6, 9) rfl) rfl (hH.2 6 1 (some 7) rfl) ?_
                        refine qm_Rp.go 1 (c' := (120, [.ref 28, .int y, .int x, .int g, .int 2, .int v125, .int 2, .int 1, .float 0, .float 0], [.int v125, .ref 7], h)) rfl ?_
                        obtain ⟨v153, q_v153⟩ : ∃ v_, h.2.1 7 v125.toInt.toNat = v_ := ⟨_, rfl⟩
                        refine hp_ial (v := v153) rfl (hH.1 7 (0, 30) rfl) q_v153 (fun ia_153 ib_153 => ?_)
                        refine qm_Rp.go 0 (c' := (121, [.ref 28, .int y, .int x, .int g, .int 2, .int v125, .int 2, .int 1, .float 0, .float 0], [.int v153], h)) rfl ?_
                        have ew_v125 : w v125.toInt.toNat = v153.toInt := by rw [← eW]; exact congrArg Int32.toInt q_v153
                        have bw_v125 := hw v125.toInt.toNat
                        rw [ew_v125] at bw_v125
                        refine qm_Rp.go 5 (c' := (153, [.ref 28, .int y, .int x, .int g, .int 2, .int v125, .int 2, .int 1, .float 0, .float 0], [.int (v153 + 0)], h)) rfl ?_
                        obtain ⟨v155, q_v155, e_v155⟩ := hk_add (x := v153) (y := 0) (a := v153.toInt) (b := 0) rfl rfl (by omega) (by omega)
                        rw [q_v155]
                        refine qm_Rp.go 1 (c' := (155, [.ref 28, .int y, .int x, .int g, .int 2, .int v125, .int 2, .int 1, .int v155, .float 0], [], h)) rfl ?_
                        have ewt : w (c (kV c (16 * y.toInt + 4 * x.toInt + 2)).toNat).toNat + (if mV c tk (16 * y.toInt + 4 * x.toInt + 2) = 2 then w (c (16 * y.toInt + 4 * x.toInt + 2).toNat).toNat else 0) = v155.toInt := by rw [ek, eb, em, if_neg (by decide)]; omega
                        refine qm_Rp.go 2 (c' := (158, [.ref 28, .int y, .int x, .int g, .int 2, .int v125, .int 2, .int 1, .int v155, .float 0], [.ref 28, .int v155], h)) rfl ?_
                        refine hp_getr rfl (hH.1 28 (9, 8) rfl) rfl hT ?_
                        refine qm_Rp.go 0 (c' := (161, [.ref 28, .int y, .int x, .int g, .int 2, .int v125, .int 2, .int 1, .int v155, .float 0], [.ref 29, .int v155], h)) rfl ?_
                        refine hp_geti (v := l) rfl (hH.1 29 (11, 16) rfl) rfl q_l ?_
                        refine qm_Rp.go 0 (c' := (164, [.ref 28, .int y, .int x, .int g, .int 2, .int v125, .int 2, .int 1, .int v155, .float 0], [.int l, .int v155], h)) rfl ?_
                        refine hp_cle (ix := v155.toInt) (iy := l.toInt) rfl rfl rfl (fun z156 => ?_) (fun z156 => ?_)
                        · refine qm_Rp.go 5 (c' := (176, [.ref 28, .int y, .int x, .int g, .int 2, .int v125, .int 2, .int 1, .int v155, .float 0], [.int (-v155), .int x, .int y, .ref 28], h)) rfl ?_
                          obtain ⟨v157, q_v157, e_v157⟩ := hk_neg (x := v155) (a := v155.toInt) rfl (by omega)
                          rw [q_v157]
                          refine hp_inv (o := 28) (r := []) (as := [.ref 28, .int y, .int x, .int v157]) rfl rfl (hH.1 28 (9, 8) rfl) rfl rfl rfl (px_cbo29 (m := v157) hH hT q_B hB eV hb q_ls hls q_wt hwt ⟨by omega, by omega⟩ ⟨by omega, by omega⟩ ⟨by omega, by omega⟩ q_g0 q_g1 q_g2 (fun r158 e_r158 => ?_))
                          rcases e_r158 with ⟨hr, hbo⟩ | ⟨hr, hbo⟩
                          · obtain rfl : r158 = 1 := hk_eqi.mpr (hr.trans rfl)
                            refine qm_Rp.go 1 (c' := (197, [.ref 28, .int y, .int x, .int g, .int 2, .int v125, .int 2, .int 1, .int v155, .float 0], [], h)) rfl ?_
                            refine px_cl22 hH q_ls hls q_wt hwt eW eH e12 e13 e14 eC eY eI eV hw hi4 hb ⟨by omega, by omega⟩ ⟨by omega, by omega⟩ ⟨by omega, by omega⟩ (fun z => by omega) ⟨by omega, by omega⟩ eb ey_v125 ex_v125 et_v125 (fun I l2 w2 e x28 q5 q6 el2 ew2 x11 x12 x13 x14 x36 x16 x17 x37 => ?_)
                            exact k1 I l2 w2 e x28 q5 q6 ((unl_f ⟨by omega, by omega, by omega, by omega, by omega, by omega⟩ (by rw [el, ek, eb]; omega) (by rw [el, em]; intro z; omega) (by rw [el, ewt]; omega) (okb_t (by rw [el, ewt, ← e_v157]; exact Or.inl hbo))).trans (by rw [el, em])).symm (by rw [el, ek, eb]; exact el2) (by rw [el, ek, eb]; exact ew2) (by rw [el, ek, eb]; exact x11) (by rw [el, ek, eb]; exact x12) (by rw [el, ek, eb]; exact x13) (by rw [el, ek, eb]; exact x14) (by rw [el, ek]; exact x36) (by rw [el, ek, eb]; exact x16) x17 (by rw [el, ek, eb]; exact x37)
                          · obtain rfl : r158 = 0 := hk_eqi.mpr (hr.trans rfl)
                            refine qm_Rp.go 6 (c' := (188, [.ref 28, .int y, .int x, .int g, .int 2, .int v125, .int 2, .int 1, .int v155, .float 0], [.int (-v155), .int x, .int y, .ref 28], h)) rfl ?_
                            rw [q_v157]
                            refine hp_inv (o := 28) (r := []) (as := [.ref 28, .int y, .int x, .int v157]) rfl rfl (hH.1 28 (9, 8) rfl) rfl rfl rfl (px_cnw29 (m := v157) hH hT q_B hB eV hb q_ls hls q_wt hwt ⟨by omega, by omega⟩ ⟨by omega, by omega⟩ ⟨by omega, by omega⟩ (fun r159 e_r159 => ?_))
                            rcases e_r159 with ⟨hr, hnw⟩ | ⟨hr, hnw⟩
                            · obtain rfl : r159 = 1 := hk_eqi.mpr (hr.trans rfl)
                              refine qm_Rp.go 1 (c' := (197, [.ref 28, .int y, .int x, .int g, .int 2, .int v125, .int 2, .int 1, .int v155, .float 0], [], h)) rfl ?_
                              refine px_cl22 hH q_ls hls q_wt hwt eW eH e12 e13 e14 eC eY eI eV hw hi4 hb ⟨by omega, by omega⟩ ⟨by omega, by omega⟩ ⟨by omega, by omega⟩ (fun z => by omega) ⟨by omega, by omega⟩ eb ey_v125 ex_v125 et_v125 (fun I l2 w2 e x28 q5 q6 el2 ew2 x11 x12 x13 x14 x36 x16 x17 x37 => ?_)
                              exact k1 I l2 w2 e x28 q5 q6 ((unl_f ⟨by omega, by omega, by omega, by omega, by omega, by omega⟩ (by rw [el, ek, eb]; omega) (by rw [el, em]; intro z; omega) (by rw [el, ewt]; omega) (okb_t (by rw [el, ewt, ← e_v157]; exact Or.inr hnw))).trans (by rw [el, em])).symm (by rw [el, ek, eb]; exact el2) (by rw [el, ek, eb]; exact ew2) (by rw [el, ek, eb]; exact x11) (by rw [el, ek, eb]; exact x12) (by rw [el, ek, eb]; exact x13) (by rw [el, ek, eb]; exact x14) (by rw [el, ek]; exact x36) (by rw [el, ek, eb]; exact x16) x17 (by rw [el, ek, eb]; exact x37)
                            · obtain rfl : r159 = 0 := hk_eqi.mpr (hr.trans rfl)
                              refine qm_Rp.go 2 (c' := (196, [.ref 28, .int y, .int x, .int g, .int 2, .int v125, .int 2, .int 1, .int v155, .float 0], [.int (-3)], h)) rfl ?_
                              refine qm_Rp.rt (v := (some (.int (-3)))) (h' := h) rfl ?_
                              exact k0 (-3) (unl_e ⟨by omega, by omega, by omega, by omega, by omega, by omega⟩ (by rw [el, ek, eb]; omega) (by rw [el, em]; intro z; omega) (by rw [el, ewt]; omega) (okb_f (by rw [el, ewt, ← e_v157]; exact fun z => z.elim hbo hnw))).symm (by decide)
                        · refine qm_Rp.go 1 (c' := (169, [.ref 28, .int y, .int x, .int g, .int 2, .int v125, .int 2, .int 1, .int v155, .float 0], [.int (-2)], h)) rfl ?_
                          refine qm_Rp.rt (v := (some (.int (-2)))) (h' := h) rfl ?_
                          exact k0 (-2) (unl_d ⟨by omega, by omega, by omega, by omega, by omega, by omega⟩ (by rw [el, ek, eb]; omega) (by rw [el, em]; intro z; omega) (by rw [el, ewt]; omega)).symm (by decide)
                      · refine qm_Rp.go 1 (c' := (97, [.ref 28, .int y, .int x, .int g, .int 2, .int v125, .int 2, .int 1, .float 0, .float 0], [.ref 28], h)) rfl ?_
                        refine hp_getr rfl (hH.1 28 (9, 8) rfl) rfl (hH.2 28 1 (some 15) rfl) ?_
                        refine qm_Rp.go 1 (c' := (101, [.ref 28, .int y, .int x, .int g, .int 2, .int v125, .int 2, .int 1, .float 0, .float 0], [.int g, .ref 15], h)) rfl ?_
                        refine hp_inv (o := 15) (r := []) (as := [.ref 15, .int g]) rfl rfl (hH.1 15 (15, 8) rfl) rfl rfl rfl ?_
                        refine qm_Rp.go 2 (c' := (2, [.ref 15, .int g], [.ref 15, .int 4], h)) rfl ?_
                        refine hp_getr rfl (hH.1 15 (15, 8) rfl) rfl (hH.2 15 2 (some 17) rfl) ?_
                        refine qm_Rp.go 1 (c' := (6, [.ref 15, .int g], [.int g, .ref 17, .int 4], h)) rfl ?_
                        obtain ⟨v160, q_v160⟩ : ∃ v_, h.2.1 17 g.toInt.toNat = v_ := ⟨_, rfl⟩
                        refine hp_ial (v := v160) rfl (hH.1 17 (0, 4) rfl) q_v160 (fun ia_160 ib_160 => ?_)
                        refine qm_Rp.go 0 (c' := (7, [.ref 15, .int g], [.int v160, .int 4], h)) rfl ?_
                        have eh : hi g.toInt.toNat = v160.toInt := by rw [← eI]; exact congrArg Int32.toInt q_v160
                        have bh := hi4 g.toInt.toNat
                        rw [eh] at bh
                        refine qm_Rp.go 1 (c' := (8, [.ref 15, .int g], [.int (4 - v160)], h)) rfl ?_
                        obtain ⟨v162, q_v162, e_v162⟩ := hk_sub (x := 4) (y := v160) (a := 4) (b := v160.toInt) rfl rfl (by omega) (by omega)
                        rw [q_v162]
                        refine qm_Rp.rt (v := (some (.int v162))) (h' := h) rfl ?_
                        refine qm_Rp.go 1 (c' := (106, [.ref 28, .int y, .int x, .int g, .int 2, .int v125, .int 2, .int 1, .float 0, .float 0], [.int 1, .int v162], h)) rfl ?_
                        refine hp_cge (ix := v162.toInt) (iy := 1) rfl rfl rfl (fun z163 => ?_) (fun z163 => ?_)
                        · refine qm_Rp.go 1 (c' := (112, [.ref 28, .int y, .int x, .int g, .int 2, .int v125, .int 2, .int 1, .float 0, .float 0], [.ref 28], h)) rfl ?_
                          refine hp_getr rfl (hH.1 28 (9, 8) rfl) rfl (hH.2 28 0 (some 6) rfl) ?_
                          refine qm_Rp.go 0 (c' := (115, [.ref 28, .int y, .int x, .int g, .int 2, .int v125, .int 2, .int 1, .float 0, .float 0], [.ref 6], h)) rfl ?_
                          refine hp_getr rfl (hH.1 6 (6, 9) rfl) rfl (hH.2 6 1 (some 7) rfl) ?_
                          refine qm_Rp.go 1 (c' := (120, [.ref 28, .int y, .int x, .int g, .int 2, .int v125, .int 2, .int 1, .float 0, .float 0], [.int v125, .ref 7], h)) rfl ?_
                          obtain ⟨v164, q_v164⟩ : ∃ v_, h.2.1 7 v125.toInt.toNat = v_ := ⟨_, rfl⟩
                          refine hp_ial (v := v164) rfl (hH.1 7 (0, 30) rfl) q_v164 (fun ia_164 ib_164 => ?_)
                          refine qm_Rp.go 0 (c' := (121, [.ref 28, .int y, .int x, .int g, .int 2, .int v125, .int 2, .int 1, .float 0, .float 0], [.int v164], h)) rfl ?_
                          have ew_v125 : w v125.toInt.toNat = v164.toInt := by rw [← eW]; exact congrArg Int32.toInt q_v164
                          have bw_v125 := hw v125.toInt.toNat
                          rw [ew_v125] at bw_v125
                          refine qm_Rp.go 5 (c' := (153, [.ref 28, .int y, .int x, .int g, .int 2, .int v125, .int 2, .int 1, .float 0, .float 0], [.int (v164 + 0)], h)) rfl ?_
                          obtain ⟨v166, q_v166, e_v166⟩ := hk_add (x := v164) (y := 0) (a := v164.toInt) (b := 0) rfl rfl (by omega) (by omega)
                          rw [q_v166]
                          refine qm_Rp.go 1 (c' := (155, [.ref 28, .int y, .int x, .int g, .int 2, .int v125, .int 2, .int 1, .int v166, .float 0], [], h)) rfl ?_
                          have ewt : w (c (kV c (16 * y.toInt + 4 * x.toInt + 2)).toNat).toNat + (if mV c tk (16 * y.toInt + 4 * x.toInt + 2) = 2 then w (c (16 * y.toInt + 4 * x.toInt + 2).toNat).toNat else 0) = v166.toInt := by rw [ek, eb, em, if_neg (by decide)]; omega
                          refine qm_Rp.go 2 (c' := (158, [.ref 28, .int y, .int x, .int g, .int 2, .int v125, .int 2, .int 1, .int v166, .float 0], [.ref 28, .int v166], h)) rfl ?_
                          refine hp_getr rfl (hH.1 28 (9, 8) rfl) rfl hT ?_
                          refine qm_Rp.go 0 (c' := (161, [.ref 28, .int y, .int x, .int g, .int 2, .int v125, .int 2, .int 1, .int v166, .float 0], [.ref 29, .int v166], h)) rfl ?_
                          refine hp_geti (v := l) rfl (hH.1 29 (11, 16) rfl) rfl q_l ?_
                          refine qm_Rp.go 0 (c' := (164, [.ref 28, .int y, .int x, .int g, .int 2, .int v125, .int 2, .int 1, .int v166, .float 0], [.int l, .int v166], h)) rfl ?_
                          refine hp_cle (ix := v166.toInt) (iy := l.toInt) rfl rfl rfl (fun z167 => ?_) (fun z167 => ?_)
                          · refine qm_Rp.go 5 (c' := (176, [.ref 28, .int y, .int x, .int g, .int 2, .int v125, .int 2, .int 1, .int v166, .float 0], [.int (-v166), .int x, .int y, .ref 28], h)) rfl ?_
                            obtain ⟨v168, q_v168, e_v168⟩ := hk_neg (x := v166) (a := v166.toInt) rfl (by omega)
                            rw [q_v168]
                            refine hp_inv (o := 28) (r := []) (as := [.ref 28, .int y, .int x, .int v168]) rfl rfl (hH.1 28 (9, 8) rfl) rfl rfl rfl (px_cbo29 (m := v168) hH hT q_B hB eV hb q_ls hls q_wt hwt ⟨by omega, by omega⟩ ⟨by omega, by omega⟩ ⟨by omega, by omega⟩ q_g0 q_g1 q_g2 (fun r169 e_r169 => ?_))
                            rcases e_r169 with ⟨hr, hbo⟩ | ⟨hr, hbo⟩
                            · obtain rfl : r169 = 1 := hk_eqi.mpr (hr.trans rfl)
                              refine qm_Rp.go 1 (c' := (197, [.ref 28, .int y, .int x, .int g, .int 2, .int v125, .int 2, .int 1, .int v166, .float 0], [], h)) rfl ?_
                              refine px_cl22 hH q_ls hls q_wt hwt eW eH e12 e13 e14 eC eY eI eV hw hi4 hb ⟨by omega, by omega⟩ ⟨by omega, by omega⟩ ⟨by omega, by omega⟩ (fun z => by omega) ⟨by omega, by omega⟩ eb ey_v125 ex_v125 et_v125 (fun I l2 w2 e x28 q5 q6 el2 ew2 x11 x12 x13 x14 x36 x16 x17 x37 => ?_)
                              exact k1 I l2 w2 e x28 q5 q6 ((unl_f ⟨by omega, by omega, by omega, by omega, by omega, by omega⟩ (by rw [el, ek, eb]; omega) (by rw [el, em]; intro z; omega) (by rw [el, ewt]; omega) (okb_t (by rw [el, ewt, ← e_v168]; exact Or.inl hbo))).trans (by rw [el, em])).symm (by rw [el, ek, eb]; exact el2) (by rw [el, ek, eb]; exact ew2) (by rw [el, ek, eb]; exact x11) (by rw [el, ek, eb]; exact x12) (by rw [el, ek, eb]; exact x13) (by rw [el, ek, eb]; exact x14) (by rw [el, ek]; exact x36) (by rw [el, ek, eb]; exact x16) x17 (by rw [el, ek, eb]; exact x37)
                            · obtain rfl : r169 = 0 := hk_eqi.mpr (hr.trans rfl)
                              refine qm_Rp.go 6 (c' := (188, [.ref 28, .int y, .int x, .int g, .int 2, .int v125, .int 2, .int 1, .int v166, .float 0], [.int (-v166), .int x, .int y, .ref 28], h)) rfl ?_
                              rw [q_v168]
                              refine hp_inv (o := 28) (r := []) (as := [.ref 28, .int y, .int x, .int v168]) rfl rfl (hH.1 28 (9, 8) rfl) rfl rfl rfl (px_cnw29 (m := v168) hH hT q_B hB eV hb q_ls hls q_wt hwt ⟨by omega, by omega⟩ ⟨by omega, by omega⟩ ⟨by omega, by omega⟩ (fun r170 e_r170 => ?_))
                              rcases e_r170 with ⟨hr, hnw⟩ | ⟨hr, hnw⟩
                              · obtain rfl : r170 = 1 := hk_eqi.mpr (hr.trans rfl)
                                refine qm_Rp.go 1 (c' := (197, [.ref 28, .int y, .int x, .int g, .int 2, .int v125, .int 2, .int 1, .int v166, .float 0], [], h)) rfl ?_
                                refine px_cl22 hH q_ls hls q_wt hwt eW eH e12 e13 e14 eC eY eI eV hw hi4 hb ⟨by omega, by omega⟩ ⟨by omega, by omega⟩ ⟨by omega, by omega⟩ (fun z => by omega) ⟨by omega, by omega⟩ eb ey_v125 ex_v125 et_v125 (fun I l2 w2 e x28 q5 q6 el2 ew2 x11 x12 x13 x14 x36 x16 x17 x37 => ?_)
                                exact k1 I l2 w2 e x28 q5 q6 ((unl_f ⟨by omega, by omega, by omega, by omega, by omega, by omega⟩ (by rw [el, ek, eb]; omega) (by rw [el, em]; intro z; omega) (by rw [el, ewt]; omega) (okb_t (by rw [el, ewt, ← e_v168]; exact Or.inr hnw))).trans (by rw [el, em])).symm (by rw [el, ek, eb]; exact el2) (by rw [el, ek, eb]; exact ew2) (by rw [el, ek, eb]; exact x11) (by rw [el, ek, eb]; exact x12) (by rw [el, ek, eb]; exact x13) (by rw [el, ek, eb]; exact x14) (by rw [el, ek]; exact x36) (by rw [el, ek, eb]; exact x16) x17 (by rw [el, ek, eb]; exact x37)
                              · obtain rfl : r170 = 0 := hk_eqi.mpr (hr.trans rfl)
                                refine qm_Rp.go 2 (c' := (196, [.ref 28, .int y, .int x, .int g, .int 2, .int v125, .int 2, .int 1, .int v166, .float 0], [.int (-3)], h)) rfl ?_
                                refine qm_Rp.rt (v := (some (.int (-3)))) (h' := h) rfl ?_
                                exact k0 (-3) (unl_e ⟨by omega, by omega, by omega, by omega, by omega, by omega⟩ (by rw [el, ek, eb]; omega) (by rw [el, em]; intro z; omega) (by rw [el, ewt]; omega) (okb_f (by rw [el, ewt, ← e_v168]; exact fun z => z.elim hbo hnw))).symm (by decide)
                          · refine qm_Rp.go 1 (c' := (169, [.ref 28, .int y, .int x, .int g, .int 2, .int v125, .int 2, .int 1, .int v166, .float 0], [.int (-2)], h)) rfl ?_
                            refine qm_Rp.rt (v := (some (.int (-2)))) (h' := h) rfl ?_
                            exact k0 (-2) (unl_d ⟨by omega, by omega, by omega, by omega, by omega, by omega⟩ (by rw [el, ek, eb]; omega) (by rw [el, em]; intro z; omega) (by rw [el, ewt]; omega)).symm (by decide)
                        · refine qm_Rp.go 1 (c' := (110, [.ref 28, .int y, .int x, .int g, .int 2, .int v125, .int 2, .int 1, .float 0, .float 0], [.int (-1)], h)) rfl ?_
                          refine qm_Rp.rt (v := (some (.int (-1)))) (h' := h) rfl ?_
                          exact k0 (-1) (unl_c ⟨by omega, by omega, by omega, by omega, by omega, by omega⟩ (by rw [el, ek, eb]; omega) ⟨by omega, by rw [el, em]; omega⟩).symm (by decide)
                · refine qm_Rp.go 3 (c' := (26, [.ref 28, .int y, .int x, .int 2], [.int 3], h)) rfl ?_
                  refine qm_Rp.rt (v := (some (.int 3))) (h' := h) rfl ?_
                  refine qm_Rp.go 0 (c' := (24, [.ref 28, .int y, .int x, .int g, .float 0, .float 0, .float 0, .float 0, .float 0, .float 0], [.int 3], h)) rfl ?_
                  have ek : kV c (16 * y.toInt + 4 * x.toInt + 2) = 16 * y.toInt + 4 * x.toInt + 3 := (kV_1 (by rw [show 16 * y.toInt + 4 * x.toInt + 2 + 1 = 16 * y.toInt + 4 * x.toInt + 3 by omega, ec1]; omega)).trans (by omega)
                  have eb := ec1
                  have ec2 : c (16 * y.toInt + 4 * x.toInt + 2 + 1).toNat = v121.toInt := by rw [show 16 * y.toInt + 4 * x.toInt + 2 + 1 = 16 * y.toInt + 4 * x.toInt + 3 by omega]; exact ec1
                  have ab_v121 := hA (16 * y.toInt + 4 * x.toInt + 3).toNat (by omega) (by rw [eb]; omega)
                  rw [eb] at ab_v121
                  have rb_v121 := hR v121.toInt.toNat ab_v121.1
                  have ey_v121 : yb v121.toInt.toNat = y.toInt := by omega
                  have ex_v121 : rb v121.toInt.toNat = x.toInt := by omega
                  have et_v121 : tb v121.toInt.toNat = 3 := by omega
                  refine qm_Rp.go 5 (c' := (35, [.ref 28, .int y, .int x, .int g, .int 3, .float 0, .float 0, .float 0, .float 0, .float 0], [.ref 28], h)) rfl ?_
                  refine hp_getr rfl (hH.1 28 (9, 8) rfl) rfl (hH.2 28 3 (some 36) rfl) ?_
                  refine qm_Rp.go 3 (c' := (42, [.ref 28, .int y, .int x, .int g, .int 3, .float 0, .float 0, .float 0, .float 0, .float 0], [.int 3, .int x, .int y, .ref 36], h)) rfl ?_
                  refine qm_Rp.call (j := 75) (as := [.int y, .int x, .int 3]) (c' := (45, [.ref 28, .int y, .int x, .int g, .int 3, .float 0, .float 0, .float 0, .float 0, .float 0], [.ref 36], h)) rfl rfl ?_
                  refine qm_Rp.go 3 (c' := (3, [.int y, .int x, .int 3], [.int (y * 4)], h)) rfl ?_
                  rw [q_v117]
                  refine qm_Rp.go 2 (c' := (5, [.int y, .int x, .int 3], [.int (v117 + x)], h)) rfl ?_
                  rw [q_v118]
                  refine qm_Rp.go 2 (c' := (7, [.int y, .int x, .int 3], [.int (v118 * 4)], h)) rfl ?_
                  rw [q_v119]
                  refine qm_Rp.go 2 (c' := (9, [.int y, .int x, .int 3], [.int (v119 + 3)], h)) rfl ?_
                  rw [q_v120]
                  refine qm_Rp.rt (v := (some (.int v120))) (h' := h) rfl ?_
                  refine qm_Rp.go 0 (c' := (45, [.ref 28, .int y, .int x, .int g, .int 3, .float 0, .float 0, .float 0, .float 0, .float 0], [.int v120, .ref 36], h)) rfl ?_
                  refine hp_ial (v := v121) rfl (hH.1 36 (0, 80) rfl) q_v121 (fun ia_170 ib_170 => ?_)
                  refine qm_Rp.go 2 (c' := (49, [.ref 28, .int y, .int x, .int g, .int 3, .int v121, .float 0, .float 0, .float 0, .float 0], [.ref 28], h)) rfl ?_
                  refine hp_getr rfl (hH.1 28 (9, 8) rfl) rfl (hH.2 28 0 (some 6) rfl) ?_
                  refine qm_Rp.go 0 (c' := (52, [.ref 28, .int y, .int x, .int g, .int 3, .int v121, .float 0, .float 0, .float 0, .float 0], [.ref 6], h)) rfl ?_
                  refine hp_getr rfl (hH.1 6 (6, 9) rfl) rfl (hH.2 6 4 (some 10) rfl) ?_
                  refine qm_Rp.go 1 (c' := (57, [.ref 28, .int y, .int x, .int g, .int 3, .int v121, .float 0, .float 0, .float 0, .float 0], [.int v121, .ref 10], h)) rfl ?_
                  obtain ⟨v172, q_v172⟩ : ∃ v_, h.2.1 10 v121.toInt.toNat = v_ := ⟨_, rfl⟩
                  refine hp_bal (v := v172) rfl (hH.1 10 (2, 30) rfl) q_v172 (fun ia_172 ib_172 => ?_)
                  refine qm_Rp.go 0 (c' := (58, [.ref 28, .int y, .int x, .int g, .int 3, .int v121, .float 0, .float 0, .float 0, .float 0], [.int v172], h)) rfl ?_
                  have est : tk v121.toInt.toNat = v172.toInt := by rw [← eK]; exact congrArg Int32.toInt q_v172
                  refine hp_zeq (ix := v172.toInt) rfl rfl (fun z174 => ?_) (fun z174 => ?_)
                  · refine qm_Rp.go 1 (c' := (80, [.ref 28, .int y, .int x, .int g, .int 3, .int v121, .float 0, .float 0, .float 0, .float 0], [.int 3], h)) rfl ?_
                    have em : mV c tk (16 * y.toInt + 4 * x.toInt + 2) = 1 := mV_1b (by rw [ec2]; omega) (by rw [ec2, est]; omega)
                    refine qm_Rp.go 9 (c' := (93, [.ref 28, .int y, .int x, .int g, .int 3, .int v121, .int 3, .int 1, .float 0, .float 0], [.int (-1), .int g], h)) rfl ?_
                    refine hp_ceq (ix := g.toInt) (iy := (-1)) rfl rfl rfl (fun z175 => ?_) (fun z175 => ?_)
                    · refine qm_Rp.go 1 (c' := (112, [.ref 28, .int y, .int x, .int g, .int 3, .int v121, .int 3, .int 1, .float 0, .float 0], [.ref 28], h)) rfl ?_
                      refine hp_getr rfl (hH.1 28 (9, 8) rfl) rfl (hH.2 28 0 (some 6) rfl) ?_
                      refine qm_Rp.go 0 (c' := (115, [.ref 28, .int y, .int x, .int g, .int 3, .int v121, .int 3, .int 1, .float 0, .float 0], [.ref 6], h)) rfl ?_
                      refine hp_getr rfl (hH.1 6 (6, 9) rfl) rfl (hH.2 6 1 (some 7) rfl) ?_
                      refine qm_Rp.go 1 (c' := (120, [.ref 28, .int y, .int x, .int g, .int 3, .int v121, .int 3, .int 1, .float 0, .float 0], [.int v121, .ref 7], h)) rfl ?_
                      obtain ⟨v176, q_v176⟩ : ∃ v_, h.2.1 7 v121.toInt.toNat = v_ := ⟨_, rfl⟩
                      refine hp_ial (v := v176) rfl (hH.1 7 (0, 30) rfl) q_v176 (fun ia_176 ib_176 => ?_)
                      refine qm_Rp.go 0 (c' := (121, [.ref 28, .int y, .int x, .int g, .int 3, .int v121, .int 3, .int 1, .float 0, .float 0], [.int v176], h)) rfl ?_
                      have ew_v121 : w v121.toInt.toNat = v176.toInt := by rw [← eW]; exact congrArg Int32.toInt q_v176
                      have bw_v121 := hw v121.toInt.toNat
                      rw [ew_v121] at bw_v121
                      refine qm_Rp.go 5 (c' := (153, [.ref 28, .int y, .int x, .int g, .int 3, .int v121, .int 3, .int 1, .float 0, .float 0], [.int (v176 + 0)], h)) rfl ?_
                      obtain ⟨v178, q_v178, e_v178⟩ := hk_add (x := v176) (y := 0) (a := v176.toInt) (b := 0) rfl rfl (by omega) (by omega)
                      rw [q_v178]
                      refine qm_Rp.go 1 (c' := (155, [.ref 28, .int y, .int x, .int g, .int 3, .int v121, .int 3, .int 1, .int v178, .float 0], [], h)) rfl ?_
                      have ewt : w (c (kV c (16 * y.toInt + 4 * x.toInt + 2)).toNat).toNat + (if mV c tk (16 * y.toInt + 4 * x.toInt + 2) = 2 then w (c (16 * y.toInt + 4 * x.toInt + 2).toNat).toNat else 0) = v178.toInt := by rw [ek, eb, em, if_neg (by decide)]; omega
                      refine qm_Rp.go 2 (c' := (158, [.ref 28, .int y, .int x, .int g, .int 3, .int v121, .int 3, .int 1, .int v178, .float 0], [.ref 28, .int v178], h)) rfl ?_
                      refine hp_getr rfl (hH.1 28 (9, 8) rfl) rfl hT ?_
                      refine qm_Rp.go 0 (c' := (161, [.ref 28, .int y, .int x, .int g, .int 3, .int v121, .int 3, .int 1, .int v178, .float 0], [.ref 29, .int v178], h)) rfl ?_
                      refine hp_geti (v := l) rfl (hH.1 29 (11, 16) rfl) rfl q_l ?_
                      refine qm_Rp.go 0 (c' := (164, [.ref 28, .int y, .int x, .int g, .int 3, .int v121, .int 3, .int 1, .int v178, .float 0], [.int l, .int v178], h)) rfl ?_
                      refine hp_cle (ix := v178.toInt) (iy := l.toInt) rfl rfl rfl (fun z179 => ?_) (fun z179 => ?_)
                      · refine qm_Rp.go 5 (c' := (176, [.ref 28, .int y, .int x, .int g, .int 3, .int v121, .int 3, .int 1, .int v178, .float 0], [.int (-v178), .int x, .int y, .ref 28], h)) rfl ?_
                        obtain ⟨v180, q_v180, e_v180⟩ := hk_neg (x := v178) (a := v178.toInt) rfl (by omega)
                        rw [q_v180]
                        refine hp_inv (o := 28) (r := []) (as := [.ref 28, .int y, .int x, .int v180]) rfl rfl (hH.1 28 (9, 8) rfl) rfl rfl rfl (px_cbo29 (m := v180) hH hT q_B hB eV hb q_ls hls q_wt hwt ⟨by omega, by omega⟩ ⟨by omega, by omega⟩ ⟨by omega, by omega⟩ q_g0 q_g1 q_g2 (fun r181 e_r181 => ?_))
                        rcases e_r181 with ⟨hr, hbo⟩ | ⟨hr, hbo⟩
                        · obtain rfl : r181 = 1 := hk_eqi.mpr (hr.trans rfl)
                          refine qm_Rp.go 1 (c' := (197, [.ref 28, .int y, .int x, .int g, .int 3, .int v121, .int 3, .int 1, .int v178, .float 0], [], h)) rfl ?_
                          refine px_cl33 hH q_ls hls q_wt hwt eW eH e12 e13 e14 eC eY eI eV hw hi4 hb ⟨by omega, by omega⟩ ⟨by omega, by omega⟩ ⟨by omega, by omega⟩ (fun z => by omega) ⟨by omega, by omega⟩ eb ey_v121 ex_v121 et_v121 (fun I l2 w2 e x28 q5 q6 el2 ew2 x11 x12 x13 x14 x36 x16 x17 x37 => ?_)
                          exact k1 I l2 w2 e x28 q5 q6 ((unl_f ⟨by omega, by omega, by omega, by omega, by omega, by omega⟩ (by rw [el, ek, eb]; omega) (by rw [el, em]; intro z; omega) (by rw [el, ewt]; omega) (okb_t (by rw [el, ewt, ← e_v180]; exact Or.inl hbo))).trans (by rw [el, em])).symm (by rw [el, ek, eb]; exact el2) (by rw [el, ek, eb]; exact ew2) (by rw [el, ek, eb]; exact x11) (by rw [el, ek, eb]; exact x12) (by rw [el, ek, eb]; exact x13) (by rw [el, ek, eb]; exact x14) (by rw [el, ek]; exact x36) (by rw [el, ek, eb]; exact x16) x17 (by rw [el, ek, eb]; exact x37)
                        · obtain rfl : r181 = 0 := hk_eqi.mpr (hr.trans rfl)
                          refine qm_Rp.go 6 (c' := (188, [.ref 28, .int y, .int x, .int g, .int 3, .int v121, .int 3, .int 1, .int v178, .float 0], [.int (-v178), .int x, .int y, .ref 28], h)) rfl ?_
                          rw [q_v180]
                          refine hp_inv (o := 28) (r := []) (as := [.ref 28, .int y, .int x, .int v180]) rfl rfl (hH.1 28 (9, 8) rfl) rfl rfl rfl (px_cnw29 (m := v180) hH hT q_B hB eV hb q_ls hls q_wt hwt ⟨by omega, by omega⟩ ⟨by omega, by omega⟩ ⟨by omega, by omega⟩ (fun r182 e_r182 => ?_))
                          rcases e_r182 with ⟨hr, hnw⟩ | ⟨hr, hnw⟩
                          · obtain rfl : r182 = 1 := hk_eqi.mpr (hr.trans rfl)
                            refine qm_Rp.go 1 (c' := (197, [.ref 28, .int y, .int x, .int g, .int 3, .int v121, .int 3, .int 1, .int v178, .float 0], [], h)) rfl ?_
                            refine px_cl33 hH q_ls hls q_wt hwt eW eH e12 e13 e14 eC eY eI eV hw hi4 hb ⟨by omega, by omega⟩ ⟨by omega, by omega⟩ ⟨by omega, by omega⟩ (fun z => by omega) ⟨by omega, by omega⟩ eb ey_v121 ex_v121 et_v121 (fun I l2 w2 e x28 q5 q6 el2 ew2 x11 x12 x13 x14 x36 x16 x17 x37 => ?_)
                            exact k1 I l2 w2 e x28 q5 q6 ((unl_f ⟨by omega, by omega, by omega, by omega, by omega, by omega⟩ (by rw [el, ek, eb]; omega) (by rw [el, em]; intro z; omega) (by rw [el, ewt]; omega) (okb_t (by rw [el, ewt, ← e_v180]; exact Or.inr hnw))).trans (by rw [el, em])).symm (by rw [el, ek, eb]; exact el2) (by rw [el, ek, eb]; exact ew2) (by rw [el, ek, eb]; exact x11) (by rw [el, ek, eb]; exact x12) (by rw [el, ek, eb]; exact x13) (by rw [el, ek, eb]; exact x14) (by rw [el, ek]; exact x36) (by rw [el, ek, eb]; exact x16) x17 (by rw [el, ek, eb]; exact x37)
                          · obtain rfl : r182 = 0 := hk_eqi.mpr (hr.trans rfl)
                            refine qm_Rp.go 2 (c' := (196, [.ref 28, .int y, .int x, .int g, .int 3, .int v121, .int 3, .int 1, .int v178, .float 0], [.int (-3)], h)) rfl ?_
                            refine qm_Rp.rt (v := (some (.int (-3)))) (h' := h) rfl ?_
                            exact k0 (-3) (unl_e ⟨by omega, by omega, by omega, by omega, by omega, by omega⟩ (by rw [el, ek, eb]; omega) (by rw [el, em]; intro z; omega) (by rw [el, ewt]; omega) (okb_f (by rw [el, ewt, ← e_v180]; exact fun z => z.elim hbo hnw))).symm (by decide)
                      · refine qm_Rp.go 1 (c' := (169, [.ref 28, .int y, .int x, .int g, .int 3, .int v121, .int 3, .int 1, .int v178, .float 0], [.int (-2)], h)) rfl ?_
                        refine qm_Rp.rt (v := (some (.int (-2)))) (h' := h) rfl ?_
                        exact k0 (-2) (unl_d ⟨by omega, by omega, by omega, by omega, by omega, by omega⟩ (by rw [el, ek, eb]; omega) (by rw [el, em]; intro z; omega) (by rw [el, ewt]; omega)).symm (by decide)
                    · refine qm_Rp.go 1 (c' := (97, [.ref 28, .int y, .int x, .int g, .int 3, .int v121, .int 3, .int 1, .float 0, .float 0], [.ref 28], h)) rfl ?_
                      refine hp_getr rfl (hH.1 28 (9, 8) rfl) rfl (hH.2 28 1 (some 15) rfl) ?_
                      refine qm_Rp.go 1 (c' := (101, [.ref 28, .int y, .int x, .int g, .int 3, .int v121, .int 3, .int 1, .float 0, .float 0], [.int g, .ref 15], h)) rfl ?_
                      refine hp_inv (o := 15) (r := []) (as := [.ref 15, .int g]) rfl rfl (hH.1 15 (15, 8) rfl) rfl rfl rfl ?_
                      refine qm_Rp.go 2 (c' := (2, [.ref 15, .int g], [.ref 15, .int 4], h)) rfl ?_
                      refine hp_getr rfl (hH.1 15 (15, 8) rfl) rfl (hH.2 15 2 (some 17) rfl) ?_
                      refine qm_Rp.go 1 (c' := (6, [.ref 15, .int g], [.int g, .ref 17, .int 4], h)) rfl ?_
                      obtain ⟨v183, q_v183⟩ : ∃ v_, h.2.1 17 g.toInt.toNat = v_ := ⟨_, rfl⟩
                      refine hp_ial (v := v183) rfl (hH.1 17 (0, 4) rfl) q_v183 (fun ia_183 ib_183 => ?_)
                      refine qm_Rp.go 0 (c' := (7, [.ref 15, .int g], [.int v183, .int 4], h)) rfl ?_
                      have eh : hi g.toInt.toNat = v183.toInt := by rw [← eI]; exact congrArg Int32.toInt q_v183
                      have bh := hi4 g.toInt.toNat
                      rw [eh] at bh
                      refine qm_Rp.go 1 (c' := (8, [.ref 15, .int g], [.int (4 - v183)], h)) rfl ?_
                      obtain ⟨v185, q_v185, e_v185⟩ := hk_sub (x := 4) (y := v183) (a := 4) (b := v183.toInt) rfl rfl (by omega) (by omega)
                      rw [q_v185]
                      refine qm_Rp.rt (v := (some (.int v185))) (h' := h) rfl ?_
                      refine qm_Rp.go 1 (c' := (106, [.ref 28, .int y, .int x, .int g, .int 3, .int v121, .int 3, .int 1, .float 0, .float 0], [.int 1, .int v185], h)) rfl ?_
                      refine hp_cge (ix := v185.toInt) (iy := 1) rfl rfl rfl (fun z186 => ?_) (fun z186 => ?_)
                      · refine qm_Rp.go 1 (c' := (112, [.ref 28, .int y, .int x, .int g, .int 3, .int v121, .int 3, .int 1, .float 0, .float 0], [.ref 28], h)) rfl ?_
                        refine hp_getr rfl (hH.1 28 (9, 8) rfl) rfl (hH.2 28 0 (some 6) rfl) ?_
                        refine qm_Rp.go 0 (c' := (115, [.ref 28, .int y, .int x, .int g, .int 3, .int v121, .int 3, .int 1, .float 0, .float 0], [.ref 6], h)) rfl ?_
                        refine hp_getr rfl (hH.1 6 (6, 9) rfl) rfl (hH.2 6 1 (some 7) rfl) ?_
                        refine qm_Rp.go 1 (c' := (120, [.ref 28, .int y, .int x, .int g, .int 3, .int v121, .int 3, .int 1, .float 0, .float 0], [.int v121, .ref 7], h)) rfl ?_
                        obtain ⟨v187, q_v187⟩ : ∃ v_, h.2.1 7 v121.toInt.toNat = v_ := ⟨_, rfl⟩
                        refine hp_ial (v := v187) rfl (hH.1 7 (0, 30) rfl) q_v187 (fun ia_187 ib_187 => ?_)
                        refine qm_Rp.go 0 (c' := (121, [.ref 28, .int y, .int x, .int g, .int 3, .int v121, .int 3, .int 1, .float 0, .float 0], [.int v187], h)) rfl ?_
                        have ew_v121 : w v121.toInt.toNat = v187.toInt := by rw [← eW]; exact congrArg Int32.toInt q_v187
                        have bw_v121 := hw v121.toInt.toNat
                        rw [ew_v121] at bw_v121
                        refine qm_Rp.go 5 (c' := (153, [.ref 28, .int y, .int x, .int g, .int 3, .int v121, .int 3, .int 1, .float 0, .float 0], [.int (v187 + 0)], h)) rfl ?_
                        obtain ⟨v189, q_v189, e_v189⟩ := hk_add (x := v187) (y := 0) (a := v187.toInt) (b := 0) rfl rfl (by omega) (by omega)
                        rw [q_v189]
                        refine qm_Rp.go 1 (c' := (155, [.ref 28, .int y, .int x, .int g, .int 3, .int v121, .int 3, .int 1, .int v189, .float 0], [], h)) rfl ?_
                        have ewt : w (c (kV c (16 * y.toInt + 4 * x.toInt + 2)).toNat).toNat + (if mV c tk (16 * y.toInt + 4 * x.toInt + 2) = 2 then w (c (16 * y.toInt + 4 * x.toInt + 2).toNat).toNat else 0) = v189.toInt := by rw [ek, eb, em, if_neg (by decide)]; omega
                        refine qm_Rp.go 2 (c' := (158, [.ref 28, .int y, .int x, .int g, .int 3, .int v121, .int 3, .int 1, .int v189, .float 0], [.ref 28, .int v189], h)) rfl ?_
                        refine hp_getr rfl (hH.1 28 (9, 8) rfl) rfl hT ?_
                        refine qm_Rp.go 0 (c' := (161, [.ref 28, .int y, .int x, .int g, .int 3, .int v121, .int 3, .int 1, .int v189, .float 0], [.ref 29, .int v189], h)) rfl ?_
                        refine hp_geti (v := l) rfl (hH.1 29 (11, 16) rfl) rfl q_l ?_
                        refine qm_Rp.go 0 (c' := (164, [.ref 28, .int y, .int x, .int g, .int 3, .int v121, .int 3, .int 1, .int v189, .float 0], [.int l, .int v189], h)) rfl ?_
                        refine hp_cle (ix := v189.toInt) (iy := l.toInt) rfl rfl rfl (fun z190 => ?_) (fun z190 => ?_)
                        · refine qm_Rp.go 5 (c' := (176, [.ref 28, .int y, .int x, .int g, .int 3, .int v121, .int 3, .int 1, .int v189, .float 0], [.int (-v189), .int x, .int y, .ref 28], h)) rfl ?_
                          obtain ⟨v191, q_v191, e_v191⟩ := hk_neg (x := v189) (a := v189.toInt) rfl (by omega)
                          rw [q_v191]
                          refine hp_inv (o := 28) (r := []) (as := [.ref 28, .int y, .int x, .int v191]) rfl rfl (hH.1 28 (9, 8) rfl) rfl rfl rfl (px_cbo29 (m := v191) hH hT q_B hB eV hb q_ls hls q_wt hwt ⟨by omega, by omega⟩ ⟨by omega, by omega⟩ ⟨by omega, by omega⟩ q_g0 q_g1 q_g2 (fun r192 e_r192 => ?_))
                          rcases e_r192 with ⟨hr, hbo⟩ | ⟨hr, hbo⟩
                          · obtain rfl : r192 = 1 := hk_eqi.mpr (hr.trans rfl)
                            refine qm_Rp.go 1 (c' := (197, [.ref 28, .int y, .int x, .int g, .int 3, .int v121, .int 3, .int 1, .int v189, .float 0], [], h)) rfl ?_
                            refine px_cl33 hH q_ls hls q_wt hwt eW eH e12 e13 e14 eC eY eI eV hw hi4 hb ⟨by omega, by omega⟩ ⟨by omega, by omega⟩ ⟨by omega, by omega⟩ (fun z => by omega) ⟨by omega, by omega⟩ eb ey_v121 ex_v121 et_v121 (fun I l2 w2 e x28 q5 q6 el2 ew2 x11 x12 x13 x14 x36 x16 x17 x37 => ?_)
                            exact k1 I l2 w2 e x28 q5 q6 ((unl_f ⟨by omega, by omega, by omega, by omega, by omega, by omega⟩ (by rw [el, ek, eb]; omega) (by rw [el, em]; intro z; omega) (by rw [el, ewt]; omega) (okb_t (by rw [el, ewt, ← e_v191]; exact Or.inl hbo))).trans (by rw [el, em])).symm (by rw [el, ek, eb]; exact el2) (by rw [el, ek, eb]; exact ew2) (by rw [el, ek, eb]; exact x11) (by rw [el, ek, eb]; exact x12) (by rw [el, ek, eb]; exact x13) (by rw [el, ek, eb]; exact x14) (by rw [el, ek]; exact x36) (by rw [el, ek, eb]; exact x16) x17 (by rw [el, ek, eb]; exact x37)
                          · obtain rfl : r192 = 0 := hk_eqi.mpr (hr.trans rfl)
                            refine qm_Rp.go 6 (c' := (188, [.ref 28, .int y, .int x, .int g, .int 3, .int v121, .int 3, .int 1, .int v189, .float 0], [.int (-v189), .int x, .int y, .ref 28], h)) rfl ?_
                            rw [q_v191]
                            refine hp_inv (o := 28) (r := []) (as := [.ref 28, .int y, .int x, .int v191]) rfl rfl (hH.1 28 (9, 8) rfl) rfl rfl rfl (px_cnw29 (m := v191) hH hT q_B hB eV hb q_ls hls q_wt hwt ⟨by omega, by omega⟩ ⟨by omega, by omega⟩ ⟨by omega, by omega⟩ (fun r193 e_r193 => ?_))
                            rcases e_r193 with ⟨hr, hnw⟩ | ⟨hr, hnw⟩
                            · obtain rfl : r193 = 1 := hk_eqi.mpr (hr.trans rfl)
                              refine qm_Rp.go 1 (c' := (197, [.ref 28, .int y, .int x, .int g, .int 3, .int v121, .int 3, .int 1, .int v189, .float 0], [], h)) rfl ?_
                              refine px_cl33 hH q_ls hls q_wt hwt eW eH e12 e13 e14 eC eY eI eV hw hi4 hb ⟨by omega, by omega⟩ ⟨by omega, by omega⟩ ⟨by omega, by omega⟩ (fun z => by omega) ⟨by omega, by omega⟩ eb ey_v121 ex_v121 et_v121 (fun I l2 w2 e x28 q5 q6 el2 ew2 x11 x12 x13 x14 x36 x16 x17 x37 => ?_)
                              exact k1 I l2 w2 e x28 q5 q6 ((unl_f ⟨by omega, by omega, by omega, by omega, by omega, by omega⟩ (by rw [el, ek, eb]; omega) (by rw [el, em]; intro z; omega) (by rw [el, ewt]; omega) (okb_t (by rw [el, ewt, ← e_v191]; exact Or.inr hnw))).trans (by rw [el, em])).symm (by rw [el, ek, eb]; exact el2) (by rw [el, ek, eb]; exact ew2) (by rw [el, ek, eb]; exact x11) (by rw [el, ek, eb]; exact x12) (by rw [el, ek, eb]; exact x13) (by rw [el, ek, eb]; exact x14) (by rw [el, ek]; exact x36) (by rw [el, ek, eb]; exact x16) x17 (by rw [el, ek, eb]; exact x37)
                            · obtain rfl : r193 = 0 := hk_eqi.mpr (hr.trans rfl)
                              refine qm_Rp.go 2 (c' := (196, [.ref 28, .int y, .int x, .int g, .int 3, .int v121, .int 3, .int 1, .int v189, .float 0], [.int (-3)], h)) rfl ?_
                              refine qm_Rp.rt (v := (some (.int (-3)))) (h' := h) rfl ?_
                              exact k0 (-3) (unl_e ⟨by omega, by omega, by omega, by omega, by omega, by omega⟩ (by rw [el, ek, eb]; omega) (by rw [el, em]; intro z; omega) (by rw [el, ewt]; omega) (okb_f (by rw [el, ewt, ← e_v191]; exact fun z => z.elim hbo hnw))).symm (by decide)
                        · refine qm_Rp.go 1 (c' := (169, [.ref 28, .int y, .int x, .int g, .int 3, .int v121, .int 3, .int 1, .int v189, .float 0], [.int (-2)], h)) rfl ?_
                          refine qm_Rp.rt (v := (some (.int (-2)))) (h' := h) rfl ?_
                          exact k0 (-2) (unl_d ⟨by omega, by omega, by omega, by omega, by omega, by omega⟩ (by rw [el, ek, eb]; omega) (by rw [el, em]; intro z; omega) (by rw [el, ewt]; omega)).symm (by decide)
                      · refine qm_Rp.go 1 (c' := (110, [.ref 28, .int y, .int x, .int g, .int 3, .int v121, .int 3, .int 1, .float 0, .float 0], [.int (-1)], h)) rfl ?_
                        refine qm_Rp.rt (v := (some (.int (-1)))) (h' := h) rfl ?_
                        exact k0 (-1) (unl_c ⟨by omega, by omega, by omega, by omega, by omega, by omega⟩ (by rw [el, ek, eb]; omega) ⟨by omega, by rw [el, em]; omega⟩).symm (by decide)
                  · refine qm_Rp.go 3 (c' := (65, [.ref 28, .int y, .int x, .int g, .int 3, .int v121, .float 0, .float 0, .float 0, .float 0], [.int y, .ref 28, .int 3], h)) rfl ?_
                    refine hp_inv (o := 28) (r := [.int 3]) (as := [.ref 28, .int y]) rfl rfl (hH.1 28 (9, 8) rfl) rfl rfl rfl ?_
                    refine qm_Rp.go 2 (c' := (2, [.ref 28, .int y], [.int y, .ref 28], h)) rfl ?_
                    refine hp_inv (o := 28) (r := []) (as := [.ref 28, .int y]) rfl rfl (hH.1 28 (9, 8) rfl) rfl rfl rfl ?_
                    refine qm_Rp.go 1 (c' := (1, [.ref 28, .int y], [.ref 28], h)) rfl ?_
                    refine hp_geti (v := cv) rfl (hH.1 28 (9, 8) rfl) rfl q_cv ?_
                    refine qm_Rp.go 2 (c' := (6, [.ref 28, .int y], [.int (cv >>> (y &&& 31))], h)) rfl ?_
                    rw [q_v7]
                    refine qm_Rp.go 2 (c' := (8, [.ref 28, .int y], [.int (v7 &&& 1)], h)) rfl ?_
                    rw [q_v8]
                    refine qm_Rp.go 1 (c' := (9, [.ref 28, .int y], [.int 1, .int v8], h)) rfl ?_
                    refine hp_cne (ix := v8.toInt) (iy := 1) rfl rfl rfl (fun z194 => by exfalso; omega) (fun z194 => ?_)
                    refine qm_Rp.go 2 (c' := (17, [.ref 28, .int y], [.int 1], h)) rfl ?_
                    refine qm_Rp.rt (v := (some (.int 1))) (h' := h) rfl ?_
                    refine qm_Rp.go 3 (c' := (13, [.ref 28, .int y], [.int 2], h)) rfl ?_
                    refine qm_Rp.rt (v := (some (.int 2))) (h' := h) rfl ?_
                    refine qm_Rp.go 5 (c' := (80, [.ref 28, .int y, .int x, .int g, .int 3, .int v121, .float 0, .float 0, .float 0, .float 0], [.int 2], h)) rfl ?_
                    have em : mV c tk (16 * y.toInt + 4 * x.toInt + 2) = 2 := mV_2 (by rw [ec2]; omega) (by rw [ec2, est]; omega)
                    refine qm_Rp.go 9 (c' := (93, [.ref 28, .int y, .int x, .int g, .int 3, .int v121, .int 2, .int 2, .float 0, .float 0], [.int (-1), .int g], h)) rfl ?_
                    refine hp_ceq (ix := g.toInt) (iy := (-1)) rfl rfl rfl (fun z195 => ?_) (fun z195 => ?_)
                    · refine qm_Rp.go 1 (c' := (112, [.ref 28, .int y, .int x, .int g, .int 3, .int v121, .int 2, .int 2, .float 0, .float 0], [.ref 28], h)) rfl ?_
                      refine hp_getr rfl (hH.1 28 (9, 8) rfl) rfl (hH.2 28 0 (some 6) rfl) ?_
                      refine qm_Rp.go 0 (c' := (115, [.ref 28, .int y, .int x, .int g, .int 3, .int v121, .int 2, .int 2, .float 0, .float 0], [.ref 6], h)) rfl ?_
                      refine hp_getr rfl (hH.1 6 (6, 9) rfl) rfl (hH.2 6 1 (some 7) rfl) ?_
                      refine qm_Rp.go 1 (c' := (120, [.ref 28, .int y, .int x, .int g, .int 3, .int v121, .int 2, .int 2, .float 0, .float 0], [.int v121, .ref 7], h)) rfl ?_
                      obtain ⟨v196, q_v196⟩ : ∃ v_, h.2.1 7 v121.toInt.toNat = v_ := ⟨_, rfl⟩
                      refine hp_ial (v := v196) rfl (hH.1 7 (0, 30) rfl) q_v196 (fun ia_196 ib_196 => ?_)
                      refine qm_Rp.go 0 (c' := (121, [.ref 28, .int y, .int x, .int g, .int 3, .int v121, .int 2, .int 2, .float 0, .float 0], [.int v196], h)) rfl ?_
                      have ew_v121 : w v121.toInt.toNat = v196.toInt := by rw [← eW]; exact congrArg Int32.toInt q_v196
                      have bw_v121 := hw v121.toInt.toNat
                      rw [ew_v121] at bw_v121
                      refine qm_Rp.go 4 (c' := (129, [.ref 28, .int y, .int x, .int g, .int 3, .int v121, .int 2, .int 2, .float 0, .float 0], [.ref 28, .int v196], h)) rfl ?_
                      refine hp_getr rfl (hH.1 28 (9, 8) rfl) rfl (hH.2 28 0 (some 6) rfl) ?_
                      refine qm_Rp.go 0 (c' := (132, [.ref 28, .int y, .int x, .int g, .int 3, .int v121, .int 2, .int 2, .float 0, .float 0], [.ref 6, .int v196], h)) rfl ?_
                      refine hp_getr rfl (hH.1 6 (6, 9) rfl) rfl (hH.2 6 1 (some 7) rfl) ?_
                      refine qm_Rp.go 1 (c' := (136, [.ref 28, .int y, .int x, .int g, .int 3, .int v121, .int 2, .int 2, .float 0, .float 0], [.ref 28, .ref 7, .int v196], h)) rfl ?_
                      refine hp_getr rfl (hH.1 28 (9, 8) rfl) rfl (hH.2 28 3 (some 36) rfl) ?_
                      refine qm_Rp.go 3 (c' := (143, [.ref 28, .int y, .int x, .int g, .int 3, .int v121, .int 2, .int 2, .float 0, .float 0], [.int 2, .int x, .int y, .ref 36, .ref 7, .int v196], h)) rfl ?_
                      refine qm_Rp.call (j := 75) (as := [.int y, .int x, .int 2]) (c' := (146, [.ref 28, .int y, .int x, .int g, .int 3, .int v121, .int 2, .int 2, .float 0, .float 0], [.ref 36, .ref 7, .int v196], h)) rfl rfl ?_
                      refine qm_Rp.go 3 (c' := (3, [.int y, .int x, .int 2], [.int (y * 4)], h)) rfl ?_
                      rw [q_v117]
                      refine qm_Rp.go 2 (c' := (5, [.int y, .int x, .int 2], [.int (v117 + x)], h)) rfl ?_
                      rw [q_v118]
                      refine qm_Rp.go 2 (c' := (7, [.int y, .int x, .int 2], [.int (v118 * 4)], h)) rfl ?_
                      rw [q_v119]
                      refine qm_Rp.go 2 (c' := (9, [.int y, .int x, .int 2], [.int (v119 + 2)], h)) rfl ?_
                      obtain ⟨v198, q_v198, e_v198⟩ := hk_add (x := v119) (y := 2) (a := v119.toInt) (b := 2) rfl rfl (by omega) (by omega)
                      rw [q_v198]
                      refine qm_Rp.rt (v := (some (.int v198))) (h' := h) rfl ?_
                      refine qm_Rp.go 0 (c' := (146, [.ref 28, .int y, .int x, .int g, .int 3, .int v121, .int 2, .int 2, .float 0, .float 0], [.int v198, .ref 36, .ref 7, .int v196], h)) rfl ?_
                      obtain ⟨v199, q_v199⟩ : ∃ v_, h.2.1 36 v198.toInt.toNat = v_ := ⟨_, rfl⟩
                      refine hp_ial (v := v199) rfl (hH.1 36 (0, 80) rfl) q_v199 (fun ia_199 ib_199 => ?_)
                      refine qm_Rp.go 0 (c' := (147, [.ref 28, .int y, .int x, .int g, .int 3, .int v121, .int 2, .int 2, .float 0, .float 0], [.int v199, .ref 7, .int v196], h)) rfl ?_
                      have etw : c (16 * y.toInt + 4 * x.toInt + 2).toNat = v199.toInt := by rw [← eC, show (16 * y.toInt + 4 * x.toInt + 2).toNat = v198.toInt.toNat by omega]; exact congrArg Int32.toInt q_v199
                      have betw := hc (16 * y.toInt + 4 * x.toInt + 2).toNat
                      rw [etw] at betw
                      have t0 := hb2 ((16 * y.toInt + 4 * x.toInt + 2).toNat / 2) (by omega) (by rw [show 2 * ((16 * y.toInt + 4 * x.toInt + 2).toNat / 2) + 1 = (16 * y.toInt + 4 * x.toInt + 3).toNat by omega, ec1]; omega)
                      rw [show 2 * ((16 * y.toInt + 4 * x.toInt + 2).toNat / 2) = (16 * y.toInt + 4 * x.toInt + 2).toNat by omega, etw] at t0
                      have ab_v199 := hA (16 * y.toInt + 4 * x.toInt + 2).toNat (by omega) (by rw [etw]; omega)
                      rw [etw] at ab_v199
                      have rb_v199 := hR v199.toInt.toNat ab_v199.1
                      have ey_v199 : yb v199.toInt.toNat = y.toInt := by omega
                      have ex_v199 : rb v199.toInt.toNat = x.toInt := by omega
                      have et_v199 : tb v199.toInt.toNat = 2 := by omega
                      have hne : v121.toInt.toNat ≠ v199.toInt.toNat := fun z => by rw [z] at et_v121; omega
                      obtain ⟨v201, q_v201⟩ : ∃ v_, h.2.1 7 v199.toInt.toNat = v_ := ⟨_, rfl⟩
                      refine hp_ial (v := v201) rfl (hH.1 7 (0, 30) rfl) q_v201 (fun ia_201 ib_201 => ?_)
                      refine qm_Rp.go 0 (c' := (148, [.ref 28, .int y, .int x, .int g, .int 3, .int v121, .int 2, .int 2, .float 0, .float 0], [.int v201, .int v196], h)) rfl ?_
                      have ew_v199 : w v199.toInt.toNat = v201.toInt := by rw [← eW]; exact congrArg Int32.toInt q_v201
                      have bw_v199 := hw v199.toInt.toNat
                      rw [ew_v199] at bw_v199
                      refine qm_Rp.go 2 (c' := (153, [.ref 28, .int y, .int x, .int g, .int 3, .int v121, .int 2, .int 2, .float 0, .float 0], [.int (v196 + v201)], h)) rfl ?_
                      obtain ⟨v203, q_v203, e_v203⟩ := hk_add (x := v196) (y := v201) (a := v196.toInt) (b := v201.toInt) rfl rfl (by omega) (by omega)
                      rw [q_v203]
                      refine qm_Rp.go 1 (c' := (155, [.ref 28, .int y, .int x, .int g, .int 3, .int v121, .int 2, .int 2, .int v203, .float 0], [], h)) rfl ?_
                      have ewt : w (c (kV c (16 * y.toInt + 4 * x.toInt + 2)).toNat).toNat + (if mV c tk (16 * y.toInt + 4 * x.toInt + 2) = 2 then w (c (16 * y.toInt + 4 * x.toInt + 2).toNat).toNat else 0) = v203.toInt := by rw [ek, eb, em, if_pos rfl, etw]; omega
                      refine qm_Rp.go 2 (c' := (158, [.ref 28, .int y, .int x, .int g, .int 3, .int v121, .int 2, .int 2, .int v203, .float 0], [.ref 28, .int v203], h)) rfl ?_
                      refine hp_getr rfl (hH.1 28 (9, 8) rfl) rfl hT ?_
                      refine qm_Rp.go 0 (c' := (161, [.ref 28, .int y, .int x, .int g, .int 3, .int v121, .int 2, .int 2, .int v203, .float 0], [.ref 29, .int v203], h)) rfl ?_
                      refine hp_geti (v := l) rfl (hH.1 29 (11, 16) rfl) rfl q_l ?_
                      refine qm_Rp.go 0 (c' := (164, [.ref 28, .int y, .int x, .int g, .int 3, .int v121, .int 2, .int 2, .int v203, .float 0], [.int l, .int v203], h)) rfl ?_
                      refine hp_cle (ix := v203.toInt) (iy := l.toInt) rfl rfl rfl (fun z204 => ?_) (fun z204 => ?_)
                      · refine qm_Rp.go 5 (c' := (176, [.ref 28, .int y, .int x, .int g, .int 3, .int v121, .int 2, .int 2, .int v203, .float 0], [.int (-v203), .int x, .int y, .ref 28], h)) rfl ?_
                        obtain ⟨v205, q_v205, e_v205⟩ := hk_neg (x := v203) (a := v203.toInt) rfl (by omega)
                        rw [q_v205]
                        refine hp_inv (o := 28) (r := []) (as := [.ref 28, .int y, .int x, .int v205]) rfl rfl (hH.1 28 (9, 8) rfl) rfl rfl rfl (px_cbo29 (m := v205) hH hT q_B hB eV hb q_ls hls q_wt hwt ⟨by omega, by omega⟩ ⟨by omega, by omega⟩ ⟨by omega, by omega⟩ q_g0 q_g1 q_g2 (fun r206 e_r206 => ?_))
                        rcases e_r206 with ⟨hr, hbo⟩ | ⟨hr, hbo⟩
                        · obtain rfl : r206 = 1 := hk_eqi.mpr (hr.trans rfl)
                          refine qm_Rp.go 1 (c' := (197, [.ref 28, .int y, .int x, .int g, .int 3, .int v121, .int 2, .int 2, .int v203, .float 0], [], h)) rfl ?_
                          refine px_cl23 hH q_ls hls q_wt hwt eW eH e12 e13 e14 eC eY eI eV hw hi4 hb ⟨by omega, by omega⟩ ⟨by omega, by omega⟩ ⟨by omega, by omega⟩ (fun z => by omega) ⟨by omega, by omega⟩ eb ey_v121 ex_v121 et_v121 ⟨by omega, by omega⟩ etw ey_v199 ex_v199 et_v199 hne (fun I l2 w2 e x28 q5 q6 el2 ew2 x11 x12 x13 x14 x36 x16 x17 x37 => ?_)
                          exact k2 I l2 w2 e x28 q5 q6 ((unl_f ⟨by omega, by omega, by omega, by omega, by omega, by omega⟩ (by rw [el, ek, eb]; omega) (by rw [el, em]; intro z; omega) (by rw [el, ewt]; omega) (okb_t (by rw [el, ewt, ← e_v205]; exact Or.inl hbo))).trans (by rw [el, em])).symm (by rw [el, ec2, etw]; exact el2) (by rw [el, ec2, etw]; exact ew2) (by rw [el, ec2, etw]; exact x11) (by rw [el, ec2, etw]; exact x12) (by rw [el, ec2, etw]; exact x13) (by rw [el, ec2, etw]; exact x14) (by rw [el]; rw [show (16 * y.toInt + 4 * x.toInt + 2 + 1) = 16 * y.toInt + 4 * x.toInt + 3 by omega]; exact x36) (by rw [el, ec2, etw]; exact x16) x17 (by rw [el, ec2, etw]; exact x37)
                        · obtain rfl : r206 = 0 := hk_eqi.mpr (hr.trans rfl)
                          refine qm_Rp.go 6 (c' := (188, [.ref 28, .int y, .int x, .int g, .int 3, .int v121, .int 2, .int 2, .int v203, .float 0], [.int (-v203), .int x, .int y, .ref 28], h)) rfl ?_
                          rw [q_v205]
                          refine hp_inv (o := 28) (r := []) (as := [.ref 28, .int y, .int x, .int v205]) rfl rfl (hH.1 28 (9, 8) rfl) rfl rfl rfl (px_cnw29 (m := v205) hH hT q_B hB eV hb q_ls hls q_wt hwt ⟨by omega, by omega⟩ ⟨by omega, by omega⟩ ⟨by omega, by omega⟩ (fun r207 e_r207 => ?_))
                          rcases e_r207 with ⟨hr, hnw⟩ | ⟨hr, hnw⟩
                          · obtain rfl : r207 = 1 := hk_eqi.mpr (hr.trans rfl)
                            refine qm_Rp.go 1 (c' := (197, [.ref 28, .int y, .int x, .int g, .int 3, .int v121, .int 2, .int 2, .int v203, .float 0], [], h)) rfl ?_
                            refine px_cl23 hH q_ls hls q_wt hwt eW eH e12 e13 e14 eC eY eI eV hw hi4 hb ⟨by omega, by omega⟩ ⟨by omega, by omega⟩ ⟨by omega, by omega⟩ (fun z => by omega) ⟨by omega, by omega⟩ eb ey_v121 ex_v121 et_v121 ⟨by omega, by omega⟩ etw ey_v199 ex_v199 et_v199 hne (fun I l2 w2 e x28 q5 q6 el2 ew2 x11 x12 x13 x14 x36 x16 x17 x37 => ?_)
                            exact k2 I l2 w2 e x28 q5 q6 ((unl_f ⟨by omega, by omega, by omega, by omega, by omega, by omega⟩ (by rw [el, ek, eb]; omega) (by rw [el, em]; intro z; omega) (by rw [el, ewt]; omega) (okb_t (by rw [el, ewt, ← e_v205]; exact Or.inr hnw))).trans (by rw [el, em])).symm (by rw [el, ec2, etw]; exact el2) (by rw [el, ec2, etw]; exact ew2) (by rw [el, ec2, etw]; exact x11) (by rw [el, ec2, etw]; exact x12) (by rw [el, ec2, etw]; exact x13) (by rw [el, ec2, etw]; exact x14) (by rw [el]; rw [show (16 * y.toInt + 4 * x.toInt + 2 + 1) = 16 * y.toInt + 4 * x.toInt + 3 by omega]; exact x36) (by rw [el, ec2, etw]; exact x16) x17 (by rw [el, ec2, etw]; exact x37)
                          · obtain rfl : r207 = 0 := hk_eqi.mpr (hr.trans rfl)
                            refine qm_Rp.go 2 (c' := (196, [.ref 28, .int y, .int x, .int g, .int 3, .int v121, .int 2, .int 2, .int v203, .float 0], [.int (-3)], h)) rfl ?_
                            refine qm_Rp.rt (v := (some (.int (-3)))) (h' := h) rfl ?_
                            exact k0 (-3) (unl_e ⟨by omega, by omega, by omega, by omega, by omega, by omega⟩ (by rw [el, ek, eb]; omega) (by rw [el, em]; intro z; omega) (by rw [el, ewt]; omega) (okb_f (by rw [el, ewt, ← e_v205]; exact fun z => z.elim hbo hnw))).symm (by decide)
                      · refine qm_Rp.go 1 (c' := (169, [.ref 28, .int y, .int x, .int g, .int 3, .int v121, .int 2, .int 2, .int v203, .float 0], [.int (-2)], h)) rfl ?_
                        refine qm_Rp.rt (v := (some (.int (-2)))) (h' := h) rfl ?_
                        exact k0 (-2) (unl_d ⟨by omega, by omega, by omega, by omega, by omega, by omega⟩ (by rw [el, ek, eb]; omega) (by rw [el, em]; intro z; omega) (by rw [el, ewt]; omega)).symm (by decide)
                    · refine qm_Rp.go 1 (c' := (97, [.ref 28, .int y, .int x, .int g, .int 3, .int v121, .int 2, .int 2, .float 0, .float 0], [.ref 28], h)) rfl ?_
                      refine hp_getr rfl (hH.1 28 (9, 8) rfl) rfl (hH.2 28 1 (some 15) rfl) ?_
                      refine qm_Rp.go 1 (c' := (101, [.ref 28, .int y, .int x, .int g, .int 3, .int v121, .int 2, .int 2, .float 0, .float 0], [.int g, .ref 15], h)) rfl ?_
                      refine hp_inv (o := 15) (r := []) (as := [.ref 15, .int g]) rfl rfl (hH.1 15 (15, 8) rfl) rfl rfl rfl ?_
                      refine qm_Rp.go 2 (c' := (2, [.ref 15, .int g], [.ref 15, .int 4], h)) rfl ?_
                      refine hp_getr rfl (hH.1 15 (15, 8) rfl) rfl (hH.2 15 2 (some 17) rfl) ?_
                      refine qm_Rp.go 1 (c' := (6, [.ref 15, .int g], [.int g, .ref 17, .int 4], h)) rfl ?_
                      obtain ⟨v208, q_v208⟩ : ∃ v_, h.2.1 17 g.toInt.toNat = v_ := ⟨_, rfl⟩
                      refine hp_ial (v := v208) rfl (hH.1 17 (0, 4) rfl) q_v208 (fun ia_208 ib_208 => ?_)
                      refine qm_Rp.go 0 (c' := (7, [.ref 15, .int g], [.int v208, .int 4], h)) rfl ?_
                      have eh : hi g.toInt.toNat = v208.toInt := by rw [← eI]; exact congrArg Int32.toInt q_v208
                      have bh := hi4 g.toInt.toNat
                      rw [eh] at bh
                      refine qm_Rp.go 1 (c' := (8, [.ref 15, .int g], [.int (4 - v208)], h)) rfl ?_
                      obtain ⟨v210, q_v210, e_v210⟩ := hk_sub (x := 4) (y := v208) (a := 4) (b := v208.toInt) rfl rfl (by omega) (by omega)
                      rw [q_v210]
                      refine qm_Rp.rt (v := (some (.int v210))) (h' := h) rfl ?_
                      refine qm_Rp.go 1 (c' := (106, [.ref 28, .int y, .int x, .int g, .int 3, .int v121, .int 2, .int 2, .float 0, .float 0], [.int 2, .int v210], h)) rfl ?_
                      refine hp_cge (ix := v210.toInt) (iy := 2) rfl rfl rfl (fun z211 => ?_) (fun z211 => ?_)
                      · refine qm_Rp.go 1 (c' := (112, [.ref 28, .int y, .int x, .int g, .int 3, .int v121, .int 2, .int 2, .float 0, .float 0], [.ref 28], h)) rfl ?_
                        refine hp_getr rfl (hH.1 28 (9, 8) rfl) rfl (hH.2 28 0 (some 6) rfl) ?_
                        refine qm_Rp.go 0 (c' := (115, [.ref 28, .int y, .int x, .int g, .int 3, .int v121, .int 2, .int 2, .float 0, .float 0], [.ref 6], h)) rfl ?_
                        refine hp_getr rfl (hH.1 6 (6, 9) rfl) rfl (hH.2 6 1 (some 7) rfl) ?_
                        refine qm_Rp.go 1 (c' := (120, [.ref 28, .int y, .int x, .int g, .int 3, .int v121, .int 2, .int 2, .float 0, .float 0], [.int v121, .ref 7], h)) rfl ?_
                        obtain ⟨v212, q_v212⟩ : ∃ v_, h.2.1 7 v121.toInt.toNat = v_ := ⟨_, rfl⟩
                        refine hp_ial (v := v212) rfl (hH.1 7 (0, 30) rfl) q_v212 (fun ia_212 ib_212 => ?_)
                        refine qm_Rp.go 0 (c' := (121, [.ref 28, .int y, .int x, .int g, .int 3, .int v121, .int 2, .int 2, .float 0, .float 0], [.int v212], h)) rfl ?_
                        have ew_v121 : w v121.toInt.toNat = v212.toInt := by rw [← eW]; exact congrArg Int32.toInt q_v212
                        have bw_v121 := hw v121.toInt.toNat
                        rw [ew_v121] at bw_v121
                        refine qm_Rp.go 4 (c' := (129, [.ref 28, .int y, .int x, .int g, .int 3, .int v121, .int 2, .int 2, .float 0, .float 0], [.ref 28, .int v212], h)) rfl ?_
                        refine hp_getr rfl (hH.1 28 (9, 8) rfl) rfl (hH.2 28 0 (some 6) rfl) ?_
                        refine qm_Rp.go 0 (c' := (132, [.ref 28, .int y, .int x, .int g, .int 3, .int v121, .int 2, .int 2, .float 0, .float 0], [.ref 6, .int v212], h)) rfl ?_
                        refine hp_getr rfl (hH.1 6 (6, 9) rfl) rfl (hH.2 6 1 (some 7) rfl) ?_
                        refine qm_Rp.go 1 (c' := (136, [.ref 28, .int y, .int x, .int g, .int 3, .int v121, .int 2, .int 2, .float 0, .float 0], [.ref 28, .ref 7, .int v212], h)) rfl ?_
                        refine hp_getr rfl (hH.1 28 (9, 8) rfl) rfl (hH.2 28 3 (some 36) rfl) ?_
                        refine qm_Rp.go 3 (c' := (143, [.ref 28, .int y, .int x, .int g, .int 3, .int v121, .int 2, .int 2, .float 0, .float 0], [.int 2, .int x, .int y, .ref 36, .ref 7, .int v212], h)) rfl ?_
                        refine qm_Rp.call (j := 75) (as := [.int y, .int x, .int 2]) (c' := (146, [.ref 28, .int y, .int x, .int g, .int 3, .int v121, .int 2, .int 2, .float 0, .float 0], [.ref 36, .ref 7, .int v212], h)) rfl rfl ?_
                        refine qm_Rp.go 3 (c' := (3, [.int y, .int x, .int 2], [.int (y * 4)], h)) rfl ?_
                        rw [q_v117]
                        refine qm_Rp.go 2 (c' := (5, [.int y, .int x, .int 2], [.int (v117 + x)], h)) rfl ?_
                        rw [q_v118]
                        refine qm_Rp.go 2 (c' := (7, [.int y, .int x, .int 2], [.int (v118 * 4)], h)) rfl ?_
                        rw [q_v119]
                        refine qm_Rp.go 2 (c' := (9, [.int y, .int x, .int 2], [.int (v119 + 2)], h)) rfl ?_
                        obtain ⟨v214, q_v214, e_v214⟩ := hk_add (x := v119) (y := 2) (a := v119.toInt) (b := 2) rfl rfl (by omega) (by omega)
                        rw [q_v214]
                        refine qm_Rp.rt (v := (some (.int v214))) (h' := h) rfl ?_
                        refine qm_Rp.go 0 (c' := (146, [.ref 28, .int y, .int x, .int g, .int 3, .int v121, .int 2, .int 2, .float 0, .float 0], [.int v214, .ref 36, .ref 7, .int v212], h)) rfl ?_
                        obtain ⟨v215, q_v215⟩ : ∃ v_, h.2.1 36 v214.toInt.toNat = v_ := ⟨_, rfl⟩
                        refine hp_ial (v := v215) rfl (hH.1 36 (0, 80) rfl) q_v215 (fun ia_215 ib_215 => ?_)
                        refine qm_Rp.go 0 (c' := (147, [.ref 28, .int y, .int x, .int g, .int 3, .int v121, .int 2, .int 2, .float 0, .float 0], [.int v215, .ref 7, .int v212], h)) rfl ?_
                        have etw : c (16 * y.toInt + 4 * x.toInt + 2).toNat = v215.toInt := by rw [← eC, show (16 * y.toInt + 4 * x.toInt + 2).toNat = v214.toInt.toNat by omega]; exact congrArg Int32.toInt q_v215
                        have betw := hc (16 * y.toInt + 4 * x.toInt + 2).toNat
                        rw [etw] at betw
                        have t0 := hb2 ((16 * y.toInt + 4 * x.toInt + 2).toNat / 2) (by omega) (by rw [show 2 * ((16 * y.toInt + 4 * x.toInt + 2).toNat / 2) + 1 = (16 * y.toInt + 4 * x.toInt + 3).toNat by omega, ec1]; omega)
                        rw [show 2 * ((16 * y.toInt + 4 * x.toInt + 2).toNat / 2) = (16 * y.toInt + 4 * x.toInt + 2).toNat by omega, etw] at t0
                        have ab_v215 := hA (16 * y.toInt + 4 * x.toInt + 2).toNat (by omega) (by rw [etw]; omega)
                        rw [etw] at ab_v215
                        have rb_v215 := hR v215.toInt.toNat ab_v215.1
                        have ey_v215 : yb v215.toInt.toNat = y.toInt := by omega
                        have ex_v215 : rb v215.toInt.toNat = x.toInt := by omega
                        have et_v215 : tb v215.toInt.toNat = 2 := by omega
                        have hne : v121.toInt.toNat ≠ v215.toInt.toNat := fun z => by rw [z] at et_v121; omega
                        obtain ⟨v217, q_v217⟩ : ∃ v_, h.2.1 7 v215.toInt.toNat = v_ := ⟨_, rfl⟩
                        refine hp_ial (v := v217) rfl (hH.1 7 (0, 30) rfl) q_v217 (fun ia_217 ib_217 => ?_)
                        refine qm_Rp.go 0 (c' := (148, [.ref 28, .int y, .int x, .int g, .int 3, .int v121, .int 2, .int 2, .float 0, .float 0], [.int v217, .int v212], h)) rfl ?_
                        have ew_v215 : w v215.toInt.toNat = v217.toInt := by rw [← eW]; exact congrArg Int32.toInt q_v217
                        have bw_v215 := hw v215.toInt.toNat
                        rw [ew_v215] at bw_v215
                        refine qm_Rp.go 2 (c' := (153, [.ref 28, .int y, .int x, .int g, .int 3, .int v121, .int 2, .int 2, .float 0, .float 0], [.int (v212 + v217)], h)) rfl ?_
                        obtain ⟨v219, q_v219, e_v219⟩ := hk_add (x := v212) (y := v217) (a := v212.toInt) (b := v217.toInt) rfl rfl (by omega) (by omega)
                        rw [q_v219]
                        refine qm_Rp.go 1 (c' := (155, [.ref 28, .int y, .int x, .int g, .int 3, .int v121, .int 2, .int 2, .int v219, .float 0], [], h)) rfl ?_
                        have ewt : w (c (kV c (16 * y.toInt + 4 * x.toInt + 2)).toNat).toNat + (if mV c tk (16 * y.toInt + 4 * x.toInt + 2) = 2 then w (c (16 * y.toInt + 4 * x.toInt + 2).toNat).toNat else 0) = v219.toInt := by rw [ek, eb, em, if_pos rfl, etw]; omega
                        refine qm_Rp.go 2 (c' := (158, [.ref 28, .int y, .int x, .int g, .int 3, .int v121, .int 2, .int 2, .int v219, .float 0], [.ref 28, .int v219], h)) rfl ?_
                        refine hp_getr rfl (hH.1 28 (9, 8) rfl) rfl hT ?_
                        refine qm_Rp.go 0 (c' := (161, [.ref 28, .int y, .int x, .int g, .int 3, .int v121, .int 2, .int 2, .int v219, .float 0], [.ref 29, .int v219], h)) rfl ?_
                        refine hp_geti (v := l) rfl (hH.1 29 (11, 16) rfl) rfl q_l ?_
                        refine qm_Rp.go 0 (c' := (164, [.ref 28, .int y, .int x, .int g, .int 3, .int v121, .int 2, .int 2, .int v219, .float 0], [.int l, .int v219], h)) rfl ?_
                        refine hp_cle (ix := v219.toInt) (iy := l.toInt) rfl rfl rfl (fun z220 => ?_) (fun z220 => ?_)
                        · refine qm_Rp.go 5 (c' := (176, [.ref 28, .int y, .int x, .int g, .int 3, .int v121, .int 2, .int 2, .int v219, .float 0], [.int (-v219), .int x, .int y, .ref 28], h)) rfl ?_
                          obtain ⟨v221, q_v221, e_v221⟩ := hk_neg (x := v219) (a := v219.toInt) rfl (by omega)
                          rw [q_v221]
                          refine hp_inv (o := 28) (r := []) (as := [.ref 28, .int y, .int x, .int v221]) rfl rfl (hH.1 28 (9, 8) rfl) rfl rfl rfl (px_cbo29 (m := v221) hH hT q_B hB eV hb q_ls hls q_wt hwt ⟨by omega, by omega⟩ ⟨by omega, by omega⟩ ⟨by omega, by omega⟩ q_g0 q_g1 q_g2 (fun r222 e_r222 => ?_))
                          rcases e_r222 with ⟨hr, hbo⟩ | ⟨hr, hbo⟩
                          · obtain rfl : r222 = 1 := hk_eqi.mpr (hr.trans rfl)
                            refine qm_Rp.go 1 (c' := (197, [.ref 28, .int y, .int x, .int g, .int 3, .int v121, .int 2, .int 2, .int v219, .float 0], [], h)) rfl ?_
                            refine px_cl23 hH q_ls hls q_wt hwt eW eH e12 e13 e14 eC eY eI eV hw hi4 hb ⟨by omega, by omega⟩ ⟨by omega, by omega⟩ ⟨by omega, by omega⟩ (fun z => by omega) ⟨by omega, by omega⟩ eb ey_v121 ex_v121 et_v121 ⟨by omega, by omega⟩ etw ey_v215 ex_v215 et_v215 hne (fun I l2 w2 e x28 q5 q6 el2 ew2 x11 x12 x13 x14 x36 x16 x17 x37 => ?_)
                            exact k2 I l2 w2 e x28 q5 q6 ((unl_f ⟨by omega, by omega, by omega, by omega, by omega, by omega⟩ (by rw [el, ek, eb]; omega) (by rw [el, em]; intro z; omega) (by rw [el, ewt]; omega) (okb_t (by rw [el, ewt, ← e_v221]; exact Or.inl hbo))).trans (by rw [el, em])).symm (by rw [el, ec2, etw]; exact el2) (by rw [el, ec2, etw]; exact ew2) (by rw [el, ec2, etw]; exact x11) (by rw [el, ec2, etw]; exact x12) (by rw [el, ec2, etw]; exact x13) (by rw [el, ec2, etw]; exact x14) (by rw [el]; rw [show (16 * y.toInt + 4 * x.toInt + 2 + 1) = 16 * y.toInt + 4 * x.toInt + 3 by omega]; exact x36) (by rw [el, ec2, etw]; exact x16) x17 (by rw [el, ec2, etw]; exact x37)
                          · obtain rfl : r222 = 0 := hk_eqi.mpr (hr.trans rfl)
                            refine qm_Rp.go 6 (c' := (188, [.ref 28, .int y, .int x, .int g, .int 3, .int v121, .int 2, .int 2, .int v219, .float 0], [.int (-v219), .int x, .int y, .ref 28], h)) rfl ?_
                            rw [q_v221]
                            refine hp_inv (o := 28) (r := []) (as := [.ref 28, .int y, .int x, .int v221]) rfl rfl (hH.1 28 (9, 8) rfl) rfl rfl rfl (px_cnw29 (m := v221) hH hT q_B hB eV hb q_ls hls q_wt hwt ⟨by omega, by omega⟩ ⟨by omega, by omega⟩ ⟨by omega, by omega⟩ (fun r223 e_r223 => ?_))
                            rcases e_r223 with ⟨hr, hnw⟩ | ⟨hr, hnw⟩
                            · obtain rfl : r223 = 1 := hk_eqi.mpr (hr.trans rfl)
                              refine qm_Rp.go 1 (c' := (197, [.ref 28, .int y, .int x, .int g, .int 3, .int v121, .int 2, .int 2, .int v219, .float 0], [], h)) rfl ?_
                              refine px_cl23 hH q_ls hls q_wt hwt eW eH e12 e13 e14 eC eY eI eV hw hi4 hb ⟨by omega, by omega⟩ ⟨by omega, by omega⟩ ⟨by omega, by omega⟩ (fun z => by omega) ⟨by omega, by omega⟩ eb ey_v121 ex_v121 et_v121 ⟨by omega, by omega⟩ etw ey_v215 ex_v215 et_v215 hne (fun I l2 w2 e x28 q5 q6 el2 ew2 x11 x12 x13 x14 x36 x16 x17 x37 => ?_)
                              exact k2 I l2 w2 e x28 q5 q6 ((unl_f ⟨by omega, by omega, by omega, by omega, by omega, by omega⟩ (by rw [el, ek, eb]; omega) (by rw [el, em]; intro z; omega) (by rw [el, ewt]; omega) (okb_t (by rw [el, ewt, ← e_v221]; exact Or.inr hnw))).trans (by rw [el, em])).symm (by rw [el, ec2, etw]; exact el2) (by rw [el, ec2, etw]; exact ew2) (by rw [el, ec2, etw]; exact x11) (by rw [el, ec2, etw]; exact x12) (by rw [el, ec2, etw]; exact x13) (by rw [el, ec2, etw]; exact x14) (by rw [el]; rw [show (16 * y.toInt + 4 * x.toInt + 2 + 1) = 16 * y.toInt + 4 * x.toInt + 3 by omega]; exact x36) (by rw [el, ec2, etw]; exact x16) x17 (by rw [el, ec2, etw]; exact x37)
                            · obtain rfl : r223 = 0 := hk_eqi.mpr (hr.trans rfl)
                              refine qm_Rp.go 2 (c' := (196, [.ref 28, .int y, .int x, .int g, .int 3, .int v121, .int 2, .int 2, .int v219, .float 0], [.int (-3)], h)) rfl ?_
                              refine qm_Rp.rt (v := (some (.int (-3)))) (h' := h) rfl ?_
                              exact k0 (-3) (unl_e ⟨by omega, by omega, by omega, by omega, by omega, by omega⟩ (by rw [el, ek, eb]; omega) (by rw [el, em]; intro z; omega) (by rw [el, ewt]; omega) (okb_f (by rw [el, ewt, ← e_v221]; exact fun z => z.elim hbo hnw))).symm (by decide)
                        · refine qm_Rp.go 1 (c' := (169, [.ref 28, .int y, .int x, .int g, .int 3, .int v121, .int 2, .int 2, .int v219, .float 0], [.int (-2)], h)) rfl ?_
                          refine qm_Rp.rt (v := (some (.int (-2)))) (h' := h) rfl ?_
                          exact k0 (-2) (unl_d ⟨by omega, by omega, by omega, by omega, by omega, by omega⟩ (by rw [el, ek, eb]; omega) (by rw [el, em]; intro z; omega) (by rw [el, ewt]; omega)).symm (by decide)
                      · refine qm_Rp.go 1 (c' := (110, [.ref 28, .int y, .int x, .int g, .int 3, .int v121, .int 2, .int 2, .float 0, .float 0], [.int (-1)], h)) rfl ?_
                        refine qm_Rp.rt (v := (some (.int (-1)))) (h' := h) rfl ?_
                        exact k0 (-1) (unl_c ⟨by omega, by omega, by omega, by omega, by omega, by omega⟩ (by rw [el, ek, eb]; omega) ⟨by omega, by rw [el, em]; omega⟩).symm (by decide)
set_option maxHeartbeats 4000000 in
theorem px_cunl111 {X : Option (Nat × (Nat → Int32))} {Z : Option Value → qm_H → Prop} {h : qm_H} {fu : Nat} (hH : hk_H h) {y x g : Int32} {tk : Nat → Int} {n : Int32} (q_n : h.2.1 6 0 = n) (hn : 0 ≤ n.toInt ∧ n.toInt ≤ 30) {w wh yb rb tb c yc hi bw : Nat → Int} (eW : pI h.2.1 7 = w) (eH : pI h.2.1 11 = wh) (e12 : pI h.2.1 12 = yb) (e13 : pI h.2.1 13 = rb) (e14 : pI h.2.1 14 = tb) (eC : pI h.2.1 36 = c) (eY : pI h.2.1 16 = yc) (eI : pI h.2.1 17 = hi) (eV : pI h.2.1 37 = bw) (hw : ∀ b, 0 ≤ w b ∧ w b ≤ 40) (hh : ∀ b, 0 ≤ wh b ∧ wh b ≤ 2) (hc : ∀ k, -1 ≤ c k ∧ c k ≤ 29) (hi4 : ∀ x, 0 ≤ hi x ∧ hi x ≤ 4) (hy29 : ∀ k, 0 ≤ yc k ∧ yc k ≤ 29) (hb : ∀ c, c < 5 → 0 ≤ bw c ∧ bw c ≤ 1200) {ls wt cv : Int32} (q_ls : h.2.1 28 5 = ls) (hls : -3600 ≤ ls.toInt ∧ ls.toInt ≤ 3600) (q_wt : h.2.1 28 6 = wt) (hwt : 0 ≤ wt.toInt ∧ wt.toInt ≤ 1200) (q_cv : h.2.1 28 4 = cv) (hT : h.2.2.2 28 2 = some 111) {B l g0 g1 g2 : Int32} (q_B : h.2.1 111 0 = B) (hB : 1 ≤ B.toInt ∧ B.toInt ≤ 5) (q_g0 : h.2.1 111 1 = g0) (q_g1 : h.2.1 111 2 = g1) (q_g2 : h.2.1 111 3 = g2) (q_l : h.2.1 111 4 = l) (eK : pI h.2.1 10 = tk) (hA : ∀ k : Nat, k < 80 → 0 ≤ c k → wh (c k).toNat = 1 ∧ 16 * yb (c k).toNat + 4 * rb (c k).toNat + tb (c k).toNat = (k : Int)) (hR : ∀ b, wh b = 1 → (0 ≤ yb b ∧ yb b ≤ 4) ∧ (0 ≤ rb b ∧ rb b ≤ 3) ∧ (0 ≤ tb b ∧ tb b ≤ 3)) (hb2 : ∀ q : Nat, q < 40 → 0 ≤ c (2 * q + 1) → 0 ≤ c (2 * q)) (k0 : ∀ r : Int32, r.toInt = unlV y.toInt B.toInt x.toInt g.toInt (lowV cv y x.toInt) c tk w hi l.toInt (okb (mayC B.toInt g0.toInt g1.toInt g2.toInt ls.toInt wt.toInt bw y.toInt x.toInt (-(w (c (kV c (lowV cv y x.toInt)).toNat).toNat + (if mV c tk (lowV cv y x.toInt) = 2 then w (c (lowV cv y x.toInt).toNat).toNat else 0))))) → r.toInt < 0 → Z (some (.int r)) h) (k1 : ∀ (I : Nat → Nat → Int32) (l2 w2 : Int32), (∀ o, [11, 12, 13, 14, 16, 17, 28, 36, 37].contains o = false → ∀ i, I o i = h.2.1 o i) → (∀ i, [5, 6].contains i = false → I 28 i = h.2.1 28 i) → I 28 5 = l2 → I 28 6 = w2 → (1 : Int) = unlV y.toInt B.toInt x.toInt g.toInt (lowV cv y x.toInt) c tk w hi l.toInt (okb (mayC B.toInt g0.toInt g1.toInt g2.toInt ls.toInt wt.toInt bw y.toInt x.toInt (-(w (c (kV c (lowV cv y x.toInt)).toNat).toNat + (if mV c tk (lowV cv y x.toInt) = 2 then w (c (lowV cv y x.toInt).toNat).toNat else 0))))) → l2.toInt = ls.toInt - w (c (kV c (lowV cv y x.toInt)).toNat).toNat * (2 * x.toInt - 3) → w2.toInt = wt.toInt - w (c (kV c (lowV cv y x.toInt)).toNat).toNat → pI I 11 = fu_up wh (c (kV c (lowV cv y x.toInt)).toNat).toNat (if g.toInt = -1 then 0 else 2) → pI I 12 = fu_up yb (c (kV c (lowV cv y x.toInt)).toNat).toNat (if g.toInt = -1 then -1 else g.toInt) → pI I 13 = fu_up rb (c (kV c (lowV cv y x.toInt)).toNat).toNat (-1) → pI I 14 = fu_up tb (c (kV c (lowV cv y x.toInt)).toNat).toNat (if g.toInt = -1 then -1 else hi g.toInt.toNat) → pI I 36 = fu_up c (kV c (lowV cv y x.toInt)).toNat (-1) → pI I 16 = (if g.toInt = -1 then yc else fu_up yc (4 * g.toInt + hi g.toInt.toNat).toNat (c (kV c (lowV cv y x.toInt)).toNat)) → pI I 17 = (if g.toInt = -1 then hi else fu_up hi g.toInt.toNat (hi g.toInt.toNat + 1)) → pI I 37 = fu_up bw y.toInt.toNat (bw y.toInt.toNat + -w (c (kV c (lowV cv y x.toInt)).toNat).toNat) → Z (some (.int 1)) (h.1, I, h.2.2.1, h.2.2.2)) (k2 : ∀ (I : Nat → Nat → Int32) (l2 w2 : Int32), (∀ o, [11, 12, 13, 14, 16, 17, 28, 36, 37].contains o = false → ∀ i, I o i = h.2.1 o i) → (∀ i, [5, 6].contains i = false → I 28 i = h.2.1 28 i) → I 28 5 = l2 → I 28 6 = w2 → (2 : Int) = unlV y.toInt B.toInt x.toInt g.toInt (lowV cv y x.toInt) c tk w hi l.toInt (okb (mayC B.toInt g0.toInt g1.toInt g2.toInt ls.toInt wt.toInt bw y.toInt x.toInt (-(w (c (kV c (lowV cv y x.toInt)).toNat).toNat + (if mV c tk (lowV cv y x.toInt) = 2 then w (c (lowV cv y x.toInt).toNat).toNat else 0))))) → l2.toInt = ls.toInt - w (c (lowV cv y x.toInt).toNat).toNat * (2 * x.toInt - 3) - w (c ((lowV cv y x.toInt) + 1).toNat).toNat * (2 * x.toInt - 3) → w2.toInt = wt.toInt - w (c (lowV cv y x.toInt).toNat).toNat - w (c ((lowV cv y x.toInt) + 1).toNat).toNat → pI I 11 = (if g.toInt = -1 then fu_up (fu_up wh (c ((lowV cv y x.toInt) + 1).toNat).toNat 0) (c (lowV cv y x.toInt).toNat).toNat 0 else fu_up (fu_up wh (c (lowV cv y x.toInt).toNat).toNat 2) (c ((lowV cv y x.toInt) + 1).toNat).toNat 2) → pI I 12 = (if g.toInt = -1 then fu_up (fu_up yb (c (lowV cv y x.toInt).toNat).toNat (-1)) (c ((lowV cv y x.toInt) + 1).toNat).toNat (-1) else fu_up (fu_up yb (c (lowV cv y x.toInt).toNat).toNat g.toInt) (c ((lowV cv y x.toInt) + 1).toNat).toNat g.toInt) → pI I 13 = fu_up (fu_up rb (c (lowV cv y x.toInt).toNat).toNat (-1)) (c ((lowV cv y x.toInt) + 1).toNat).toNat (-1) → pI I 14 = (if g.toInt = -1 then fu_up (fu_up tb (c (lowV cv y x.toInt).toNat).toNat (-1)) (c ((lowV cv y x.toInt) + 1).toNat).toNat (-1) else fu_up (fu_up tb (c (lowV cv y x.toInt).toNat).toNat (hi g.toInt.toNat)) (c ((lowV cv y x.toInt) + 1).toNat).toNat (hi g.toInt.toNat + 1)) → pI I 36 = fu_up (fu_up c ((lowV cv y x.toInt) + 1).toNat (-1)) (lowV cv y x.toInt).toNat (-1) → pI I 16 = (if g.toInt = -1 then yc else fu_up (fu_up yc (4 * g.toInt + hi g.toInt.toNat).toNat (c (lowV cv y x.toInt).toNat)) (4 * g.toInt + (hi g.toInt.toNat + 1)).toNat (c ((lowV cv y x.toInt) + 1).toNat)) → pI I 17 = (if g.toInt = -1 then hi else fu_up hi g.toInt.toNat (hi g.toInt.toNat + 1 + 1)) → pI I 37 = fu_up bw y.toInt.toNat (bw y.toInt.toNat + -w (c (lowV cv y x.toInt).toNat).toNat + -w (c ((lowV cv y x.toInt) + 1).toNat).toNat) → Z (some (.int 2)) (h.1, I, h.2.2.1, h.2.2.2)) : qm_Rp fu X cd_102 (qm_ent 10 [.ref 28, .int y, .int x, .int g] h) Z := by
  refine qm_Rp.go 0 (c' := (0, [.ref 28, .int y, .int x, .int g, .float 0, .float 0, .float 0, .float 0, .float 0, .float 0], [], h)) rfl ?_
  have kz0 : (0 : Int32).toInt = 0 := rfl
  have kz1 : (1 : Int32).toInt = 1 := rfl
  have kz2 : (2 : Int32).toInt = 2 := rfl
  have kz3 : (3 : Int32).toInt = 3 := rfl
  have kz4 : (4 : Int32).toInt = 4 := rfl
  have kz5 : (5 : Int32).toInt = 5 := rfl
  have kz6 : (6 : Int32).toInt = 6 := rfl
  have kz7 : (7 : Int32).toInt = 7 := rfl
  have kz8 : (8 : Int32).toInt = 8 := rfl
  have kz9 : (9 : Int32).toInt = 9 := rfl
  have kzm1 : ((-1) : Int32).toInt = (-1) := rfl
  have kzm2 : ((-2) : Int32).toInt = (-2) := rfl
  have kzm3 : ((-3) : Int32).toInt = (-3) := rfl
  refine qm_Rp.go 3 (c' := (3, [.ref 28, .int y, .int x, .int g, .float 0, .float 0, .float 0, .float 0, .float 0, .float 0], [.int x, .int y, .ref 28], h)) rfl ?_
  refine hp_inv (o := 28) (r := []) (as := [.ref 28, .int y, .int x]) rfl rfl (hH.1 28 (9, 8) rfl) rfl rfl rfl ?_
  refine qm_Rp.go 2 (c' := (2, [.ref 28, .int y, .int x], [.int y, .ref 28], h)) rfl ?_
  refine hp_inv (o := 28) (r := []) (as := [.ref 28, .int y]) rfl rfl (hH.1 28 (9, 8) rfl) rfl rfl rfl ?_
  refine qm_Rp.go 1 (c' := (1, [.ref 28, .int y], [.int y], h)) rfl ?_
  refine hp_zlt (ix := y.toInt) rfl rfl (fun z1 => ?_) (fun z1 => ?_)
  · refine qm_Rp.go 1 (c' := (20, [.ref 28, .int y], [.int 0], h)) rfl ?_
    refine qm_Rp.rt (v := (some (.int 0))) (h' := h) rfl ?_
    refine qm_Rp.go 2 (c' := (22, [.ref 28, .int y, .int x], [.int 0], h)) rfl ?_
    refine qm_Rp.rt (v := (some (.int 0))) (h' := h) rfl ?_
    refine qm_Rp.go 2 (c' := (17, [.ref 28, .int y, .int x, .int g, .float 0, .float 0, .float 0, .float 0, .float 0, .float 0], [.int (-1)], h)) rfl ?_
    refine qm_Rp.rt (v := (some (.int (-1)))) (h' := h) rfl ?_
    exact k0 (-1) (unl_a (fun z => by omega)).symm (by decide)
  · refine qm_Rp.go 2 (c' := (6, [.ref 28, .int y], [.ref 28, .int y], h)) rfl ?_
    refine hp_getr rfl (hH.1 28 (9, 8) rfl) rfl hT ?_
    refine qm_Rp.go 0 (c' := (9, [.ref 28, .int y], [.ref 111, .int y], h)) rfl ?_
    refine hp_geti (v := B) rfl (hH.1 111 (11, 16) rfl) rfl q_B ?_
    refine qm_Rp.go 0 (c' := (12, [.ref 28, .int y], [.int B, .int y], h)) rfl ?_
    refine hp_cge (ix := y.toInt) (iy := B.toInt) rfl rfl rfl (fun z2 => ?_) (fun z2 => ?_)
    · refine qm_Rp.go 1 (c' := (20, [.ref 28, .int y], [.int 0], h)) rfl ?_
      refine qm_Rp.rt (v := (some (.int 0))) (h' := h) rfl ?_
      refine qm_Rp.go 2 (c' := (22, [.ref 28, .int y, .int x], [.int 0], h)) rfl ?_
      refine qm_Rp.rt (v := (some (.int 0))) (h' := h) rfl ?_
      refine qm_Rp.go 2 (c' := (17, [.ref 28, .int y, .int x, .int g, .float 0, .float 0, .float 0, .float 0, .float 0, .float 0], [.int (-1)], h)) rfl ?_
      refine qm_Rp.rt (v := (some (.int (-1)))) (h' := h) rfl ?_
      exact k0 (-1) (unl_a (fun z => by omega)).symm (by decide)
    · refine qm_Rp.go 2 (c' := (20, [.ref 28, .int y], [.int 1], h)) rfl ?_
      refine qm_Rp.rt (v := (some (.int 1))) (h' := h) rfl ?_
      refine qm_Rp.go 2 (c' := (9, [.ref 28, .int y, .int x], [.int x], h)) rfl ?_
      refine hp_zlt (ix := x.toInt) rfl rfl (fun z3 => ?_) (fun z3 => ?_)
      · refine qm_Rp.go 1 (c' := (22, [.ref 28, .int y, .int x], [.int 0], h)) rfl ?_
        refine qm_Rp.rt (v := (some (.int 0))) (h' := h) rfl ?_
        refine qm_Rp.go 2 (c' := (17, [.ref 28, .int y, .int x, .int g, .float 0, .float 0, .float 0, .float 0, .float 0, .float 0], [.int (-1)], h)) rfl ?_
        refine qm_Rp.rt (v := (some (.int (-1)))) (h' := h) rfl ?_
        exact k0 (-1) (unl_a (fun z => by omega)).symm (by decide)
      · refine qm_Rp.go 2 (c' := (14, [.ref 28, .int y, .int x], [.int 4, .int x], h)) rfl ?_
        refine hp_cge (ix := x.toInt) (iy := 4) rfl rfl rfl (fun z4 => ?_) (fun z4 => ?_)
        · refine qm_Rp.go 1 (c' := (22, [.ref 28, .int y, .int x], [.int 0], h)) rfl ?_
          refine qm_Rp.rt (v := (some (.int 0))) (h' := h) rfl ?_
          refine qm_Rp.go 2 (c' := (17, [.ref 28, .int y, .int x, .int g, .float 0, .float 0, .float 0, .float 0, .float 0, .float 0], [.int (-1)], h)) rfl ?_
          refine qm_Rp.rt (v := (some (.int (-1)))) (h' := h) rfl ?_
          exact k0 (-1) (unl_a (fun z => by omega)).symm (by decide)
        · refine qm_Rp.go 2 (c' := (22, [.ref 28, .int y, .int x], [.int 1], h)) rfl ?_
          refine qm_Rp.rt (v := (some (.int 1))) (h' := h) rfl ?_
          refine qm_Rp.go 2 (c' := (10, [.ref 28, .int y, .int x, .int g, .float 0, .float 0, .float 0, .float 0, .float 0, .float 0], [.int g], h)) rfl ?_
          refine qm_Rp.call (j := 103) (as := [.int g]) (c' := (13, [.ref 28, .int y, .int x, .int g, .float 0, .float 0, .float 0, .float 0, .float 0, .float 0], [], h)) rfl rfl ?_
          refine qm_Rp.go 2 (c' := (2, [.int g], [.int (-1), .int g], h)) rfl ?_
          refine hp_clt (ix := g.toInt) (iy := (-1)) rfl rfl rfl (fun z5 => ?_) (fun z5 => ?_)
          · refine qm_Rp.go 1 (c' := (15, [.int g], [.int 0], h)) rfl ?_
            refine qm_Rp.rt (v := (some (.int 0))) (h' := h) rfl ?_
            refine qm_Rp.go 2 (c' := (17, [.ref 28, .int y, .int x, .int g, .float 0, .float 0, .float 0, .float 0, .float 0, .float 0], [.int (-1)], h)) rfl ?_
            refine qm_Rp.rt (v := (some (.int (-1)))) (h' := h) rfl ?_
            exact k0 (-1) (unl_a (fun z => by omega)).symm (by decide)
          · refine qm_Rp.go 2 (c' := (7, [.int g], [.int 4, .int g], h)) rfl ?_
            refine hp_cge (ix := g.toInt) (iy := 4) rfl rfl rfl (fun z6 => ?_) (fun z6 => ?_)
            · refine qm_Rp.go 1 (c' := (15, [.int g], [.int 0], h)) rfl ?_
              refine qm_Rp.rt (v := (some (.int 0))) (h' := h) rfl ?_
              refine qm_Rp.go 2 (c' := (17, [.ref 28, .int y, .int x, .int g, .float 0, .float 0, .float 0, .float 0, .float 0, .float 0], [.int (-1)], h)) rfl ?_
              refine qm_Rp.rt (v := (some (.int (-1)))) (h' := h) rfl ?_
              exact k0 (-1) (unl_a (fun z => by omega)).symm (by decide)
            · refine qm_Rp.go 2 (c' := (15, [.int g], [.int 1], h)) rfl ?_
              refine qm_Rp.rt (v := (some (.int 1))) (h' := h) rfl ?_
              refine qm_Rp.go 4 (c' := (21, [.ref 28, .int y, .int x, .int g, .float 0, .float 0, .float 0, .float 0, .float 0, .float 0], [.int x, .int y, .ref 28], h)) rfl ?_
              refine hp_inv (o := 28) (r := []) (as := [.ref 28, .int y, .int x]) rfl rfl (hH.1 28 (9, 8) rfl) rfl rfl rfl ?_
              refine qm_Rp.go 2 (c' := (2, [.ref 28, .int y, .int x, .float 0], [.int y, .ref 28], h)) rfl ?_
              refine hp_inv (o := 28) (r := []) (as := [.ref 28, .int y]) rfl rfl (hH.1 28 (9, 8) rfl) rfl rfl rfl ?_
              refine qm_Rp.go 2 (c' := (2, [.ref 28, .int y], [.int y, .ref 28], h)) rfl ?_
              refine hp_inv (o := 28) (r := []) (as := [.ref 28, .int y]) rfl rfl (hH.1 28 (9, 8) rfl) rfl rfl rfl ?_
              refine qm_Rp.go 1 (c' := (1, [.ref 28, .int y], [.ref 28], h)) rfl ?_
              refine hp_geti (v := cv) rfl (hH.1 28 (9, 8) rfl) rfl q_cv ?_
              refine qm_Rp.go 2 (c' := (6, [.ref 28, .int y], [.int (cv >>> (y &&& 31))], h)) rfl ?_
              obtain ⟨v7, q_v7⟩ : ∃ v_, (cv >>> (y &&& 31)) = v_ := ⟨_, rfl⟩
              rw [q_v7]
              refine qm_Rp.go 2 (c' := (8, [.ref 28, .int y], [.int (v7 &&& 1)], h)) rfl ?_
              obtain ⟨v8, q_v8⟩ : ∃ v_, (v7 &&& 1) = v_ := ⟨_, rfl⟩
              rw [q_v8]
              refine qm_Rp.go 1 (c' := (9, [.ref 28, .int y], [.int 1, .int v8], h)) rfl ?_
              refine hp_cne (ix := v8.toInt) (iy := 1) rfl rfl rfl (fun z9 => ?_) (fun z9 => ?_)
              · refine qm_Rp.go 1 (c' := (17, [.ref 28, .int y], [.int 0], h)) rfl ?_
                refine qm_Rp.rt (v := (some (.int 0))) (h' := h) rfl ?_
                refine qm_Rp.go 2 (c' := (13, [.ref 28, .int y], [.int 0], h)) rfl ?_
                refine qm_Rp.rt (v := (some (.int 0))) (h' := h) rfl ?_
                refine qm_Rp.go 0 (c' := (5, [.ref 28, .int y, .int x, .float 0], [.int 0], h)) rfl ?_
                have el : lowV cv y x.toInt = 16 * y.toInt + 4 * x.toInt + 0 := low_0 (cv := cv) (bay := y) (x := x.toInt) q_v7 q_v8 (by omega) (by omega)
                refine qm_Rp.go 2 (c' := (7, [.ref 28, .int y, .int x, .int 0], [.ref 28], h)) rfl ?_
                refine hp_getr rfl (hH.1 28 (9, 8) rfl) rfl (hH.2 28 3 (some 36) rfl) ?_
                refine qm_Rp.go 5 (c' := (15, [.ref 28, .int y, .int x, .int 0], [.int 1, .int x, .int y, .ref 36], h)) rfl ?_
                refine qm_Rp.call (j := 75) (as := [.int y, .int x, .int 1]) (c' := (18, [.ref 28, .int y, .int x, .int 0], [.ref 36], h)) rfl rfl ?_
                refine qm_Rp.go 3 (c' := (3, [.int y, .int x, .int 1], [.int (y * 4)], h)) rfl ?_
                obtain ⟨v10, q_v10, e_v10⟩ := hk_mul (x := y) (y := 4) (a := y.toInt) (b := 4) rfl rfl (by omega) (by omega)
                rw [q_v10]
                refine qm_Rp.go 2 (c' := (5, [.int y, .int x, .int 1], [.int (v10 + x)], h)) rfl ?_
                obtain ⟨v11, q_v11, e_v11⟩ := hk_add (x := v10) (y := x) (a := v10.toInt) (b := x.toInt) rfl rfl (by omega) (by omega)
                rw [q_v11]
                refine qm_Rp.go 2 (c' := (7, [.int y, .int x, .int 1], [.int (v11 * 4)], h)) rfl ?_
                obtain ⟨v12, q_v12, e_v12⟩ := hk_mul (x := v11) (y := 4) (a := v11.toInt) (b := 4) rfl rfl (by omega) (by omega)
                rw [q_v12]
                refine qm_Rp.go 2 (c' := (9, [.int y, .int x, .int 1], [.int (v12 + 1)], h)) rfl ?_
                obtain ⟨v13, q_v13, e_v13⟩ := hk_add (x := v12) (y := 1) (a := v12.toInt) (b := 1) rfl rfl (by omega) (by omega)
                rw [q_v13]
                refine qm_Rp.rt (v := (some (.int v13))) (h' := h) rfl ?_
                refine qm_Rp.go 0 (c' := (18, [.ref 28, .int y, .int x, .int 0], [.int v13, .ref 36], h)) rfl ?_
                obtain ⟨v14, q_v14⟩ : ∃ v_, h.2.1 36 v13.toInt.toNat = v_ := ⟨_, rfl⟩
                refine hp_ial (v := v14) rfl (hH.1 36 (0, 80) rfl) q_v14 (fun ia_14 ib_14 => ?_)
                refine qm_Rp.go 0 (c' := (19, [.ref 28, .int y, .int x, .int 0], [.int v14], h)) rfl ?_
                have ec1 : c (16 * y.toInt + 4 * x.toInt + 1).toNat = v14.toInt := by rw [← eC, show (16 * y.toInt + 4 * x.toInt + 1).toNat = v13.toInt.toNat by omega]; exact congrArg Int32.toInt q_v14
                have bec1 := hc (16 * y.toInt + 4 * x.toInt + 1).toNat
                rw [ec1] at bec1
                refine qm_Rp.go 1 (c' := (20, [.ref 28, .int y, .int x, .int 0], [.int (-1), .int v14], h)) rfl ?_
                refine hp_ceq (ix := v14.toInt) (iy := (-1)) rfl rfl rfl (fun z16 => ?_) (fun z16 => ?_)
                · refine qm_Rp.go 1 (c' := (28, [.ref 28, .int y, .int x, .int 0], [.ref 28], h)) rfl ?_
                  refine hp_getr rfl (hH.1 28 (9, 8) rfl) rfl (hH.2 28 3 (some 36) rfl) ?_
                  refine qm_Rp.go 3 (c' := (34, [.ref 28, .int y, .int x, .int 0], [.int 0, .int x, .int y, .ref 36], h)) rfl ?_
                  refine qm_Rp.call (j := 75) (as := [.int y, .int x, .int 0]) (c' := (37, [.ref 28, .int y, .int x, .int 0], [.ref 36], h)) rfl rfl ?_
                  refine qm_Rp.go 3 (c' := (3, [.int y, .int x, .int 0], [.int (y * 4)], h)) rfl ?_
                  rw [q_v10]
                  refine qm_Rp.go 2 (c' := (5, [.int y, .int x, .int 0], [.int (v10 + x)], h)) rfl ?_
                  rw [q_v11]
                  refine qm_Rp.go 2 (c' := (7, [.int y, .int x, .int 0], [.int (v11 * 4)], h)) rfl ?_
                  rw [q_v12]
                  refine qm_Rp.go 2 (c' := (9, [.int y, .int x, .int 0], [.int (v12 + 0)], h)) rfl ?_
                  obtain ⟨v17, q_v17, e_v17⟩ := hk_add (x := v12) (y := 0) (a := v12.toInt) (b := 0) rfl rfl (by omega) (by omega)
                  rw [q_v17]
                  refine qm_Rp.rt (v := (some (.int v17))) (h' := h) rfl ?_
                  refine qm_Rp.go 0 (c' := (37, [.ref 28, .int y, .int x, .int 0], [.int v17, .ref 36], h)) rfl ?_
                  obtain ⟨v18, q_v18⟩ : ∃ v_, h.2.1 36 v17.toInt.toNat = v_ := ⟨_, rfl⟩
                  refine hp_ial (v := v18) rfl (hH.1 36 (0, 80) rfl) q_v18 (fun ia_18 ib_18 => ?_)
                  refine qm_Rp.go 0 (c' := (38, [.ref 28, .int y, .int x, .int 0], [.int v18], h)) rfl ?_
                  have ec0 : c (16 * y.toInt + 4 * x.toInt + 0).toNat = v18.toInt := by rw [← eC, show (16 * y.toInt + 4 * x.toInt + 0).toNat = v17.toInt.toNat by omega]; exact congrArg Int32.toInt q_v18
                  have bec0 := hc (16 * y.toInt + 4 * x.toInt + 0).toNat
                  rw [ec0] at bec0
                  refine qm_Rp.go 1 (c' := (39, [.ref 28, .int y, .int x, .int 0], [.int (-1), .int v18], h)) rfl ?_
                  refine hp_ceq (ix := v18.toInt) (iy := (-1)) rfl rfl rfl (fun z20 => ?_) (fun z20 => ?_)
                  · refine qm_Rp.go 1 (c' := (47, [.ref 28, .int y, .int x, .int 0], [.int (-1)], h)) rfl ?_
                    refine qm_Rp.rt (v := (some (.int (-1)))) (h' := h) rfl ?_
                    refine qm_Rp.go 0 (c' := (24, [.ref 28, .int y, .int x, .int g, .float 0, .float 0, .float 0, .float 0, .float 0, .float 0], [.int (-1)], h)) rfl ?_
                    have ek : kV c (16 * y.toInt + 4 * x.toInt + 0) = 16 * y.toInt + 4 * x.toInt + 0 := kV_0 (by rw [show 16 * y.toInt + 4 * x.toInt + 0 + 1 = 16 * y.toInt + 4 * x.toInt + 1 by omega, ec1]; omega)
                    have eb := ec0
                    have ec2 : c (16 * y.toInt + 4 * x.toInt + 0 + 1).toNat = v14.toInt := by rw [show 16 * y.toInt + 4 * x.toInt + 0 + 1 = 16 * y.toInt + 4 * x.toInt + 1 by omega]; exact ec1
                    refine qm_Rp.go 5 (c' := (33, [.ref 28, .int y, .int x, .int g, .int (-1), .float 0, .float 0, .float 0, .float 0, .float 0], [.int (-1)], h)) rfl ?_
                    refine qm_Rp.rt (v := (some (.int (-1)))) (h' := h) rfl ?_
                    exact k0 (-1) (unl_b ⟨by omega, by omega, by omega, by omega, by omega, by omega⟩ (by rw [el, ek, eb]; omega)).symm (by decide)
                  · refine qm_Rp.go 2 (c' := (47, [.ref 28, .int y, .int x, .int 0], [.int 0], h)) rfl ?_
                    refine qm_Rp.rt (v := (some (.int 0))) (h' := h) rfl ?_
                    refine qm_Rp.go 0 (c' := (24, [.ref 28, .int y, .int x, .int g, .float 0, .float 0, .float 0, .float 0, .float 0, .float 0], [.int 0], h)) rfl ?_
                    have ek : kV c (16 * y.toInt + 4 * x.toInt + 0) = 16 * y.toInt + 4 * x.toInt + 0 := kV_0 (by rw [show 16 * y.toInt + 4 * x.toInt + 0 + 1 = 16 * y.toInt + 4 * x.toInt + 1 by omega, ec1]; omega)
                    have eb := ec0
                    have ec2 : c (16 * y.toInt + 4 * x.toInt + 0 + 1).toNat = v14.toInt := by rw [show 16 * y.toInt + 4 * x.toInt + 0 + 1 = 16 * y.toInt + 4 * x.toInt + 1 by omega]; exact ec1
                    have ab_v18 := hA (16 * y.toInt + 4 * x.toInt + 0).toNat (by omega) (by rw [eb]; omega)
                    rw [eb] at ab_v18
                    have rb_v18 := hR v18.toInt.toNat ab_v18.1
                    have ey_v18 : yb v18.toInt.toNat = y.toInt := by omega
                    have ex_v18 : rb v18.toInt.toNat = x.toInt := by omega
                    have et_v18 : tb v18.toInt.toNat = 0 := by omega
                    refine qm_Rp.go 5 (c' := (35, [.ref 28, .int y, .int x, .int g, .int 0, .float 0, .float 0, .float 0, .float 0, .float 0], [.ref 28], h)) rfl ?_
                    refine hp_getr rfl (hH.1 28 (9, 8) rfl) rfl (hH.2 28 3 (some 36) rfl) ?_
                    refine qm_Rp.go 3 (c' := (42, [.ref 28, .int y, .int x, .int g, .int 0, .float 0, .float 0, .float 0, .float 0, .float 0], [.int 0, .int x, .int y, .ref 36], h)) rfl ?_
                    refine qm_Rp.call (j := 75) (as := [.int y, .int x, .int 0]) (c' := (45, [.ref 28, .int y, .int x, .int g, .int 0, .float 0, .float 0, .float 0, .float 0, .float 0], [.ref 36], h)) rfl rfl ?_
                    refine qm_Rp.go 3 (c' := (3, [.int y, .int x, .int 0], [.int (y * 4)], h)) rfl ?_
                    rw [q_v10]
                    refine qm_Rp.go 2 (c' := (5, [.int y, .int x, .int 0], [.int (v10 + x)], h)) rfl ?_
                    rw [q_v11]
                    refine qm_Rp.go 2 (c' := (7, [.int y, .int x, .int 0], [.int (v11 * 4)], h)) rfl ?_
                    rw [q_v12]
                    refine qm_Rp.go 2 (c' := (9, [.int y, .int x, .int 0], [.int (v12 + 0)], h)) rfl ?_
                    rw [q_v17]
                    refine qm_Rp.rt (v := (some (.int v17))) (h' := h) rfl ?_
                    refine qm_Rp.go 0 (c' := (45, [.ref 28, .int y, .int x, .int g, .int 0, .float 0, .float 0, .float 0, .float 0, .float 0], [.int v17, .ref 36], h)) rfl ?_
                    refine hp_ial (v := v18) rfl (hH.1 36 (0, 80) rfl) q_v18 (fun ia_20 ib_20 => ?_)
                    refine qm_Rp.go 2 (c' := (49, [.ref 28, .int y, .int x, .int g, .int 0, .int v18, .float 0, .float 0, .float 0, .float 0], [.ref 28], h)) rfl ?_
                    refine hp_getr rfl (hH.1 28 (9, 8) rfl) rfl (hH.2 28 0 (some 6) rfl) ?_
                    refine qm_Rp.go 0 (c' := (52, [.ref 28, .int y, .int x, .int g, .int 0, .int v18, .float 0, .float 0, .float 0, .float 0], [.ref 6], h)) rfl ?_
                    refine hp_getr rfl (hH.1 6 (6, 9) rfl) rfl (hH.2 6 4 (some 10) rfl) ?_
                    refine qm_Rp.go 1 (c' := (57, [.ref 28, .int y, .int x, .int g, .int 0, .int v18, .float 0, .float 0, .float 0, .float 0], [.int v18, .ref 10], h)) rfl ?_
                    obtain ⟨v22, q_v22⟩ : ∃ v_, h.2.1 10 v18.toInt.toNat = v_ := ⟨_, rfl⟩
                    refine hp_bal (v := v22) rfl (hH.1 10 (2, 30) rfl) q_v22 (fun ia_22 ib_22 => ?_)
                    refine qm_Rp.go 0 (c' := (58, [.ref 28, .int y, .int x, .int g, .int 0, .int v18, .float 0, .float 0, .float 0, .float 0], [.int v22], h)) rfl ?_
                    have est : tk v18.toInt.toNat = v22.toInt := by rw [← eK]; exact congrArg Int32.toInt q_v22
                    refine hp_zeq (ix := v22.toInt) rfl rfl (fun z24 => ?_) (fun z24 => ?_)
                    · refine qm_Rp.go 1 (c' := (80, [.ref 28, .int y, .int x, .int g, .int 0, .int v18, .float 0, .float 0, .float 0, .float 0], [.int 0], h)) rfl ?_
                      have em : mV c tk (16 * y.toInt + 4 * x.toInt + 0) = 1 := mV_1a (by rw [ec2]; omega)
                      refine qm_Rp.go 9 (c' := (93, [.ref 28, .int y, .int x, .int g, .int 0, .int v18, .int 0, .int 1, .float 0, .float 0], [.int (-1), .int g], h)) rfl ?_
                      refine hp_ceq (ix := g.toInt) (iy := (-1)) rfl rfl rfl (fun z25 => ?_) (fun z25 => ?_)
                      · refine qm_Rp.go 1 (c' := (112, [.ref 28, .int y, .int x, .int g, .int 0, .int v18, .int 0, .int 1, .float 0, .float 0], [.ref 28], h)) rfl ?_
                        refine hp_getr rfl (hH.1 28 (9, 8) rfl) rfl (hH.2 28 0 (some 6) rfl) ?_
                        refine qm_Rp.go 0 (c' := (115, [.ref 28, .int y, .int x, .int g, .int 0, .int v18, .int 0, .int 1, .float 0, .float 0], [.ref 6], h)) rfl ?_
                        refine hp_getr rfl (hH.1 6 (6, 9) rfl) rfl (hH.2 6 1 (some 7) rfl) ?_
                        refine qm_Rp.go 1 (c' := (120, [.ref 28, .int y, .int x, .int g, .int 0, .int v18, .int 0, .int 1, .float 0, .float 0], [.int v18, .ref 7], h)) rfl ?_
                        obtain ⟨v26, q_v26⟩ : ∃ v_, h.2.1 7 v18.toInt.toNat = v_ := ⟨_, rfl⟩
                        refine hp_ial (v := v26) rfl (hH.1 7 (0, 30) rfl) q_v26 (fun ia_26 ib_26 => ?_)
                        refine qm_Rp.go 0 (c' := (121, [.ref 28, .int y, .int x, .int g, .int 0, .int v18, .int 0, .int 1, .float 0, .float 0], [.int v26], h)) rfl ?_
                        have ew_v18 : w v18.toInt.toNat = v26.toInt := by rw [← eW]; exact congrArg Int32.toInt q_v26
                        have bw_v18 := hw v18.toInt.toNat
                        rw [ew_v18] at bw_v18
                        refine qm_Rp.go 5 (c' := (153, [.ref 28, .int y, .int x, .int g, .int 0, .int v18, .int 0, .int 1, .float 0, .float 0], [.int (v26 + 0)], h)) rfl ?_
                        obtain ⟨v28, q_v28, e_v28⟩ := hk_add (x := v26) (y := 0) (a := v26.toInt) (b := 0) rfl rfl (by omega) (by omega)
                        rw [q_v28]
                        refine qm_Rp.go 1 (c' := (155, [.ref 28, .int y, .int x, .int g, .int 0, .int v18, .int 0, .int 1, .int v28, .float 0], [], h)) rfl ?_
                        have ewt : w (c (kV c (16 * y.toInt + 4 * x.toInt + 0)).toNat).toNat + (if mV c tk (16 * y.toInt + 4 * x.toInt + 0) = 2 then w (c (16 * y.toInt + 4 * x.toInt + 0).toNat).toNat else 0) = v28.toInt := by rw [ek, eb, em, if_neg (by decide)]; omega
                        refine qm_Rp.go 2 (c' := (158, [.ref 28, .int y, .int x, .int g, .int 0, .int v18, .int 0, .int 1, .int v28, .float 0], [.ref 28, .int v28], h)) rfl ?_
                        refine hp_getr rfl (hH.1 28 (9, 8) rfl) rfl hT ?_
                        refine qm_Rp.go 0 (c' := (161, [.ref 28, .int y, .int x, .int g, .int 0, .int v18, .int 0, .int 1, .int v28, .float 0], [.ref 111, .int v28], h)) rfl ?_
                        refine hp_geti (v := l) rfl (hH.1 111 (11, 16) rfl) rfl q_l ?_
                        refine qm_Rp.go 0 (c' := (164, [.ref 28, .int y, .int x, .int g, .int 0, .int v18, .int 0, .int 1, .int v28, .float 0], [.int l, .int v28], h)) rfl ?_
                        refine hp_cle (ix := v28.toInt) (iy := l.toInt) rfl rfl rfl (fun z29 => ?_) (fun z29 => ?_)
                        · refine qm_Rp.go 5 (c' := (176, [.ref 28, .int y, .int x, .int g, .int 0, .int v18, .int 0, .int 1, .int v28, .float 0], [.int (-v28), .int x, .int y, .ref 28], h)) rfl ?_
                          obtain ⟨v30, q_v30, e_v30⟩ := hk_neg (x := v28) (a := v28.toInt) rfl (by omega)
                          rw [q_v30]
                          refine hp_inv (o := 28) (r := []) (as := [.ref 28, .int y, .int x, .int v30]) rfl rfl (hH.1 28 (9, 8) rfl) rfl rfl rfl (px_cbo111 (m := v30) hH hT q_B hB eV hb q_ls hls q_wt hwt ⟨by omega, by omega⟩ ⟨by omega, by omega⟩ ⟨by omega, by omega⟩ q_g0 q_g1 q_g2 (fun r31 e_r31 => ?_))
                          rcases e_r31 with ⟨hr, hbo⟩ | ⟨hr, hbo⟩
                          · obtain rfl : r31 = 1 := hk_eqi.mpr (hr.trans rfl)
                            refine qm_Rp.go 1 (c' := (197, [.ref 28, .int y, .int x, .int g, .int 0, .int v18, .int 0, .int 1, .int v28, .float 0], [], h)) rfl ?_
                            refine px_cl00 hH q_ls hls q_wt hwt eW eH e12 e13 e14 eC eY eI eV hw hi4 hb ⟨by omega, by omega⟩ ⟨by omega, by omega⟩ ⟨by omega, by omega⟩ (fun z => by omega) ⟨by omega, by omega⟩ eb ey_v18 ex_v18 et_v18 (fun I l2 w2 e x28 q5 q6 el2 ew2 x11 x12 x13 x14 x36 x16 x17 x37 => ?_)
                            exact k1 I l2 w2 e x28 q5 q6 ((unl_f ⟨by omega, by omega, by omega, by omega, by omega, by omega⟩ (by rw [el, ek, eb]; omega) (by rw [el, em]; intro z; omega) (by rw [el, ewt]; omega) (okb_t (by rw [el, ewt, ← e_v30]; exact Or.inl hbo))).trans (by rw [el, em])).symm (by rw [el, ek, eb]; exact el2) (by rw [el, ek, eb]; exact ew2) (by rw [el, ek, eb]; exact x11) (by rw [el, ek, eb]; exact x12) (by rw [el, ek, eb]; exact x13) (by rw [el, ek, eb]; exact x14) (by rw [el, ek]; exact x36) (by rw [el, ek, eb]; exact x16) x17 (by rw [el, ek, eb]; exact x37)
                          · obtain rfl : r31 = 0 := hk_eqi.mpr (hr.trans rfl)
                            refine qm_Rp.go 6 (c' := (188, [.ref 28, .int y, .int x, .int g, .int 0, .int v18, .int 0, .int 1, .int v28, .float 0], [.int (-v28), .int x, .int y, .ref 28], h)) rfl ?_
                            rw [q_v30]
                            refine hp_inv (o := 28) (r := []) (as := [.ref 28, .int y, .int x, .int v30]) rfl rfl (hH.1 28 (9, 8) rfl) rfl rfl rfl (px_cnw111 (m := v30) hH hT q_B hB eV hb q_ls hls q_wt hwt ⟨by omega, by omega⟩ ⟨by omega, by omega⟩ ⟨by omega, by omega⟩ (fun r32 e_r32 => ?_))
                            rcases e_r32 with ⟨hr, hnw⟩ | ⟨hr, hnw⟩
                            · obtain rfl : r32 = 1 := hk_eqi.mpr (hr.trans rfl)
                              refine qm_Rp.go 1 (c' := (197, [.ref 28, .int y, .int x, .int g, .int 0, .int v18, .int 0, .int 1, .int v28, .float 0], [], h)) rfl ?_
                              refine px_cl00 hH q_ls hls q_wt hwt eW eH e12 e13 e14 eC eY eI eV hw hi4 hb ⟨by omega, by omega⟩ ⟨by omega, by omega⟩ ⟨by omega, by omega⟩ (fun z => by omega) ⟨by omega, by omega⟩ eb ey_v18 ex_v18 et_v18 (fun I l2 w2 e x28 q5 q6 el2 ew2 x11 x12 x13 x14 x36 x16 x17 x37 => ?_)
                              exact k1 I l2 w2 e x28 q5 q6 ((unl_f ⟨by omega, by omega, by omega, by omega, by omega, by omega⟩ (by rw [el, ek, eb]; omega) (by rw [el, em]; intro z; omega) (by rw [el, ewt]; omega) (okb_t (by rw [el, ewt, ← e_v30]; exact Or.inr hnw))).trans (by rw [el, em])).symm (by rw [el, ek, eb]; exact el2) (by rw [el, ek, eb]; exact ew2) (by rw [el, ek, eb]; exact x11) (by rw [el, ek, eb]; exact x12) (by rw [el, ek, eb]; exact x13) (by rw [el, ek, eb]; exact x14) (by rw [el, ek]; exact x36) (by rw [el, ek, eb]; exact x16) x17 (by rw [el, ek, eb]; exact x37)
                            · obtain rfl : r32 = 0 := hk_eqi.mpr (hr.trans rfl)
                              refine qm_Rp.go 2 (c' := (196, [.ref 28, .int y, .int x, .int g, .int 0, .int v18, .int 0, .int 1, .int v28, .float 0], [.int (-3)], h)) rfl ?_
                              refine qm_Rp.rt (v := (some (.int (-3)))) (h' := h) rfl ?_
                              exact k0 (-3) (unl_e ⟨by omega, by omega, by omega, by omega, by omega, by omega⟩ (by rw [el, ek, eb]; omega) (by rw [el, em]; intro z; omega) (by rw [el, ewt]; omega) (okb_f (by rw [el, ewt, ← e_v30]; exact fun z => z.elim hbo hnw))).symm (by decide)
                        · refine qm_Rp.go 1 (c' := (169, [.ref 28, .int y, .int x, .int g, .int 0, .int v18, .int 0, .int 1, .int v28, .float 0], [.int (-2)], h)) rfl ?_
                          refine qm_Rp.rt (v := (some (.int (-2)))) (h' := h) rfl ?_
                          exact k0 (-2) (unl_d ⟨by omega, by omega, by omega, by omega, by omega, by omega⟩ (by rw [el, ek, eb]; omega) (by rw [el, em]; intro z; omega) (by rw [el, ewt]; omega)).symm (by decide)
                      · refine qm_Rp.go 1 (c' := (97, [.ref 28, .int y, .int x, .int g, .int 0, .int v18, .int 0, .int 1, .float 0, .float 0], [.ref 28], h)) rfl ?_
                        refine hp_getr rfl (hH.1 28 (9, 8) rfl) rfl (hH.2 28 1 (some 15) rfl) ?_
                        refine qm_Rp.go 1 (c' := (101, [.ref 28, .int y, .int x, .int g, .int 0, .int v18, .int 0, .int 1, .float 0, .float 0], [.int g, .ref 15], h)) rfl ?_
                        refine hp_inv (o := 15) (r := []) (as := [.ref 15, .int g]) rfl rfl (hH.1 15 (15, 8) rfl) rfl rfl rfl ?_
                        refine qm_Rp.go 2 (c' := (2, [.ref 15, .int g], [.ref 15, .int 4], h)) rfl ?_
                        refine hp_getr rfl (hH.1 15 (15, 8) rfl) rfl (hH.2 15 2 (some 17) rfl) ?_
                        refine qm_Rp.go 1 (c' := (6, [.ref 15, .int g], [.int g, .ref 17, .int 4], h)) rfl ?_
                        obtain ⟨v33, q_v33⟩ : ∃ v_, h.2.1 17 g.toInt.toNat = v_ := ⟨_, rfl⟩
                        refine hp_ial (v := v33) rfl (hH.1 17 (0, 4) rfl) q_v33 (fun ia_33 ib_33 => ?_)
                        refine qm_Rp.go 0 (c' := (7, [.ref 15, .int g], [.int v33, .int 4], h)) rfl ?_
                        have eh : hi g.toInt.toNat = v33.toInt := by rw [← eI]; exact congrArg Int32.toInt q_v33
                        have bh := hi4 g.toInt.toNat
                        rw [eh] at bh
                        refine qm_Rp.go 1 (c' := (8, [.ref 15, .int g], [.int (4 - v33)], h)) rfl ?_
                        obtain ⟨v35, q_v35, e_v35⟩ := hk_sub (x := 4) (y := v33) (a := 4) (b := v33.toInt) rfl rfl (by omega) (by omega)
                        rw [q_v35]
                        refine qm_Rp.rt (v := (some (.int v35))) (h' := h) rfl ?_
                        refine qm_Rp.go 1 (c' := (106, [.ref 28, .int y, .int x, .int g, .int 0, .int v18, .int 0, .int 1, .float 0, .float 0], [.int 1, .int v35], h)) rfl ?_
                        refine hp_cge (ix := v35.toInt) (iy := 1) rfl rfl rfl (fun z36 => ?_) (fun z36 => ?_)
                        · refine qm_Rp.go 1 (c' := (112, [.ref 28, .int y, .int x, .int g, .int 0, .int v18, .int 0, .int 1, .float 0, .float 0], [.ref 28], h)) rfl ?_
                          refine hp_getr rfl (hH.1 28 (9, 8) rfl) rfl (hH.2 28 0 (some 6) rfl) ?_
                          refine qm_Rp.go 0 (c' := (115, [.ref 28, .int y, .int x, .int g, .int 0, .int v18, .int 0, .int 1, .float 0, .float 0], [.ref 6], h)) rfl ?_
                          refine hp_getr rfl (hH.1 6 (6, 9) rfl) rfl (hH.2 6 1 (some 7) rfl) ?_
                          refine qm_Rp.go 1 (c' := (120, [.ref 28, .int y, .int x, .int g, .int 0, .int v18, .int 0, .int 1, .float 0, .float 0], [.int v18, .ref 7], h)) rfl ?_
                          obtain ⟨v37, q_v37⟩ : ∃ v_, h.2.1 7 v18.toInt.toNat = v_ := ⟨_, rfl⟩
                          refine hp_ial (v := v37) rfl (hH.1 7 (0, 30) rfl) q_v37 (fun ia_37 ib_37 => ?_)
                          refine qm_Rp.go 0 (c' := (121, [.ref 28, .int y, .int x, .int g, .int 0, .int v18, .int 0, .int 1, .float 0, .float 0], [.int v37], h)) rfl ?_
                          have ew_v18 : w v18.toInt.toNat = v37.toInt := by rw [← eW]; exact congrArg Int32.toInt q_v37
                          have bw_v18 := hw v18.toInt.toNat
                          rw [ew_v18] at bw_v18
                          refine qm_Rp.go 5 (c' := (153, [.ref 28, .int y, .int x, .int g, .int 0, .int v18, .int 0, .int 1, .float 0, .float 0], [.int (v37 + 0)], h)) rfl ?_
                          obtain ⟨v39, q_v39, e_v39⟩ := hk_add (x := v37) (y := 0) (a := v37.toInt) (b := 0) rfl rfl (by omega) (by omega)
                          rw [q_v39]
                          refine qm_Rp.go 1 (c' := (155, [.ref 28, .int y, .int x, .int g, .int 0, .int v18, .int 0, .int 1, .int v39, .float 0], [], h)) rfl ?_
                          have ewt : w (c (kV c (16 * y.toInt + 4 * x.toInt + 0)).toNat).toNat + (if mV c tk (16 * y.toInt + 4 * x.toInt + 0) = 2 then w (c (16 * y.toInt + 4 * x.toInt + 0).toNat).toNat else 0) = v39.toInt := by rw [ek, eb, em, if_neg (by decide)]; omega
                          refine qm_Rp.go 2 (c' := (158, [.ref 28, .int y, .int x, .int g, .int 0, .int v18, .int 0, .int 1, .int v39, .float 0], [.ref 28, .int v39], h)) rfl ?_
                          refine hp_getr rfl (hH.1 28 (9, 8) rfl) rfl hT ?_
                          refine qm_Rp.go 0 (c' := (161, [.ref 28, .int y, .int x, .int g, .int 0, .int v18, .int 0, .int 1, .int v39, .float 0], [.ref 111, .int v39], h)) rfl ?_
                          refine hp_geti (v := l) rfl (hH.1 111 (11, 16) rfl) rfl q_l ?_
                          refine qm_Rp.go 0 (c' := (164, [.ref 28, .int y, .int x, .int g, .int 0, .int v18, .int 0, .int 1, .int v39, .float 0], [.int l, .int v39], h)) rfl ?_
                          refine hp_cle (ix := v39.toInt) (iy := l.toInt) rfl rfl rfl (fun z40 => ?_) (fun z40 => ?_)
                          · refine qm_Rp.go 5 (c' := (176, [.ref 28, .int y, .int x, .int g, .int 0, .int v18, .int 0, .int 1, .int v39, .float 0], [.int (-v39), .int x, .int y, .ref 28], h)) rfl ?_
                            obtain ⟨v41, q_v41, e_v41⟩ := hk_neg (x := v39) (a := v39.toInt) rfl (by omega)
                            rw [q_v41]
                            refine hp_inv (o := 28) (r := []) (as := [.ref 28, .int y, .int x, .int v41]) rfl rfl (hH.1 28 (9, 8) rfl) rfl rfl rfl (px_cbo111 (m := v41) hH hT q_B hB eV hb q_ls hls q_wt hwt ⟨by omega, by omega⟩ ⟨by omega, by omega⟩ ⟨by omega, by omega⟩ q_g0 q_g1 q_g2 (fun r42 e_r42 => ?_))
                            rcases e_r42 with ⟨hr, hbo⟩ | ⟨hr, hbo⟩
                            · obtain rfl : r42 = 1 := hk_eqi.mpr (hr.trans rfl)
                              refine qm_Rp.go 1 (c' := (197, [.ref 28, .int y, .int x, .int g, .int 0, .int v18, .int 0, .int 1, .int v39, .float 0], [], h)) rfl ?_
                              refine px_cl00 hH q_ls hls q_wt hwt eW eH e12 e13 e14 eC eY eI eV hw hi4 hb ⟨by omega, by omega⟩ ⟨by omega, by omega⟩ ⟨by omega, by omega⟩ (fun z => by omega) ⟨by omega, by omega⟩ eb ey_v18 ex_v18 et_v18 (fun I l2 w2 e x28 q5 q6 el2 ew2 x11 x12 x13 x14 x36 x16 x17 x37 => ?_)
                              exact k1 I l2 w2 e x28 q5 q6 ((unl_f ⟨by omega, by omega, by omega, by omega, by omega, by omega⟩ (by rw [el, ek, eb]; omega) (by rw [el, em]; intro z; omega) (by rw [el, ewt]; omega) (okb_t (by rw [el, ewt, ← e_v41]; exact Or.inl hbo))).trans (by rw [el, em])).symm (by rw [el, ek, eb]; exact el2) (by rw [el, ek, eb]; exact ew2) (by rw [el, ek, eb]; exact x11) (by rw [el, ek, eb]; exact x12) (by rw [el, ek, eb]; exact x13) (by rw [el, ek, eb]; exact x14) (by rw [el, ek]; exact x36) (by rw [el, ek, eb]; exact x16) x17 (by rw [el, ek, eb]; exact x37)
                            · obtain rfl : r42 = 0 := hk_eqi.mpr (hr.trans rfl)
                              refine qm_Rp.go 6 (c' := (188, [.ref 28, .int y, .int x, .int g, .int 0, .int v18, .int 0, .int 1, .int v39, .float 0], [.int (-v39), .int x, .int y, .ref 28], h)) rfl ?_
                              rw [q_v41]
                              refine hp_inv (o := 28) (r := []) (as := [.ref 28, .int y, .int x, .int v41]) rfl rfl (hH.1 28 (9, 8) rfl) rfl rfl rfl (px_cnw111 (m := v41) hH hT q_B hB eV hb q_ls hls q_wt hwt ⟨by omega, by omega⟩ ⟨by omega, by omega⟩ ⟨by omega, by omega⟩ (fun r43 e_r43 => ?_))
                              rcases e_r43 with ⟨hr, hnw⟩ | ⟨hr, hnw⟩
                              · obtain rfl : r43 = 1 := hk_eqi.mpr (hr.trans rfl)
                                refine qm_Rp.go 1 (c' := (197, [.ref 28, .int y, .int x, .int g, .int 0, .int v18, .int 0, .int 1, .int v39, .float 0], [], h)) rfl ?_
                                refine px_cl00 hH q_ls hls q_wt hwt eW eH e12 e13 e14 eC eY eI eV hw hi4 hb ⟨by omega, by omega⟩ ⟨by omega, by omega⟩ ⟨by omega, by omega⟩ (fun z => by omega) ⟨by omega, by omega⟩ eb ey_v18 ex_v18 et_v18 (fun I l2 w2 e x28 q5 q6 el2 ew2 x11 x12 x13 x14 x36 x16 x17 x37 => ?_)
                                exact k1 I l2 w2 e x28 q5 q6 ((unl_f ⟨by omega, by omega, by omega, by omega, by omega, by omega⟩ (by rw [el, ek, eb]; omega) (by rw [el, em]; intro z; omega) (by rw [el, ewt]; omega) (okb_t (by rw [el, ewt, ← e_v41]; exact Or.inr hnw))).trans (by rw [el, em])).symm (by rw [el, ek, eb]; exact el2) (by rw [el, ek, eb]; exact ew2) (by rw [el, ek, eb]; exact x11) (by rw [el, ek, eb]; exact x12) (by rw [el, ek, eb]; exact x13) (by rw [el, ek, eb]; exact x14) (by rw [el, ek]; exact x36) (by rw [el, ek, eb]; exact x16) x17 (by rw [el, ek, eb]; exact x37)
                              · obtain rfl : r43 = 0 := hk_eqi.mpr (hr.trans rfl)
                                refine qm_Rp.go 2 (c' := (196, [.ref 28, .int y, .int x, .int g, .int 0, .int v18, .int 0, .int 1, .int v39, .float 0], [.int (-3)], h)) rfl ?_
                                refine qm_Rp.rt (v := (some (.int (-3)))) (h' := h) rfl ?_
                                exact k0 (-3) (unl_e ⟨by omega, by omega, by omega, by omega, by omega, by omega⟩ (by rw [el, ek, eb]; omega) (by rw [el, em]; intro z; omega) (by rw [el, ewt]; omega) (okb_f (by rw [el, ewt, ← e_v41]; exact fun z => z.elim hbo hnw))).symm (by decide)
                          · refine qm_Rp.go 1 (c' := (169, [.ref 28, .int y, .int x, .int g, .int 0, .int v18, .int 0, .int 1, .int v39, .float 0], [.int (-2)], h)) rfl ?_
                            refine qm_Rp.rt (v := (some (.int (-2)))) (h' := h) rfl ?_
                            exact k0 (-2) (unl_d ⟨by omega, by omega, by omega, by omega, by omega, by omega⟩ (by rw [el, ek, eb]; omega) (by rw [el, em]; intro z; omega) (by rw [el, ewt]; omega)).symm (by decide)
                        · refine qm_Rp.go 1 (c' := (110, [.ref 28, .int y, .int x, .int g, .int 0, .int v18, .int 0, .int 1, .float 0, .float 0], [.int (-1)], h)) rfl ?_
                          refine qm_Rp.rt (v := (some (.int (-1)))) (h' := h) rfl ?_
                          exact k0 (-1) (unl_c ⟨by omega, by omega, by omega, by omega, by omega, by omega⟩ (by rw [el, ek, eb]; omega) ⟨by omega, by rw [el, em]; omega⟩).symm (by decide)
                    · refine qm_Rp.go 3 (c' := (65, [.ref 28, .int y, .int x, .int g, .int 0, .int v18, .float 0, .float 0, .float 0, .float 0], [.int y, .ref 28, .int 0], h)) rfl ?_
                      refine hp_inv (o := 28) (r := [.int 0]) (as := [.ref 28, .int y]) rfl rfl (hH.1 28 (9, 8) rfl) rfl rfl rfl ?_
                      refine qm_Rp.go 2 (c' := (2, [.ref 28, .int y], [.int y, .ref 28], h)) rfl ?_
                      refine hp_inv (o := 28) (r := []) (as := [.ref 28, .int y]) rfl rfl (hH.1 28 (9, 8) rfl) rfl rfl rfl ?_
                      refine qm_Rp.go 1 (c' := (1, [.ref 28, .int y], [.ref 28], h)) rfl ?_
                      refine hp_geti (v := cv) rfl (hH.1 28 (9, 8) rfl) rfl q_cv ?_
                      refine qm_Rp.go 2 (c' := (6, [.ref 28, .int y], [.int (cv >>> (y &&& 31))], h)) rfl ?_
                      rw [q_v7]
                      refine qm_Rp.go 2 (c' := (8, [.ref 28, .int y], [.int (v7 &&& 1)], h)) rfl ?_
                      rw [q_v8]
                      refine qm_Rp.go 1 (c' := (9, [.ref 28, .int y], [.int 1, .int v8], h)) rfl ?_
                      refine hp_cne (ix := v8.toInt) (iy := 1) rfl rfl rfl (fun z44 => ?_) (fun z44 => by exfalso; omega)
                      refine qm_Rp.go 1 (c' := (17, [.ref 28, .int y], [.int 0], h)) rfl ?_
                      refine qm_Rp.rt (v := (some (.int 0))) (h' := h) rfl ?_
                      refine qm_Rp.go 2 (c' := (13, [.ref 28, .int y], [.int 0], h)) rfl ?_
                      refine qm_Rp.rt (v := (some (.int 0))) (h' := h) rfl ?_
                      refine qm_Rp.go 2 (c' := (80, [.ref 28, .int y, .int x, .int g, .int 0, .int v18, .float 0, .float 0, .float 0, .float 0], [.int 0], h)) rfl ?_
                      have em : mV c tk (16 * y.toInt + 4 * x.toInt + 0) = 1 := mV_1a (by rw [ec2]; omega)
                      refine qm_Rp.go 9 (c' := (93, [.ref 28, .int y, .int x, .int g, .int 0, .int v18, .int 0, .int 1, .float 0, .float 0], [.int (-1), .int g], h)) rfl ?_
                      refine hp_ceq (ix := g.toInt) (iy := (-1)) rfl rfl rfl (fun z45 => ?_) (fun z45 => ?_)
                      · refine qm_Rp.go 1 (c' := (112, [.ref 28, .int y, .int x, .int g, .int 0, .int v18, .int 0, .int 1, .float 0, .float 0], [.ref 28], h)) rfl ?_
                        refine hp_getr rfl (hH.1 28 (9, 8) rfl) rfl (hH.2 28 0 (some 6) rfl) ?_
                        refine qm_Rp.go 0 (c' := (115, [.ref 28, .int y, .int x, .int g, .int 0, .int v18, .int 0, .int 1, .float 0, .float 0], [.ref 6], h)) rfl ?_
                        refine hp_getr rfl (hH.1 6 (6, 9) rfl) rfl (hH.2 6 1 (some 7) rfl) ?_
                        refine qm_Rp.go 1 (c' := (120, [.ref 28, .int y, .int x, .int g, .int 0, .int v18, .int 0, .int 1, .float 0, .float 0], [.int v18, .ref 7], h)) rfl ?_
                        obtain ⟨v46, q_v46⟩ : ∃ v_, h.2.1 7 v18.toInt.toNat = v_ := ⟨_, rfl⟩
                        refine hp_ial (v := v46) rfl (hH.1 7 (0, 30) rfl) q_v46 (fun ia_46 ib_46 => ?_)
                        refine qm_Rp.go 0 (c' := (121, [.ref 28, .int y, .int x, .int g, .int 0, .int v18, .int 0, .int 1, .float 0, .float 0], [.int v46], h)) rfl ?_
                        have ew_v18 : w v18.toInt.toNat = v46.toInt := by rw [← eW]; exact congrArg Int32.toInt q_v46
                        have bw_v18 := hw v18.toInt.toNat
                        rw [ew_v18] at bw_v18
                        refine qm_Rp.go 5 (c' := (153, [.ref 28, .int y, .int x, .int g, .int 0, .int v18, .int 0, .int 1, .float 0, .float 0], [.int (v46 + 0)], h)) rfl ?_
                        obtain ⟨v48, q_v48, e_v48⟩ := hk_add (x := v46) (y := 0) (a := v46.toInt) (b := 0) rfl rfl (by omega) (by omega)
                        rw [q_v48]
                        refine qm_Rp.go 1 (c' := (155, [.ref 28, .int y, .int x, .int g, .int 0, .int v18, .int 0, .int 1, .int v48, .float 0], [], h)) rfl ?_
                        have ewt : w (c (kV c (16 * y.toInt + 4 * x.toInt + 0)).toNat).toNat + (if mV c tk (16 * y.toInt + 4 * x.toInt + 0) = 2 then w (c (16 * y.toInt + 4 * x.toInt + 0).toNat).toNat else 0) = v48.toInt := by rw [ek, eb, em, if_neg (by decide)]; omega
                        refine qm_Rp.go 2 (c' := (158, [.ref 28, .int y, .int x, .int g, .int 0, .int v18, .int 0, .int 1, .int v48, .float 0], [.ref 28, .int v48], h)) rfl ?_
                        refine hp_getr rfl (hH.1 28 (9, 8) rfl) rfl hT ?_
                        refine qm_Rp.go 0 (c' := (161, [.ref 28, .int y, .int x, .int g, .int 0, .int v18, .int 0, .int 1, .int v48, .float 0], [.ref 111, .int v48], h)) rfl ?_
                        refine hp_geti (v := l) rfl (hH.1 111 (11, 16) rfl) rfl q_l ?_
                        refine qm_Rp.go 0 (c' := (164, [.ref 28, .int y, .int x, .int g, .int 0, .int v18, .int 0, .int 1, .int v48, .float 0], [.int l, .int v48], h)) rfl ?_
                        refine hp_cle (ix := v48.toInt) (iy := l.toInt) rfl rfl rfl (fun z49 => ?_) (fun z49 => ?_)
                        · refine qm_Rp.go 5 (c' := (176, [.ref 28, .int y, .int x, .int g, .int 0, .int v18, .int 0, .int 1, .int v48, .float 0], [.int (-v48), .int x, .int y, .ref 28], h)) rfl ?_
                          obtain ⟨v50, q_v50, e_v50⟩ := hk_neg (x := v48) (a := v48.toInt) rfl (by omega)
                          rw [q_v50]
                          refine hp_inv (o := 28) (r := []) (as := [.ref 28, .int y, .int x, .int v50]) rfl rfl (hH.1 28 (9, 8) rfl) rfl rfl rfl (px_cbo111 (m := v50) hH hT q_B hB eV hb q_ls hls q_wt hwt ⟨by omega, by omega⟩ ⟨by omega, by omega⟩ ⟨by omega, by omega⟩ q_g0 q_g1 q_g2 (fun r51 e_r51 => ?_))
                          rcases e_r51 with ⟨hr, hbo⟩ | ⟨hr, hbo⟩
                          · obtain rfl : r51 = 1 := hk_eqi.mpr (hr.trans rfl)
                            refine qm_Rp.go 1 (c' := (197, [.ref 28, .int y, .int x, .int g, .int 0, .int v18, .int 0, .int 1, .int v48, .float 0], [], h)) rfl ?_
                            refine px_cl00 hH q_ls hls q_wt hwt eW eH e12 e13 e14 eC eY eI eV hw hi4 hb ⟨by omega, by omega⟩ ⟨by omega, by omega⟩ ⟨by omega, by omega⟩ (fun z => by omega) ⟨by omega, by omega⟩ eb ey_v18 ex_v18 et_v18 (fun I l2 w2 e x28 q5 q6 el2 ew2 x11 x12 x13 x14 x36 x16 x17 x37 => ?_)
                            exact k1 I l2 w2 e x28 q5 q6 ((unl_f ⟨by omega, by omega, by omega, by omega, by omega, by omega⟩ (by rw [el, ek, eb]; omega) (by rw [el, em]; intro z; omega) (by rw [el, ewt]; omega) (okb_t (by rw [el, ewt, ← e_v50]; exact Or.inl hbo))).trans (by rw [el, em])).symm (by rw [el, ek, eb]; exact el2) (by rw [el, ek, eb]; exact ew2) (by rw [el, ek, eb]; exact x11) (by rw [el, ek, eb]; exact x12) (by rw [el, ek, eb]; exact x13) (by rw [el, ek, eb]; exact x14) (by rw [el, ek]; exact x36) (by rw [el, ek, eb]; exact x16) x17 (by rw [el, ek, eb]; exact x37)
                          · obtain rfl : r51 = 0 := hk_eqi.mpr (hr.trans rfl)
                            refine qm_Rp.go 6 (c' := (188, [.ref 28, .int y, .int x, .int g, .int 0, .int v18, .int 0, .int 1, .int v48, .float 0], [.int (-v48), .int x, .int y, .ref 28], h)) rfl ?_
                            rw [q_v50]
                            refine hp_inv (o := 28) (r := []) (as := [.ref 28, .int y, .int x, .int v50]) rfl rfl (hH.1 28 (9, 8) rfl) rfl rfl rfl (px_cnw111 (m := v50) hH hT q_B hB eV hb q_ls hls q_wt hwt ⟨by omega, by omega⟩ ⟨by omega, by omega⟩ ⟨by omega, by omega⟩ (fun r52 e_r52 => ?_))
                            rcases e_r52 with ⟨hr, hnw⟩ | ⟨hr, hnw⟩
                            · obtain rfl : r52 = 1 := hk_eqi.mpr (hr.trans rfl)
                              refine qm_Rp.go 1 (c' := (197, [.ref 28, .int y, .int x, .int g, .int 0, .int v18, .int 0, .int 1, .int v48, .float 0], [], h)) rfl ?_
                              refine px_cl00 hH q_ls hls q_wt hwt eW eH e12 e13 e14 eC eY eI eV hw hi4 hb ⟨by omega, by omega⟩ ⟨by omega, by omega⟩ ⟨by omega, by omega⟩ (fun z => by omega) ⟨by omega, by omega⟩ eb ey_v18 ex_v18 et_v18 (fun I l2 w2 e x28 q5 q6 el2 ew2 x11 x12 x13 x14 x36 x16 x17 x37 => ?_)
                              exact k1 I l2 w2 e x28 q5 q6 ((unl_f ⟨by omega, by omega, by omega, by omega, by omega, by omega⟩ (by rw [el, ek, eb]; omega) (by rw [el, em]; intro z; omega) (by rw [el, ewt]; omega) (okb_t (by rw [el, ewt, ← e_v50]; exact Or.inr hnw))).trans (by rw [el, em])).symm (by rw [el, ek, eb]; exact el2) (by rw [el, ek, eb]; exact ew2) (by rw [el, ek, eb]; exact x11) (by rw [el, ek, eb]; exact x12) (by rw [el, ek, eb]; exact x13) (by rw [el, ek, eb]; exact x14) (by rw [el, ek]; exact x36) (by rw [el, ek, eb]; exact x16) x17 (by rw [el, ek, eb]; exact x37)
                            · obtain rfl : r52 = 0 := hk_eqi.mpr (hr.trans rfl)
                              refine qm_Rp.go 2 (c' := (196, [.ref 28, .int y, .int x, .int g, .int 0, .int v18, .int 0, .int 1, .int v48, .float 0], [.int (-3)], h)) rfl ?_
                              refine qm_Rp.rt (v := (some (.int (-3)))) (h' := h) rfl ?_
                              exact k0 (-3) (unl_e ⟨by omega, by omega, by omega, by omega, by omega, by omega⟩ (by rw [el, ek, eb]; omega) (by rw [el, em]; intro z; omega) (by rw [el, ewt]; omega) (okb_f (by rw [el, ewt, ← e_v50]; exact fun z => z.elim hbo hnw))).symm (by decide)
                        · refine qm_Rp.go 1 (c' := (169, [.ref 28, .int y, .int x, .int g, .int 0, .int v18, .int 0, .int 1, .int v48, .float 0], [.int (-2)], h)) rfl ?_
                          refine qm_Rp.rt (v := (some (.int (-2)))) (h' := h) rfl ?_
                          exact k0 (-2) (unl_d ⟨by omega, by omega, by omega, by omega, by omega, by omega⟩ (by rw [el, ek, eb]; omega) (by rw [el, em]; intro z; omega) (by rw [el, ewt]; omega)).symm (by decide)
                      · refine qm_Rp.go 1 (c' := (97, [.ref 28, .int y, .int x, .int g, .int 0, .int v18, .int 0, .int 1, .float 0, .float 0], [.ref 28], h)) rfl ?_
                        refine hp_getr rfl (hH.1 28 (9, 8) rfl) rfl (hH.2 28 1 (some 15) rfl) ?_
                        refine qm_Rp.go 1 (c' := (101, [.ref 28, .int y, .int x, .int g, .int 0, .int v18, .int 0, .int 1, .float 0, .float 0], [.int g, .ref 15], h)) rfl ?_
                        refine hp_inv (o := 15) (r := []) (as := [.ref 15, .int g]) rfl rfl (hH.1 15 (15, 8) rfl) rfl rfl rfl ?_
                        refine qm_Rp.go 2 (c' := (2, [.ref 15, .int g], [.ref 15, .int 4], h)) rfl ?_
                        refine hp_getr rfl (hH.1 15 (15, 8) rfl) rfl (hH.2 15 2 (some 17) rfl) ?_
                        refine qm_Rp.go 1 (c' := (6, [.ref 15, .int g], [.int g, .ref 17, .int 4], h)) rfl ?_
                        obtain ⟨v53, q_v53⟩ : ∃ v_, h.2.1 17 g.toInt.toNat = v_ := ⟨_, rfl⟩
                        refine hp_ial (v := v53) rfl (hH.1 17 (0, 4) rfl) q_v53 (fun ia_53 ib_53 => ?_)
                        refine qm_Rp.go 0 (c' := (7, [.ref 15, .int g], [.int v53, .int 4], h)) rfl ?_
                        have eh : hi g.toInt.toNat = v53.toInt := by rw [← eI]; exact congrArg Int32.toInt q_v53
                        have bh := hi4 g.toInt.toNat
                        rw [eh] at bh
                        refine qm_Rp.go 1 (c' := (8, [.ref 15, .int g], [.int (4 - v53)], h)) rfl ?_
                        obtain ⟨v55, q_v55, e_v55⟩ := hk_sub (x := 4) (y := v53) (a := 4) (b := v53.toInt) rfl rfl (by omega) (by omega)
                        rw [q_v55]
                        refine qm_Rp.rt (v := (some (.int v55))) (h' := h) rfl ?_
                        refine qm_Rp.go 1 (c' := (106, [.ref 28, .int y, .int x, .int g, .int 0, .int v18, .int 0, .int 1, .float 0, .float 0], [.int 1, .int v55], h)) rfl ?_
                        refine hp_cge (ix := v55.toInt) (iy := 1) rfl rfl rfl (fun z56 => ?_) (fun z56 => ?_)
                        · refine qm_Rp.go 1 (c' := (112, [.ref 28, .int y, .int x, .int g, .int 0, .int v18, .int 0, .int 1, .float 0, .float 0], [.ref 28], h)) rfl ?_
                          refine hp_getr rfl (hH.1 28 (9, 8) rfl) rfl (hH.2 28 0 (some 6) rfl) ?_
                          refine qm_Rp.go 0 (c' := (115, [.ref 28, .int y, .int x, .int g, .int 0, .int v18, .int 0, .int 1, .float 0, .float 0], [.ref 6], h)) rfl ?_
                          refine hp_getr rfl (hH.1 6 (6, 9) rfl) rfl (hH.2 6 1 (some 7) rfl) ?_
                          refine qm_Rp.go 1 (c' := (120, [.ref 28, .int y, .int x, .int g, .int 0, .int v18, .int 0, .int 1, .float 0, .float 0], [.int v18, .ref 7], h)) rfl ?_
                          obtain ⟨v57, q_v57⟩ : ∃ v_, h.2.1 7 v18.toInt.toNat = v_ := ⟨_, rfl⟩
                          refine hp_ial (v := v57) rfl (hH.1 7 (0, 30) rfl) q_v57 (fun ia_57 ib_57 => ?_)
                          refine qm_Rp.go 0 (c' := (121, [.ref 28, .int y, .int x, .int g, .int 0, .int v18, .int 0, .int 1, .float 0, .float 0], [.int v57], h)) rfl ?_
                          have ew_v18 : w v18.toInt.toNat = v57.toInt := by rw [← eW]; exact congrArg Int32.toInt q_v57
                          have bw_v18 := hw v18.toInt.toNat
                          rw [ew_v18] at bw_v18
                          refine qm_Rp.go 5 (c' := (153, [.ref 28, .int y, .int x, .int g, .int 0, .int v18, .int 0, .int 1, .float 0, .float 0], [.int (v57 + 0)], h)) rfl ?_
                          obtain ⟨v59, q_v59, e_v59⟩ := hk_add (x := v57) (y := 0) (a := v57.toInt) (b := 0) rfl rfl (by omega) (by omega)
                          rw [q_v59]
                          refine qm_Rp.go 1 (c' := (155, [.ref 28, .int y, .int x, .int g, .int 0, .int v18, .int 0, .int 1, .int v59, .float 0], [], h)) rfl ?_
                          have ewt : w (c (kV c (16 * y.toInt + 4 * x.toInt + 0)).toNat).toNat + (if mV c tk (16 * y.toInt + 4 * x.toInt + 0) = 2 then w (c (16 * y.toInt + 4 * x.toInt + 0).toNat).toNat else 0) = v59.toInt := by rw [ek, eb, em, if_neg (by decide)]; omega
                          refine qm_Rp.go 2 (c' := (158, [.ref 28, .int y, .int x, .int g, .int 0, .int v18, .int 0, .int 1, .int v59, .float 0], [.ref 28, .int v59], h)) rfl ?_
                          refine hp_getr rfl (hH.1 28 (9, 8) rfl) rfl hT ?_
                          refine qm_Rp.go 0 (c' := (161, [.ref 28, .int y, .int x, .int g, .int 0, .int v18, .int 0, .int 1, .int v59, .float 0], [.ref 111, .int v59], h)) rfl ?_
                          refine hp_geti (v := l) rfl (hH.1 111 (11, 16) rfl) rfl q_l ?_
                          refine qm_Rp.go 0 (c' := (164, [.ref 28, .int y, .int x, .int g, .int 0, .int v18, .int 0, .int 1, .int v59, .float 0], [.int l, .int v59], h)) rfl ?_
                          refine hp_cle (ix := v59.toInt) (iy := l.toInt) rfl rfl rfl (fun z60 => ?_) (fun z60 => ?_)
                          · refine qm_Rp.go 5 (c' := (176, [.ref 28, .int y, .int x, .int g, .int 0, .int v18, .int 0, .int 1, .int v59, .float 0], [.int (-v59), .int x, .int y, .ref 28], h)) rfl ?_
                            obtain ⟨v61, q_v61, e_v61⟩ := hk_neg (x := v59) (a := v59.toInt) rfl (by omega)
                            rw [q_v61]
                            refine hp_inv (o := 28) (r := []) (as := [.ref 28, .int y, .int x, .int v61]) rfl rfl (hH.1 28 (9, 8) rfl) rfl rfl rfl (px_cbo111 (m := v61) hH hT q_B hB eV hb q_ls hls q_wt hwt ⟨by omega, by omega⟩ ⟨by omega, by omega⟩ ⟨by omega, by omega⟩ q_g0 q_g1 q_g2 (fun r62 e_r62 => ?_))
                            rcases e_r62 with ⟨hr, hbo⟩ | ⟨hr, hbo⟩
                            · obtain rfl : r62 = 1 := hk_eqi.mpr (hr.trans rfl)
                              refine qm_Rp.go 1 (c' := (197, [.ref 28, .int y, .int x, .int g, .int 0, .int v18, .int 0, .int 1, .int v59, .float 0], [], h)) rfl ?_
                              refine px_cl00 hH q_ls hls q_wt hwt eW eH e12 e13 e14 eC eY eI eV hw hi4 hb ⟨by omega, by omega⟩ ⟨by omega, by omega⟩ ⟨by omega, by omega⟩ (fun z => by omega) ⟨by omega, by omega⟩ eb ey_v18 ex_v18 et_v18 (fun I l2 w2 e x28 q5 q6 el2 ew2 x11 x12 x13 x14 x36 x16 x17 x37 => ?_)
                              exact k1 I l2 w2 e x28 q5 q6 ((unl_f ⟨by omega, by omega, by omega, by omega, by omega, by omega⟩ (by rw [el, ek, eb]; omega) (by rw [el, em]; intro z; omega) (by rw [el, ewt]; omega) (okb_t (by rw [el, ewt, ← e_v61]; exact Or.inl hbo))).trans (by rw [el, em])).symm (by rw [el, ek, eb]; exact el2) (by rw [el, ek, eb]; exact ew2) (by rw [el, ek, eb]; exact x11) (by rw [el, ek, eb]; exact x12) (by rw [el, ek, eb]; exact x13) (by rw [el, ek, eb]; exact x14) (by rw [el, ek]; exact x36) (by rw [el, ek, eb]; exact x16) x17 (by rw [el, ek, eb]; exact x37)
                            · obtain rfl : r62 = 0 := hk_eqi.mpr (hr.trans rfl)
                              refine qm_Rp.go 6 (c' := (188, [.ref 28, .int y, .int x, .int g, .int 0, .int v18, .int 0, .int 1, .int v59, .float 0], [.int (-v59), .int x, .int y, .ref 28], h)) rfl ?_
                              rw [q_v61]
                              refine hp_inv (o := 28) (r := []) (as := [.ref 28, .int y, .int x, .int v61]) rfl rfl (hH.1 28 (9, 8) rfl) rfl rfl rfl (px_cnw111 (m := v61) hH hT q_B hB eV hb q_ls hls q_wt hwt ⟨by omega, by omega⟩ ⟨by omega, by omega⟩ ⟨by omega, by omega⟩ (fun r63 e_r63 => ?_))
                              rcases e_r63 with ⟨hr, hnw⟩ | ⟨hr, hnw⟩
                              · obtain rfl : r63 = 1 := hk_eqi.mpr (hr.trans rfl)
                                refine qm_Rp.go 1 (c' := (197, [.ref 28, .int y, .int x, .int g, .int 0, .int v18, .int 0, .int 1, .int v59, .float 0], [], h)) rfl ?_
                                refine px_cl00 hH q_ls hls q_wt hwt eW eH e12 e13 e14 eC eY eI eV hw hi4 hb ⟨by omega, by omega⟩ ⟨by omega, by omega⟩ ⟨by omega, by omega⟩ (fun z => by omega) ⟨by omega, by omega⟩ eb ey_v18 ex_v18 et_v18 (fun I l2 w2 e x28 q5 q6 el2 ew2 x11 x12 x13 x14 x36 x16 x17 x37 => ?_)
                                exact k1 I l2 w2 e x28 q5 q6 ((unl_f ⟨by omega, by omega, by omega, by omega, by omega, by omega⟩ (by rw [el, ek, eb]; omega) (by rw [el, em]; intro z; omega) (by rw [el, ewt]; omega) (okb_t (by rw [el, ewt, ← e_v61]; exact Or.inr hnw))).trans (by rw [el, em])).symm (by rw [el, ek, eb]; exact el2) (by rw [el, ek, eb]; exact ew2) (by rw [el, ek, eb]; exact x11) (by rw [el, ek, eb]; exact x12) (by rw [el, ek, eb]; exact x13) (by rw [el, ek, eb]; exact x14) (by rw [el, ek]; exact x36) (by rw [el, ek, eb]; exact x16) x17 (by rw [el, ek, eb]; exact x37)
                              · obtain rfl : r63 = 0 := hk_eqi.mpr (hr.trans rfl)
                                refine qm_Rp.go 2 (c' := (196, [.ref 28, .int y, .int x, .int g, .int 0, .int v18, .int 0, .int 1, .int v59, .float 0], [.int (-3)], h)) rfl ?_
                                refine qm_Rp.rt (v := (some (.int (-3)))) (h' := h) rfl ?_
                                exact k0 (-3) (unl_e ⟨by omega, by omega, by omega, by omega, by omega, by omega⟩ (by rw [el, ek, eb]; omega) (by rw [el, em]; intro z; omega) (by rw [el, ewt]; omega) (okb_f (by rw [el, ewt, ← e_v61]; exact fun z => z.elim hbo hnw))).symm (by decide)
                          · refine qm_Rp.go 1 (c' := (169, [.ref 28, .int y, .int x, .int g, .int 0, .int v18, .int 0, .int 1, .int v59, .float 0], [.int (-2)], h)) rfl ?_
                            refine qm_Rp.rt (v := (some (.int (-2)))) (h' := h) rfl ?_
                            exact k0 (-2) (unl_d ⟨by omega, by omega, by omega, by omega, by omega, by omega⟩ (by rw [el, ek, eb]; omega) (by rw [el, em]; intro z; omega) (by rw [el, ewt]; omega)).symm (by decide)
                        · refine qm_Rp.go 1 (c' := (110, [.ref 28, .int y, .int x, .int g, .int 0, .int v18, .int 0, .int 1, .float 0, .float 0], [.int (-1)], h)) rfl ?_
                          refine qm_Rp.rt (v := (some (.int (-1)))) (h' := h) rfl ?_
                          exact k0 (-1) (unl_c ⟨by omega, by omega, by omega, by omega, by omega, by omega⟩ (by rw [el, ek, eb]; omega) ⟨by omega, by rw [el, em]; omega⟩).symm (by decide)
                · refine qm_Rp.go 3 (c' := (26, [.ref 28, .int y, .int x, .int 0], [.int 1], h)) rfl ?_
                  refine qm_Rp.rt (v := (some (.int 1))) (h' := h) rfl ?_
                  refine qm_Rp.go 0 (c' := (24, [.ref 28, .int y, .int x, .int g, .float 0, .float 0, .float 0, .float 0, .float 0, .float 0], [.int 1], h)) rfl ?_
                  have ek : kV c (16 * y.toInt + 4 * x.toInt + 0) = 16 * y.toInt + 4 * x.toInt + 1 := (kV_1 (by rw [show 16 * y.toInt + 4 * x.toInt + 0 + 1 = 16 * y.toInt + 4 * x.toInt + 1 by omega, ec1]; omega)).trans (by omega)
                  have eb := ec1
                  have ec2 : c (16 * y.toInt + 4 * x.toInt + 0 + 1).toNat = v14.toInt := by rw [show 16 * y.toInt + 4 * x.toInt + 0 + 1 = 16 * y.toInt + 4 * x.toInt + 1 by omega]; exact ec1
                  have ab_v14 := hA (16 * y.toInt + 4 * x.toInt + 1).toNat (by omega) (by rw [eb]; omega)
                  rw [eb] at ab_v14
                  have rb_v14 := hR v14.toInt.toNat ab_v14.1
                  have ey_v14 : yb v14.toInt.toNat = y.toInt := by omega
                  have ex_v14 : rb v14.toInt.toNat = x.toInt := by omega
                  have et_v14 : tb v14.toInt.toNat = 1 := by omega
                  refine qm_Rp.go 5 (c' := (35, [.ref 28, .int y, .int x, .int g, .int 1, .float 0, .float 0, .float 0, .float 0, .float 0], [.ref 28], h)) rfl ?_
                  refine hp_getr rfl (hH.1 28 (9, 8) rfl) rfl (hH.2 28 3 (some 36) rfl) ?_
                  refine qm_Rp.go 3 (c' := (42, [.ref 28, .int y, .int x, .int g, .int 1, .float 0, .float 0, .float 0, .float 0, .float 0], [.int 1, .int x, .int y, .ref 36], h)) rfl ?_
                  refine qm_Rp.call (j := 75) (as := [.int y, .int x, .int 1]) (c' := (45, [.ref 28, .int y, .int x, .int g, .int 1, .float 0, .float 0, .float 0, .float 0, .float 0], [.ref 36], h)) rfl rfl ?_
                  refine qm_Rp.go 3 (c' := (3, [.int y, .int x, .int 1], [.int (y * 4)], h)) rfl ?_
                  rw [q_v10]
                  refine qm_Rp.go 2 (c' := (5, [.int y, .int x, .int 1], [.int (v10 + x)], h)) rfl ?_
                  rw [q_v11]
                  refine qm_Rp.go 2 (c' := (7, [.int y, .int x, .int 1], [.int (v11 * 4)], h)) rfl ?_
                  rw [q_v12]
                  refine qm_Rp.go 2 (c' := (9, [.int y, .int x, .int 1], [.int (v12 + 1)], h)) rfl ?_
                  rw [q_v13]
                  refine qm_Rp.rt (v := (some (.int v13))) (h' := h) rfl ?_
                  refine qm_Rp.go 0 (c' := (45, [.ref 28, .int y, .int x, .int g, .int 1, .float 0, .float 0, .float 0, .float 0, .float 0], [.int v13, .ref 36], h)) rfl ?_
                  refine hp_ial (v := v14) rfl (hH.1 36 (0, 80) rfl) q_v14 (fun ia_63 ib_63 => ?_)
                  refine qm_Rp.go 2 (c' := (49, [.ref 28, .int y, .int x, .int g, .int 1, .int v14, .float 0, .float 0, .float 0, .float 0], [.ref 28], h)) rfl ?_
                  refine hp_getr rfl (hH.1 28 (9, 8) rfl) rfl (hH.2 28 0 (some 6) rfl) ?_
                  refine qm_Rp.go 0 (c' := (52, [.ref 28, .int y, .int x, .int g, .int 1, .int v14, .float 0, .float 0, .float 0, .float 0], [.ref 6], h)) rfl ?_
                  refine hp_getr rfl (hH.1 6 (6, 9) rfl) rfl (hH.2 6 4 (some 10) rfl) ?_
                  refine qm_Rp.go 1 (c' := (57, [.ref 28, .int y, .int x, .int g, .int 1, .int v14, .float 0, .float 0, .float 0, .float 0], [.int v14, .ref 10], h)) rfl ?_
                  obtain ⟨v65, q_v65⟩ : ∃ v_, h.2.1 10 v14.toInt.toNat = v_ := ⟨_, rfl⟩
                  refine hp_bal (v := v65) rfl (hH.1 10 (2, 30) rfl) q_v65 (fun ia_65 ib_65 => ?_)
                  refine qm_Rp.go 0 (c' := (58, [.ref 28, .int y, .int x, .int g, .int 1, .int v14, .float 0, .float 0, .float 0, .float 0], [.int v65], h)) rfl ?_
                  have est : tk v14.toInt.toNat = v65.toInt := by rw [← eK]; exact congrArg Int32.toInt q_v65
                  refine hp_zeq (ix := v65.toInt) rfl rfl (fun z67 => ?_) (fun z67 => ?_)
                  · refine qm_Rp.go 1 (c' := (80, [.ref 28, .int y, .int x, .int g, .int 1, .int v14, .float 0, .float 0, .float 0, .float 0], [.int 1], h)) rfl ?_
                    have em : mV c tk (16 * y.toInt + 4 * x.toInt + 0) = 1 := mV_1b (by rw [ec2]; omega) (by rw [ec2, est]; omega)
                    refine qm_Rp.go 9 (c' := (93, [.ref 28, .int y, .int x, .int g, .int 1, .int v14, .int 1, .int 1, .float 0, .float 0], [.int (-1), .int g], h)) rfl ?_
                    refine hp_ceq (ix := g.toInt) (iy := (-1)) rfl rfl rfl (fun z68 => ?_) (fun z68 => ?_)
                    · refine qm_Rp.go 1 (c' := (112, [.ref 28, .int y, .int x, .int g, .int 1, .int v14, .int 1, .int 1, .float 0, .float 0], [.ref 28], h)) rfl ?_
                      refine hp_getr rfl (hH.1 28 (9, 8) rfl) rfl (hH.2 28 0 (some 6) rfl) ?_
                      refine qm_Rp.go 0 (c' := (115, [.ref 28, .int y, .int x, .int g, .int 1, .int v14, .int 1, .int 1, .float 0, .float 0], [.ref 6], h)) rfl ?_
                      refine hp_getr rfl (hH.1 6 (6, 9) rfl) rfl (hH.2 6 1 (some 7) rfl) ?_
                      refine qm_Rp.go 1 (c' := (120, [.ref 28, .int y, .int x, .int g, .int 1, .int v14, .int 1, .int 1, .float 0, .float 0], [.int v14, .ref 7], h)) rfl ?_
                      obtain ⟨v69, q_v69⟩ : ∃ v_, h.2.1 7 v14.toInt.toNat = v_ := ⟨_, rfl⟩
                      refine hp_ial (v := v69) rfl (hH.1 7 (0, 30) rfl) q_v69 (fun ia_69 ib_69 => ?_)
                      refine qm_Rp.go 0 (c' := (121, [.ref 28, .int y, .int x, .int g, .int 1, .int v14, .int 1, .int 1, .float 0, .float 0], [.int v69], h)) rfl ?_
                      have ew_v14 : w v14.toInt.toNat = v69.toInt := by rw [← eW]; exact congrArg Int32.toInt q_v69
                      have bw_v14 := hw v14.toInt.toNat
                      rw [ew_v14] at bw_v14
                      refine qm_Rp.go 5 (c' := (153, [.ref 28, .int y, .int x, .int g, .int 1, .int v14, .int 1, .int 1, .float 0, .float 0], [.int (v69 + 0)], h)) rfl ?_
                      obtain ⟨v71, q_v71, e_v71⟩ := hk_add (x := v69) (y := 0) (a := v69.toInt) (b := 0) rfl rfl (by omega) (by omega)
                      rw [q_v71]
                      refine qm_Rp.go 1 (c' := (155, [.ref 28, .int y, .int x, .int g, .int 1, .int v14, .int 1, .int 1, .int v71, .float 0], [], h)) rfl ?_
                      have ewt : w (c (kV c (16 * y.toInt + 4 * x.toInt + 0)).toNat).toNat + (if mV c tk (16 * y.toInt + 4 * x.toInt + 0) = 2 then w (c (16 * y.toInt + 4 * x.toInt + 0).toNat).toNat else 0) = v71.toInt := by rw [ek, eb, em, if_neg (by decide)]; omega
                      refine qm_Rp.go 2 (c' := (158, [.ref 28, .int y, .int x, .int g, .int 1, .int v14, .int 1, .int 1, .int v71, .float 0], [.ref 28, .int v71], h)) rfl ?_
                      refine hp_getr rfl (hH.1 28 (9, 8) rfl) rfl hT ?_
                      refine qm_Rp.go 0 (c' := (161, [.ref 28, .int y, .int x, .int g, .int 1, .int v14, .int 1, .int 1, .int v71, .float 0], [.ref 111, .int v71], h)) rfl ?_
                      refine hp_geti (v := l) rfl (hH.1 111 (11, 16) rfl) rfl q_l ?_
                      refine qm_Rp.go 0 (c' := (164, [.ref 28, .int y, .int x, .int g, .int 1, .int v14, .int 1, .int 1, .int v71, .float 0], [.int l, .int v71], h)) rfl ?_
                      refine hp_cle (ix := v71.toInt) (iy := l.toInt) rfl rfl rfl (fun z72 => ?_) (fun z72 => ?_)
                      · refine qm_Rp.go 5 (c' := (176, [.ref 28, .int y, .int x, .int g, .int 1, .int v14, .int 1, .int 1, .int v71, .float 0], [.int (-v71), .int x, .int y, .ref 28], h)) rfl ?_
                        obtain ⟨v73, q_v73, e_v73⟩ := hk_neg (x := v71) (a := v71.toInt) rfl (by omega)
                        rw [q_v73]
                        refine hp_inv (o := 28) (r := []) (as := [.ref 28, .int y, .int x, .int v73]) rfl rfl (hH.1 28 (9, 8) rfl) rfl rfl rfl (px_cbo111 (m := v73) hH hT q_B hB eV hb q_ls hls q_wt hwt ⟨by omega, by omega⟩ ⟨by omega, by omega⟩ ⟨by omega, by omega⟩ q_g0 q_g1 q_g2 (fun r74 e_r74 => ?_))
                        rcases e_r74 with ⟨hr, hbo⟩ | ⟨hr, hbo⟩
                        · obtain rfl : r74 = 1 := hk_eqi.mpr (hr.trans rfl)
                          refine qm_Rp.go 1 (c' := (197, [.ref 28, .int y, .int x, .int g, .int 1, .int v14, .int 1, .int 1, .int v71, .float 0], [], h)) rfl ?_
                          refine px_cl11 hH q_ls hls q_wt hwt eW eH e12 e13 e14 eC eY eI eV hw hi4 hb ⟨by omega, by omega⟩ ⟨by omega, by omega⟩ ⟨by omega, by omega⟩ (fun z => by omega) ⟨by omega, by omega⟩ eb ey_v14 ex_v14 et_v14 (fun I l2 w2 e x28 q5 q6 el2 ew2 x11 x12 x13 x14 x36 x16 x17 x37 => ?_)
                          exact k1 I l2 w2 e x28 q5 q6 ((unl_f ⟨by omega, by omega, by omega, by omega, by omega, by omega⟩ (by rw [el, ek, eb]; omega) (by rw [el, em]; intro z; omega) (by rw [el, ewt]; omega) (okb_t (by rw [el, ewt, ← e_v73]; exact Or.inl hbo))).trans (by rw [el, em])).symm (by rw [el, ek, eb]; exact el2) (by rw [el, ek, eb]; exact ew2) (by rw [el, ek, eb]; exact x11) (by rw [el, ek, eb]; exact x12) (by rw [el, ek, eb]; exact x13) (by rw [el, ek, eb]; exact x14) (by rw [el, ek]; exact x36) (by rw [el, ek, eb]; exact x16) x17 (by rw [el, ek, eb]; exact x37)
                        · obtain rfl : r74 = 0 := hk_eqi.mpr (hr.trans rfl)
                          refine qm_Rp.go 6 (c' := (188, [.ref 28, .int y, .int x, .int g, .int 1, .int v14, .int 1, .int 1, .int v71, .float 0], [.int (-v71), .int x, .int y, .ref 28], h)) rfl ?_
                          rw [q_v73]
                          refine hp_inv (o := 28) (r := []) (as := [.ref 28, .int y, .int x, .int v73]) rfl rfl (hH.1 28 (9, 8) rfl) rfl rfl rfl (px_cnw111 (m := v73) hH hT q_B hB eV hb q_ls hls q_wt hwt ⟨by omega, by omega⟩ ⟨by omega, by omega⟩ ⟨by omega, by omega⟩ (fun r75 e_r75 => ?_))
                          rcases e_r75 with ⟨hr, hnw⟩ | ⟨hr, hnw⟩
                          · obtain rfl : r75 = 1 := hk_eqi.mpr (hr.trans rfl)
                            refine qm_Rp.go 1 (c' := (197, [.ref 28, .int y, .int x, .int g, .int 1, .int v14, .int 1, .int 1, .int v71, .float 0], [], h)) rfl ?_
                            refine px_cl11 hH q_ls hls q_wt hwt eW eH e12 e13 e14 eC eY eI eV hw hi4 hb ⟨by omega, by omega⟩ ⟨by omega, by omega⟩ ⟨by omega, by omega⟩ (fun z => by omega) ⟨by omega, by omega⟩ eb ey_v14 ex_v14 et_v14 (fun I l2 w2 e x28 q5 q6 el2 ew2 x11 x12 x13 x14 x36 x16 x17 x37 => ?_)
                            exact k1 I l2 w2 e x28 q5 q6 ((unl_f ⟨by omega, by omega, by omega, by omega, by omega, by omega⟩ (by rw [el, ek, eb]; omega) (by rw [el, em]; intro z; omega) (by rw [el, ewt]; omega) (okb_t (by rw [el, ewt, ← e_v73]; exact Or.inr hnw))).trans (by rw [el, em])).symm (by rw [el, ek, eb]; exact el2) (by rw [el, ek, eb]; exact ew2) (by rw [el, ek, eb]; exact x11) (by rw [el, ek, eb]; exact x12) (by rw [el, ek, eb]; exact x13) (by rw [el, ek, eb]; exact x14) (by rw [el, ek]; exact x36) (by rw [el, ek, eb]; exact x16) x17 (by rw [el, ek, eb]; exact x37)
                          · obtain rfl : r75 = 0 := hk_eqi.mpr (hr.trans rfl)
                            refine qm_Rp.go 2 (c' := (196, [.ref 28, .int y, .int x, .int g, .int 1, .int v14, .int 1, .int 1, .int v71, .float 0], [.int (-3)], h)) rfl ?_
                            refine qm_Rp.rt (v := (some (.int (-3)))) (h' := h) rfl ?_
                            exact k0 (-3) (unl_e ⟨by omega, by omega, by omega, by omega, by omega, by omega⟩ (by rw [el, ek, eb]; omega) (by rw [el, em]; intro z; omega) (by rw [el, ewt]; omega) (okb_f (by rw [el, ewt, ← e_v73]; exact fun z => z.elim hbo hnw))).symm (by decide)
                      · refine qm_Rp.go 1 (c' := (169, [.ref 28, .int y, .int x, .int g, .int 1, .int v14, .int 1, .int 1, .int v71, .float 0], [.int (-2)], h)) rfl ?_
                        refine qm_Rp.rt (v := (some (.int (-2)))) (h' := h) rfl ?_
                        exact k0 (-2) (unl_d ⟨by omega, by omega, by omega, by omega, by omega, by omega⟩ (by rw [el, ek, eb]; omega) (by rw [el, em]; intro z; omega) (by rw [el, ewt]; omega)).symm (by decide)
                    · refine qm_Rp.go 1 (c' := (97, [.ref 28, .int y, .int x, .int g, .int 1, .int v14, .int 1, .int 1, .float 0, .float 0], [.ref 28], h)) rfl ?_
                      refine hp_getr rfl (hH.1 28 (9, 8) rfl) rfl (hH.2 28 1 (some 15) rfl) ?_
                      refine qm_Rp.go 1 (c' := (101, [.ref 28, .int y, .int x, .int g, .int 1, .int v14, .int 1, .int 1, .float 0, .float 0], [.int g, .ref 15], h)) rfl ?_
                      refine hp_inv (o := 15) (r := []) (as := [.ref 15, .int g]) rfl rfl (hH.1 15 (15, 8) rfl) rfl rfl rfl ?_
                      refine qm_Rp.go 2 (c' := (2, [.ref 15, .int g], [.ref 15, .int 4], h)) rfl ?_
                      refine hp_getr rfl (hH.1 15 (15, 8) rfl) rfl (hH.2 15 2 (some 17) rfl) ?_
                      refine qm_Rp.go 1 (c' := (6, [.ref 15, .int g], [.int g, .ref 17, .int 4], h)) rfl ?_
                      obtain ⟨v76, q_v76⟩ : ∃ v_, h.2.1 17 g.toInt.toNat = v_ := ⟨_, rfl⟩
                      refine hp_ial (v := v76) rfl (hH.1 17 (0, 4) rfl) q_v76 (fun ia_76 ib_76 => ?_)
                      refine qm_Rp.go 0 (c' := (7, [.ref 15, .int g], [.int v76, .int 4], h)) rfl ?_
                      have eh : hi g.toInt.toNat = v76.toInt := by rw [← eI]; exact congrArg Int32.toInt q_v76
                      have bh := hi4 g.toInt.toNat
                      rw [eh] at bh
                      refine qm_Rp.go 1 (c' := (8, [.ref 15, .int g], [.int (4 - v76)], h)) rfl ?_
                      obtain ⟨v78, q_v78, e_v78⟩ := hk_sub (x := 4) (y := v76) (a := 4) (b := v76.toInt) rfl rfl (by omega) (by omega)
                      rw [q_v78]
                      refine qm_Rp.rt (v := (some (.int v78))) (h' := h) rfl ?_
                      refine qm_Rp.go 1 (c' := (106, [.ref 28, .int y, .int x, .int g, .int 1, .int v14, .int 1, .int 1, .float 0, .float 0], [.int 1, .int v78], h)) rfl ?_
                      refine hp_cge (ix := v78.toInt) (iy := 1) rfl rfl rfl (fun z79 => ?_) (fun z79 => ?_)
                      · refine qm_Rp.go 1 (c' := (112, [.ref 28, .int y, .int x, .int g, .int 1, .int v14, .int 1, .int 1, .float 0, .float 0], [.ref 28], h)) rfl ?_
                        refine hp_getr rfl (hH.1 28 (9, 8) rfl) rfl (hH.2 28 0 (some 6) rfl) ?_
                        refine qm_Rp.go 0 (c' := (115, [.ref 28, .int y, .int x, .int g, .int 1, .int v14, .int 1, .int 1, .float 0, .float 0], [.ref 6], h)) rfl ?_
                        refine hp_getr rfl (hH.1 6 (6, 9) rfl) rfl (hH.2 6 1 (some 7) rfl) ?_
                        refine qm_Rp.go 1 (c' := (120, [.ref 28, .int y, .int x, .int g, .int 1, .int v14, .int 1, .int 1, .float 0, .float 0], [.int v14, .ref 7], h)) rfl ?_
                        obtain ⟨v80, q_v80⟩ : ∃ v_, h.2.1 7 v14.toInt.toNat = v_ := ⟨_, rfl⟩
                        refine hp_ial (v := v80) rfl (hH.1 7 (0, 30) rfl) q_v80 (fun ia_80 ib_80 => ?_)
                        refine qm_Rp.go 0 (c' := (121, [.ref 28, .int y, .int x, .int g, .int 1, .int v14, .int 1, .int 1, .float 0, .float 0], [.int v80], h)) rfl ?_
                        have ew_v14 : w v14.toInt.toNat = v80.toInt := by rw [← eW]; exact congrArg Int32.toInt q_v80
                        have bw_v14 := hw v14.toInt.toNat
                        rw [ew_v14] at bw_v14
                        refine qm_Rp.go 5 (c' := (153, [.ref 28, .int y, .int x, .int g, .int 1, .int v14, .int 1, .int 1, .float 0, .float 0], [.int (v80 + 0)], h)) rfl ?_
                        obtain ⟨v82, q_v82, e_v82⟩ := hk_add (x := v80) (y := 0) (a := v80.toInt) (b := 0) rfl rfl (by omega) (by omega)
                        rw [q_v82]
                        refine qm_Rp.go 1 (c' := (155, [.ref 28, .int y, .int x, .int g, .int 1, .int v14, .int 1, .int 1, .int v82, .float 0], [], h)) rfl ?_
                        have ewt : w (c (kV c (16 * y.toInt + 4 * x.toInt + 0)).toNat).toNat + (if mV c tk (16 * y.toInt + 4 * x.toInt + 0) = 2 then w (c (16 * y.toInt + 4 * x.toInt + 0).toNat).toNat else 0) = v82.toInt := by rw [ek, eb, em, if_neg (by decide)]; omega
                        refine qm_Rp.go 2 (c' := (158, [.ref 28, .int y, .int x, .int g, .int 1, .int v14, .int 1, .int 1, .int v82, .float 0], [.ref 28, .int v82], h)) rfl ?_
                        refine hp_getr rfl (hH.1 28 (9, 8) rfl) rfl hT ?_
                        refine qm_Rp.go 0 (c' := (161, [.ref 28, .int y, .int x, .int g, .int 1, .int v14, .int 1, .int 1, .int v82, .float 0], [.ref 111, .int v82], h)) rfl ?_
                        refine hp_geti (v := l) rfl (hH.1 111 (11, 16) rfl) rfl q_l ?_
                        refine qm_Rp.go 0 (c' := (164, [.ref 28, .int y, .int x, .int g, .int 1, .int v14, .int 1, .int 1, .int v82, .float 0], [.int l, .int v82], h)) rfl ?_
                        refine hp_cle (ix := v82.toInt) (iy := l.toInt) rfl rfl rfl (fun z83 => ?_) (fun z83 => ?_)
                        · refine qm_Rp.go 5 (c' := (176, [.ref 28, .int y, .int x, .int g, .int 1, .int v14, .int 1, .int 1, .int v82, .float 0], [.int (-v82), .int x, .int y, .ref 28], h)) rfl ?_
                          obtain ⟨v84, q_v84, e_v84⟩ := hk_neg (x := v82) (a := v82.toInt) rfl (by omega)
                          rw [q_v84]
                          refine hp_inv (o := 28) (r := []) (as := [.ref 28, .int y, .int x, .int v84]) rfl rfl (hH.1 28 (9, 8) rfl) rfl rfl rfl (px_cbo111 (m := v84) hH hT q_B hB eV hb q_ls hls q_wt hwt ⟨by omega, by omega⟩ ⟨by omega, by omega⟩ ⟨by omega, by omega⟩ q_g0 q_g1 q_g2 (fun r85 e_r85 => ?_))
                          rcases e_r85 with ⟨hr, hbo⟩ | ⟨hr, hbo⟩
                          · obtain rfl : r85 = 1 := hk_eqi.mpr (hr.trans rfl)
                            refine qm_Rp.go 1 (c' := (197, [.ref 28, .int y, .int x, .int g, .int 1, .int v14, .int 1, .int 1, .int v82, .float 0], [], h)) rfl ?_
                            refine px_cl11 hH q_ls hls q_wt hwt eW eH e12 e13 e14 eC eY eI eV hw hi4 hb ⟨by omega, by omega⟩ ⟨by omega, by omega⟩ ⟨by omega, by omega⟩ (fun z => by omega) ⟨by omega, by omega⟩ eb ey_v14 ex_v14 et_v14 (fun I l2 w2 e x28 q5 q6 el2 ew2 x11 x12 x13 x14 x36 x16 x17 x37 => ?_)
                            exact k1 I l2 w2 e x28 q5 q6 ((unl_f ⟨by omega, by omega, by omega, by omega, by omega, by omega⟩ (by rw [el, ek, eb]; omega) (by rw [el, em]; intro z; omega) (by rw [el, ewt]; omega) (okb_t (by rw [el, ewt, ← e_v84]; exact Or.inl hbo))).trans (by rw [el, em])).symm (by rw [el, ek, eb]; exact el2) (by rw [el, ek, eb]; exact ew2) (by rw [el, ek, eb]; exact x11) (by rw [el, ek, eb]; exact x12) (by rw [el, ek, eb]; exact x13) (by rw [el, ek, eb]; exact x14) (by rw [el, ek]; exact x36) (by rw [el, ek, eb]; exact x16) x17 (by rw [el, ek, eb]; exact x37)
                          · obtain rfl : r85 = 0 := hk_eqi.mpr (hr.trans rfl)
                            refine qm_Rp.go 6 (c' := (188, [.ref 28, .int y, .int x, .int g, .int 1, .int v14, .int 1, .int 1, .int v82, .float 0], [.int (-v82), .int x, .int y, .ref 28], h)) rfl ?_
                            rw [q_v84]
                            refine hp_inv (o := 28) (r := []) (as := [.ref 28, .int y, .int x, .int v84]) rfl rfl (hH.1 28 (9, 8) rfl) rfl rfl rfl (px_cnw111 (m := v84) hH hT q_B hB eV hb q_ls hls q_wt hwt ⟨by omega, by omega⟩ ⟨by omega, by omega⟩ ⟨by omega, by omega⟩ (fun r86 e_r86 => ?_))
                            rcases e_r86 with ⟨hr, hnw⟩ | ⟨hr, hnw⟩
                            · obtain rfl : r86 = 1 := hk_eqi.mpr (hr.trans rfl)
                              refine qm_Rp.go 1 (c' := (197, [.ref 28, .int y, .int x, .int g, .int 1, .int v14, .int 1, .int 1, .int v82, .float 0], [], h)) rfl ?_
                              refine px_cl11 hH q_ls hls q_wt hwt eW eH e12 e13 e14 eC eY eI eV hw hi4 hb ⟨by omega, by omega⟩ ⟨by omega, by omega⟩ ⟨by omega, by omega⟩ (fun z => by omega) ⟨by omega, by omega⟩ eb ey_v14 ex_v14 et_v14 (fun I l2 w2 e x28 q5 q6 el2 ew2 x11 x12 x13 x14 x36 x16 x17 x37 => ?_)
                              exact k1 I l2 w2 e x28 q5 q6 ((unl_f ⟨by omega, by omega, by omega, by omega, by omega, by omega⟩ (by rw [el, ek, eb]; omega) (by rw [el, em]; intro z; omega) (by rw [el, ewt]; omega) (okb_t (by rw [el, ewt, ← e_v84]; exact Or.inr hnw))).trans (by rw [el, em])).symm (by rw [el, ek, eb]; exact el2) (by rw [el, ek, eb]; exact ew2) (by rw [el, ek, eb]; exact x11) (by rw [el, ek, eb]; exact x12) (by rw [el, ek, eb]; exact x13) (by rw [el, ek, eb]; exact x14) (by rw [el, ek]; exact x36) (by rw [el, ek, eb]; exact x16) x17 (by rw [el, ek, eb]; exact x37)
                            · obtain rfl : r86 = 0 := hk_eqi.mpr (hr.trans rfl)
                              refine qm_Rp.go 2 (c' := (196, [.ref 28, .int y, .int x, .int g, .int 1, .int v14, .int 1, .int 1, .int v82, .float 0], [.int (-3)], h)) rfl ?_
                              refine qm_Rp.rt (v := (some (.int (-3)))) (h' := h) rfl ?_
                              exact k0 (-3) (unl_e ⟨by omega, by omega, by omega, by omega, by omega, by omega⟩ (by rw [el, ek, eb]; omega) (by rw [el, em]; intro z; omega) (by rw [el, ewt]; omega) (okb_f (by rw [el, ewt, ← e_v84]; exact fun z => z.elim hbo hnw))).symm (by decide)
                        · refine qm_Rp.go 1 (c' := (169, [.ref 28, .int y, .int x, .int g, .int 1, .int v14, .int 1, .int 1, .int v82, .float 0], [.int (-2)], h)) rfl ?_
                          refine qm_Rp.rt (v := (some (.int (-2)))) (h' := h) rfl ?_
                          exact k0 (-2) (unl_d ⟨by omega, by omega, by omega, by omega, by omega, by omega⟩ (by rw [el, ek, eb]; omega) (by rw [el, em]; intro z; omega) (by rw [el, ewt]; omega)).symm (by decide)
                      · refine qm_Rp.go 1 (c' := (110, [.ref 28, .int y, .int x, .int g, .int 1, .int v14, .int 1, .int 1, .float 0, .float 0], [.int (-1)], h)) rfl ?_
                        refine qm_Rp.rt (v := (some (.int (-1)))) (h' := h) rfl ?_
                        exact k0 (-1) (unl_c ⟨by omega, by omega, by omega, by omega, by omega, by omega⟩ (by rw [el, ek, eb]; omega) ⟨by omega, by rw [el, em]; omega⟩).symm (by decide)
                  · refine qm_Rp.go 3 (c' := (65, [.ref 28, .int y, .int x, .int g, .int 1, .int v14, .float 0, .float 0, .float 0, .float 0], [.int y, .ref 28, .int 1], h)) rfl ?_
                    refine hp_inv (o := 28) (r := [.int 1]) (as := [.ref 28, .int y]) rfl rfl (hH.1 28 (9, 8) rfl) rfl rfl rfl ?_
                    refine qm_Rp.go 2 (c' := (2, [.ref 28, .int y], [.int y, .ref 28], h)) rfl ?_
                    refine hp_inv (o := 28) (r := []) (as := [.ref 28, .int y]) rfl rfl (hH.1 28 (9, 8) rfl) rfl rfl rfl ?_
                    refine qm_Rp.go 1 (c' := (1, [.ref 28, .int y], [.ref 28], h)) rfl ?_
                    refine hp_geti (v := cv) rfl (hH.1 28 (9, 8) rfl) rfl q_cv ?_
                    refine qm_Rp.go 2 (c' := (6, [.ref 28, .int y], [.int (cv >>> (y &&& 31))], h)) rfl ?_
                    rw [q_v7]
                    refine qm_Rp.go 2 (c' := (8, [.ref 28, .int y], [.int (v7 &&& 1)], h)) rfl ?_
                    rw [q_v8]
                    refine qm_Rp.go 1 (c' := (9, [.ref 28, .int y], [.int 1, .int v8], h)) rfl ?_
                    refine hp_cne (ix := v8.toInt) (iy := 1) rfl rfl rfl (fun z87 => ?_) (fun z87 => by exfalso; omega)
                    refine qm_Rp.go 1 (c' := (17, [.ref 28, .int y], [.int 0], h)) rfl ?_
                    refine qm_Rp.rt (v := (some (.int 0))) (h' := h) rfl ?_
                    refine qm_Rp.go 2 (c' := (13, [.ref 28, .int y], [.int 0], h)) rfl ?_
                    refine qm_Rp.rt (v := (some (.int 0))) (h' := h) rfl ?_
                    refine qm_Rp.go 5 (c' := (80, [.ref 28, .int y, .int x, .int g, .int 1, .int v14, .float 0, .float 0, .float 0, .float 0], [.int 0], h)) rfl ?_
                    have em : mV c tk (16 * y.toInt + 4 * x.toInt + 0) = 2 := mV_2 (by rw [ec2]; omega) (by rw [ec2, est]; omega)
                    refine qm_Rp.go 9 (c' := (93, [.ref 28, .int y, .int x, .int g, .int 1, .int v14, .int 0, .int 2, .float 0, .float 0], [.int (-1), .int g], h)) rfl ?_
                    refine hp_ceq (ix := g.toInt) (iy := (-1)) rfl rfl rfl (fun z88 => ?_) (fun z88 => ?_)
                    · refine qm_Rp.go 1 (c' := (112, [.ref 28, .int y, .int x, .int g, .int 1, .int v14, .int 0, .int 2, .float 0, .float 0], [.ref 28], h)) rfl ?_
                      refine hp_getr rfl (hH.1 28 (9, 8) rfl) rfl (hH.2 28 0 (some 6) rfl) ?_
                      refine qm_Rp.go 0 (c' := (115, [.ref 28, .int y, .int x, .int g, .int 1, .int v14, .int 0, .int 2, .float 0, .float 0], [.ref 6], h)) rfl ?_
                      refine hp_getr rfl (hH.1 6 (6, 9) rfl) rfl (hH.2 6 1 (some 7) rfl) ?_
                      refine qm_Rp.go 1 (c' := (120, [.ref 28, .int y, .int x, .int g, .int 1, .int v14, .int 0, .int 2, .float 0, .float 0], [.int v14, .ref 7], h)) rfl ?_
                      obtain ⟨v89, q_v89⟩ : ∃ v_, h.2.1 7 v14.toInt.toNat = v_ := ⟨_, rfl⟩
                      refine hp_ial (v := v89) rfl (hH.1 7 (0, 30) rfl) q_v89 (fun ia_89 ib_89 => ?_)
                      refine qm_Rp.go 0 (c' := (121, [.ref 28, .int y, .int x, .int g, .int 1, .int v14, .int 0, .int 2, .float 0, .float 0], [.int v89], h)) rfl ?_
                      have ew_v14 : w v14.toInt.toNat = v89.toInt := by rw [← eW]; exact congrArg Int32.toInt q_v89
                      have bw_v14 := hw v14.toInt.toNat
                      rw [ew_v14] at bw_v14
                      refine qm_Rp.go 4 (c' := (129, [.ref 28, .int y, .int x, .int g, .int 1, .int v14, .int 0, .int 2, .float 0, .float 0], [.ref 28, .int v89], h)) rfl ?_
                      refine hp_getr rfl (hH.1 28 (9, 8) rfl) rfl (hH.2 28 0 (some 6) rfl) ?_
                      refine qm_Rp.go 0 (c' := (132, [.ref 28, .int y, .int x, .int g, .int 1, .int v14, .int 0, .int 2, .float 0, .float 0], [.ref 6, .int v89], h)) rfl ?_
                      refine hp_getr rfl (hH.1 6 (6, 9) rfl) rfl (hH.2 6 1 (some 7) rfl) ?_
                      refine qm_Rp.go 1 (c' := (136, [.ref 28, .int y, .int x, .int g, .int 1, .int v14, .int 0, .int 2, .float 0, .float 0], [.ref 28, .ref 7, .int v89], h)) rfl ?_
                      refine hp_getr rfl (hH.1 28 (9, 8) rfl) rfl (hH.2 28 3 (some 36) rfl) ?_
                      refine qm_Rp.go 3 (c' := (143, [.ref 28, .int y, .int x, .int g, .int 1, .int v14, .int 0, .int 2, .float 0, .float 0], [.int 0, .int x, .int y, .ref 36, .ref 7, .int v89], h)) rfl ?_
                      refine qm_Rp.call (j := 75) (as := [.int y, .int x, .int 0]) (c' := (146, [.ref 28, .int y, .int x, .int g, .int 1, .int v14, .int 0, .int 2, .float 0, .float 0], [.ref 36, .ref 7, .int v89], h)) rfl rfl ?_
                      refine qm_Rp.go 3 (c' := (3, [.int y, .int x, .int 0], [.int (y * 4)], h)) rfl ?_
                      rw [q_v10]
                      refine qm_Rp.go 2 (c' := (5, [.int y, .int x, .int 0], [.int (v10 + x)], h)) rfl ?_
                      rw [q_v11]
                      refine qm_Rp.go 2 (c' := (7, [.int y, .int x, .int 0], [.int (v11 * 4)], h)) rfl ?_
                      rw [q_v12]
                      refine qm_Rp.go 2 (c' := (9, [.int y, .int x, .int 0], [.int (v12 + 0)], h)) rfl ?_
                      obtain ⟨v91, q_v91, e_v91⟩ := hk_add (x := v12) (y := 0) (a := v12.toInt) (b := 0) rfl rfl (by omega) (by omega)
                      rw [q_v91]
                      refine qm_Rp.rt (v := (some (.int v91))) (h' := h) rfl ?_
                      refine qm_Rp.go 0 (c' := (146, [.ref 28, .int y, .int x, .int g, .int 1, .int v14, .int 0, .int 2, .float 0, .float 0], [.int v91, .ref 36, .ref 7, .int v89], h)) rfl ?_
                      obtain ⟨v92, q_v92⟩ : ∃ v_, h.2.1 36 v91.toInt.toNat = v_ := ⟨_, rfl⟩
                      refine hp_ial (v := v92) rfl (hH.1 36 (0, 80) rfl) q_v92 (fun ia_92 ib_92 => ?_)
                      refine qm_Rp.go 0 (c' := (147, [.ref 28, .int y, .int x, .int g, .int 1, .int v14, .int 0, .int 2, .float 0, .float 0], [.int v92, .ref 7, .int v89], h)) rfl ?_
                      have etw : c (16 * y.toInt + 4 * x.toInt + 0).toNat = v92.toInt := by rw [← eC, show (16 * y.toInt + 4 * x.toInt + 0).toNat = v91.toInt.toNat by omega]; exact congrArg Int32.toInt q_v92
                      have betw := hc (16 * y.toInt + 4 * x.toInt + 0).toNat
                      rw [etw] at betw
                      have t0 := hb2 ((16 * y.toInt + 4 * x.toInt + 0).toNat / 2) (by omega) (by rw [show 2 * ((16 * y.toInt + 4 * x.toInt + 0).toNat / 2) + 1 = (16 * y.toInt + 4 * x.toInt + 1).toNat by omega, ec1]; omega)
                      rw [show 2 * ((16 * y.toInt + 4 * x.toInt + 0).toNat / 2) = (16 * y.toInt + 4 * x.toInt + 0).toNat by omega, etw] at t0
                      have ab_v92 := hA (16 * y.toInt + 4 * x.toInt + 0).toNat (by omega) (by rw [etw]; omega)
                      rw [etw] at ab_v92
                      have rb_v92 := hR v92.toInt.toNat ab_v92.1
                      have ey_v92 : yb v92.toInt.toNat = y.toInt := by omega
                      have ex_v92 : rb v92.toInt.toNat = x.toInt := by omega
                      have et_v92 : tb v92.toInt.toNat = 0 := by omega
                      have hne : v14.toInt.toNat ≠ v92.toInt.toNat := fun z => by rw [z] at et_v14; omega
                      obtain ⟨v94, q_v94⟩ : ∃ v_, h.2.1 7 v92.toInt.toNat = v_ := ⟨_, rfl⟩
                      refine hp_ial (v := v94) rfl (hH.1 7 (0, 30) rfl) q_v94 (fun ia_94 ib_94 => ?_)
                      refine qm_Rp.go 0 (c' := (148, [.ref 28, .int y, .int x, .int g, .int 1, .int v14, .int 0, .int 2, .float 0, .float 0], [.int v94, .int v89], h)) rfl ?_
                      have ew_v92 : w v92.toInt.toNat = v94.toInt := by rw [← eW]; exact congrArg Int32.toInt q_v94
                      have bw_v92 := hw v92.toInt.toNat
                      rw [ew_v92] at bw_v92
                      refine qm_Rp.go 2 (c' := (153, [.ref 28, .int y, .int x, .int g, .int 1, .int v14, .int 0, .int 2, .float 0, .float 0], [.int (v89 + v94)], h)) rfl ?_
                      obtain ⟨v96, q_v96, e_v96⟩ := hk_add (x := v89) (y := v94) (a := v89.toInt) (b := v94.toInt) rfl rfl (by omega) (by omega)
                      rw [q_v96]
                      refine qm_Rp.go 1 (c' := (155, [.ref 28, .int y, .int x, .int g, .int 1, .int v14, .int 0, .int 2, .int v96, .float 0], [], h)) rfl ?_
                      have ewt : w (c (kV c (16 * y.toInt + 4 * x.toInt + 0)).toNat).toNat + (if mV c tk (16 * y.toInt + 4 * x.toInt + 0) = 2 then w (c (16 * y.toInt + 4 * x.toInt + 0).toNat).toNat else 0) = v96.toInt := by rw [ek, eb, em, if_pos rfl, etw]; omega
                      refine qm_Rp.go 2 (c' := (158, [.ref 28, .int y, .int x, .int g, .int 1, .int v14, .int 0, .int 2, .int v96, .float 0], [.ref 28, .int v96], h)) rfl ?_
                      refine hp_getr rfl (hH.1 28 (9, 8) rfl) rfl hT ?_
                      refine qm_Rp.go 0 (c' := (161, [.ref 28, .int y, .int x, .int g, .int 1, .int v14, .int 0, .int 2, .int v96, .float 0], [.ref 111, .int v96], h)) rfl ?_
                      refine hp_geti (v := l) rfl (hH.1 111 (11, 16) rfl) rfl q_l ?_
                      refine qm_Rp.go 0 (c' := (164, [.ref 28, .int y, .int x, .int g, .int 1, .int v14, .int 0, .int 2, .int v96, .float 0], [.int l, .int v96], h)) rfl ?_
                      refine hp_cle (ix := v96.toInt) (iy := l.toInt) rfl rfl rfl (fun z97 => ?_) (fun z97 => ?_)
                      · refine qm_Rp.go 5 (c' := (176, [.ref 28, .int y, .int x, .int g, .int 1, .int v14, .int 0, .int 2, .int v96, .float 0], [.int (-v96), .int x, .int y, .ref 28], h)) rfl ?_
                        obtain ⟨v98, q_v98, e_v98⟩ := hk_neg (x := v96) (a := v96.toInt) rfl (by omega)
                        rw [q_v98]
                        refine hp_inv (o := 28) (r := []) (as := [.ref 28, .int y, .int x, .int v98]) rfl rfl (hH.1 28 (9, 8) rfl) rfl rfl rfl (px_cbo111 (m := v98) hH hT q_B hB eV hb q_ls hls q_wt hwt ⟨by omega, by omega⟩ ⟨by omega, by omega⟩ ⟨by omega, by omega⟩ q_g0 q_g1 q_g2 (fun r99 e_r99 => ?_))
                        rcases e_r99 with ⟨hr, hbo⟩ | ⟨hr, hbo⟩
                        · obtain rfl : r99 = 1 := hk_eqi.mpr (hr.trans rfl)
                          refine qm_Rp.go 1 (c' := (197, [.ref 28, .int y, .int x, .int g, .int 1, .int v14, .int 0, .int 2, .int v96, .float 0], [], h)) rfl ?_
                          refine px_cl01 hH q_ls hls q_wt hwt eW eH e12 e13 e14 eC eY eI eV hw hi4 hb ⟨by omega, by omega⟩ ⟨by omega, by omega⟩ ⟨by omega, by omega⟩ (fun z => by omega) ⟨by omega, by omega⟩ eb ey_v14 ex_v14 et_v14 ⟨by omega, by omega⟩ etw ey_v92 ex_v92 et_v92 hne (fun I l2 w2 e x28 q5 q6 el2 ew2 x11 x12 x13 x14 x36 x16 x17 x37 => ?_)
                          exact k2 I l2 w2 e x28 q5 q6 ((unl_f ⟨by omega, by omega, by omega, by omega, by omega, by omega⟩ (by rw [el, ek, eb]; omega) (by rw [el, em]; intro z; omega) (by rw [el, ewt]; omega) (okb_t (by rw [el, ewt, ← e_v98]; exact Or.inl hbo))).trans (by rw [el, em])).symm (by rw [el, ec2, etw]; exact el2) (by rw [el, ec2, etw]; exact ew2) (by rw [el, ec2, etw]; exact x11) (by rw [el, ec2, etw]; exact x12) (by rw [el, ec2, etw]; exact x13) (by rw [el, ec2, etw]; exact x14) (by rw [el]; rw [show (16 * y.toInt + 4 * x.toInt + 0 + 1) = 16 * y.toInt + 4 * x.toInt + 1 by omega]; exact x36) (by rw [el, ec2, etw]; exact x16) x17 (by rw [el, ec2, etw]; exact x37)
                        · obtain rfl : r99 = 0 := hk_eqi.mpr (hr.trans rfl)
                          refine qm_Rp.go 6 (c' := (188, [.ref 28, .int y, .int x, .int g, .int 1, .int v14, .int 0, .int 2, .int v96, .float 0], [.int (-v96), .int x, .int y, .ref 28], h)) rfl ?_
                          rw [q_v98]
                          refine hp_inv (o := 28) (r := []) (as := [.ref 28, .int y, .int x, .int v98]) rfl rfl (hH.1 28 (9, 8) rfl) rfl rfl rfl (px_cnw111 (m := v98) hH hT q_B hB eV hb q_ls hls q_wt hwt ⟨by omega, by omega⟩ ⟨by omega, by omega⟩ ⟨by omega, by omega⟩ (fun r100 e_r100 => ?_))
                          rcases e_r100 with ⟨hr, hnw⟩ | ⟨hr, hnw⟩
                          · obtain rfl : r100 = 1 := hk_eqi.mpr (hr.trans rfl)
                            refine qm_Rp.go 1 (c' := (197, [.ref 28, .int y, .int x, .int g, .int 1, .int v14, .int 0, .int 2, .int v96, .float 0], [], h)) rfl ?_
                            refine px_cl01 hH q_ls hls q_wt hwt eW eH e12 e13 e14 eC eY eI eV hw hi4 hb ⟨by omega, by omega⟩ ⟨by omega, by omega⟩ ⟨by omega, by omega⟩ (fun z => by omega) ⟨by omega, by omega⟩ eb ey_v14 ex_v14 et_v14 ⟨by omega, by omega⟩ etw ey_v92 ex_v92 et_v92 hne (fun I l2 w2 e x28 q5 q6 el2 ew2 x11 x12 x13 x14 x36 x16 x17 x37 => ?_)
                            exact k2 I l2 w2 e x28 q5 q6 ((unl_f ⟨by omega, by omega, by omega, by omega, by omega, by omega⟩ (by rw [el, ek, eb]; omega) (by rw [el, em]; intro z; omega) (by rw [el, ewt]; omega) (okb_t (by rw [el, ewt, ← e_v98]; exact Or.inr hnw))).trans (by rw [el, em])).symm (by rw [el, ec2, etw]; exact el2) (by rw [el, ec2, etw]; exact ew2) (by rw [el, ec2, etw]; exact x11) (by rw [el, ec2, etw]; exact x12) (by rw [el, ec2, etw]; exact x13) (by rw [el, ec2, etw]; exact x14) (by rw [el]; rw [show (16 * y.toInt + 4 * x.toInt + 0 + 1) = 16 * y.toInt + 4 * x.toInt + 1 by omega]; exact x36) (by rw [el, ec2, etw]; exact x16) x17 (by rw [el, ec2, etw]; exact x37)
                          · obtain rfl : r100 = 0 := hk_eqi.mpr (hr.trans rfl)
                            refine qm_Rp.go 2 (c' := (196, [.ref 28, .int y, .int x, .int g, .int 1, .int v14, .int 0, .int 2, .int v96, .float 0], [.int (-3)], h)) rfl ?_
                            refine qm_Rp.rt (v := (some (.int (-3)))) (h' := h) rfl ?_
                            exact k0 (-3) (unl_e ⟨by omega, by omega, by omega, by omega, by omega, by omega⟩ (by rw [el, ek, eb]; omega) (by rw [el, em]; intro z; omega) (by rw [el, ewt]; omega) (okb_f (by rw [el, ewt, ← e_v98]; exact fun z => z.elim hbo hnw))).symm (by decide)
                      · refine qm_Rp.go 1 (c' := (169, [.ref 28, .int y, .int x, .int g, .int 1, .int v14, .int 0, .int 2, .int v96, .float 0], [.int (-2)], h)) rfl ?_
                        refine qm_Rp.rt (v := (some (.int (-2)))) (h' := h) rfl ?_
                        exact k0 (-2) (unl_d ⟨by omega, by omega, by omega, by omega, by omega, by omega⟩ (by rw [el, ek, eb]; omega) (by rw [el, em]; intro z; omega) (by rw [el, ewt]; omega)).symm (by decide)
                    · refine qm_Rp.go 1 (c' := (97, [.ref 28, .int y, .int x, .int g, .int 1, .int v14, .int 0, .int 2, .float 0, .float 0], [.ref 28], h)) rfl ?_
                      refine hp_getr rfl (hH.1 28 (9, 8) rfl) rfl (hH.2 28 1 (some 15) rfl) ?_
                      refine qm_Rp.go 1 (c' := (101, [.ref 28, .int y, .int x, .int g, .int 1, .int v14, .int 0, .int 2, .float 0, .float 0], [.int g, .ref 15], h)) rfl ?_
                      refine hp_inv (o := 15) (r := []) (as := [.ref 15, .int g]) rfl rfl (hH.1 15 (15, 8) rfl) rfl rfl rfl ?_
                      refine qm_Rp.go 2 (c' := (2, [.ref 15, .int g], [.ref 15, .int 4], h)) rfl ?_
                      refine hp_getr rfl (hH.1 15 (15, 8) rfl) rfl (hH.2 15 2 (some 17) rfl) ?_
                      refine qm_Rp.go 1 (c' := (6, [.ref 15, .int g], [.int g, .ref 17, .int 4], h)) rfl ?_
                      obtain ⟨v101, q_v101⟩ : ∃ v_, h.2.1 17 g.toInt.toNat = v_ := ⟨_, rfl⟩
                      refine hp_ial (v := v101) rfl (hH.1 17 (0, 4) rfl) q_v101 (fun ia_101 ib_101 => ?_)
                      refine qm_Rp.go 0 (c' := (7, [.ref 15, .int g], [.int v101, .int 4], h)) rfl ?_
                      have eh : hi g.toInt.toNat = v101.toInt := by rw [← eI]; exact congrArg Int32.toInt q_v101
                      have bh := hi4 g.toInt.toNat
                      rw [eh] at bh
                      refine qm_Rp.go 1 (c' := (8, [.ref 15, .int g], [.int (4 - v101)], h)) rfl ?_
                      obtain ⟨v103, q_v103, e_v103⟩ := hk_sub (x := 4) (y := v101) (a := 4) (b := v101.toInt) rfl rfl (by omega) (by omega)
                      rw [q_v103]
                      refine qm_Rp.rt (v := (some (.int v103))) (h' := h) rfl ?_
                      refine qm_Rp.go 1 (c' := (106, [.ref 28, .int y, .int x, .int g, .int 1, .int v14, .int 0, .int 2, .float 0, .float 0], [.int 2, .int v103], h)) rfl ?_
                      refine hp_cge (ix := v103.toInt) (iy := 2) rfl rfl rfl (fun z104 => ?_) (fun z104 => ?_)
                      · refine qm_Rp.go 1 (c' := (112, [.ref 28, .int y, .int x, .int g, .int 1, .int v14, .int 0, .int 2, .float 0, .float 0], [.ref 28], h)) rfl ?_
                        refine hp_getr rfl (hH.1 28 (9, 8) rfl) rfl (hH.2 28 0 (some 6) rfl) ?_
                        refine qm_Rp.go 0 (c' := (115, [.ref 28, .int y, .int x, .int g, .int 1, .int v14, .int 0, .int 2, .float 0, .float 0], [.ref 6], h)) rfl ?_
                        refine hp_getr rfl (hH.1 6 (6, 9) rfl) rfl (hH.2 6 1 (some 7) rfl) ?_
                        refine qm_Rp.go 1 (c' := (120, [.ref 28, .int y, .int x, .int g, .int 1, .int v14, .int 0, .int 2, .float 0, .float 0], [.int v14, .ref 7], h)) rfl ?_
                        obtain ⟨v105, q_v105⟩ : ∃ v_, h.2.1 7 v14.toInt.toNat = v_ := ⟨_, rfl⟩
                        refine hp_ial (v := v105) rfl (hH.1 7 (0, 30) rfl) q_v105 (fun ia_105 ib_105 => ?_)
                        refine qm_Rp.go 0 (c' := (121, [.ref 28, .int y, .int x, .int g, .int 1, .int v14, .int 0, .int 2, .float 0, .float 0], [.int v105], h)) rfl ?_
                        have ew_v14 : w v14.toInt.toNat = v105.toInt := by rw [← eW]; exact congrArg Int32.toInt q_v105
                        have bw_v14 := hw v14.toInt.toNat
                        rw [ew_v14] at bw_v14
                        refine qm_Rp.go 4 (c' := (129, [.ref 28, .int y, .int x, .int g, .int 1, .int v14, .int 0, .int 2, .float 0, .float 0], [.ref 28, .int v105], h)) rfl ?_
                        refine hp_getr rfl (hH.1 28 (9, 8) rfl) rfl (hH.2 28 0 (some 6) rfl) ?_
                        refine qm_Rp.go 0 (c' := (132, [.ref 28, .int y, .int x, .int g, .int 1, .int v14, .int 0, .int 2, .float 0, .float 0], [.ref 6, .int v105], h)) rfl ?_
                        refine hp_getr rfl (hH.1 6 (6, 9) rfl) rfl (hH.2 6 1 (some 7) rfl) ?_
                        refine qm_Rp.go 1 (c' := (136, [.ref 28, .int y, .int x, .int g, .int 1, .int v14, .int 0, .int 2, .float 0, .float 0], [.ref 28, .ref 7, .int v105], h)) rfl ?_
                        refine hp_getr rfl (hH.1 28 (9, 8) rfl) rfl (hH.2 28 3 (some 36) rfl) ?_
                        refine qm_Rp.go 3 (c' := (143, [.ref 28, .int y, .int x, .int g, .int 1, .int v14, .int 0, .int 2, .float 0, .float 0], [.int 0, .int x, .int y, .ref 36, .ref 7, .int v105], h)) rfl ?_
                        refine qm_Rp.call (j := 75) (as := [.int y, .int x, .int 0]) (c' := (146, [.ref 28, .int y, .int x, .int g, .int 1, .int v14, .int 0, .int 2, .float 0, .float 0], [.ref 36, .ref 7, .int v105], h)) rfl rfl ?_
                        refine qm_Rp.go 3 (c' := (3, [.int y, .int x, .int 0], [.int (y * 4)], h)) rfl ?_
                        rw [q_v10]
                        refine qm_Rp.go 2 (c' := (5, [.int y, .int x, .int 0], [.int (v10 + x)], h)) rfl ?_
                        rw [q_v11]
                        refine qm_Rp.go 2 (c' := (7, [.int y, .int x, .int 0], [.int (v11 * 4)], h)) rfl ?_
                        rw [q_v12]
                        refine qm_Rp.go 2 (c' := (9, [.int y, .int x, .int 0], [.int (v12 + 0)], h)) rfl ?_
                        obtain ⟨v107, q_v107, e_v107⟩ := hk_add (x := v12) (y := 0) (a := v12.toInt) (b := 0) rfl rfl (by omega) (by omega)
                        rw [q_v107]
                        refine qm_Rp.rt (v := (some (.int v107))) (h' := h) rfl ?_
                        refine qm_Rp.go 0 (c' := (146, [.ref 28, .int y, .int x, .int g, .int 1, .int v14, .int 0, .int 2, .float 0, .float 0], [.int v107, .ref 36, .ref 7, .int v105], h)) rfl ?_
                        obtain ⟨v108, q_v108⟩ : ∃ v_, h.2.1 36 v107.toInt.toNat = v_ := ⟨_, rfl⟩
                        refine hp_ial (v := v108) rfl (hH.1 36 (0, 80) rfl) q_v108 (fun ia_108 ib_108 => ?_)
                        refine qm_Rp.go 0 (c' := (147, [.ref 28, .int y, .int x, .int g, .int 1, .int v14, .int 0, .int 2, .float 0, .float 0], [.int v108, .ref 7, .int v105], h)) rfl ?_
                        have etw : c (16 * y.toInt + 4 * x.toInt + 0).toNat = v108.toInt := by rw [← eC, show (16 * y.toInt + 4 * x.toInt + 0).toNat = v107.toInt.toNat by omega]; exact congrArg Int32.toInt q_v108
                        have betw := hc (16 * y.toInt + 4 * x.toInt + 0).toNat
                        rw [etw] at betw
                        have t0 := hb2 ((16 * y.toInt + 4 * x.toInt + 0).toNat / 2) (by omega) (by rw [show 2 * ((16 * y.toInt + 4 * x.toInt + 0).toNat / 2) + 1 = (16 * y.toInt + 4 * x.toInt + 1).toNat by omega, ec1]; omega)
                        rw [show 2 * ((16 * y.toInt + 4 * x.toInt + 0).toNat / 2) = (16 * y.toInt + 4 * x.toInt + 0).toNat by omega, etw] at t0
                        have ab_v108 := hA (16 * y.toInt + 4 * x.toInt + 0).toNat (by omega) (by rw [etw]; omega)
                        rw [etw] at ab_v108
                        have rb_v108 := hR v108.toInt.toNat ab_v108.1
                        have ey_v108 : yb v108.toInt.toNat = y.toInt := by omega
                        have ex_v108 : rb v108.toInt.toNat = x.toInt := by omega
                        have et_v108 : tb v108.toInt.toNat = 0 := by omega
                        have hne : v14.toInt.toNat ≠ v108.toInt.toNat := fun z => by rw [z] at et_v14; omega
                        obtain ⟨v110, q_v110⟩ : ∃ v_, h.2.1 7 v108.toInt.toNat = v_ := ⟨_, rfl⟩
                        refine hp_ial (v := v110) rfl (hH.1 7 (0, 30) rfl) q_v110 (fun ia_110 ib_110 => ?_)
                        refine qm_Rp.go 0 (c' := (148, [.ref 28, .int y, .int x, .int g, .int 1, .int v14, .int 0, .int 2, .float 0, .float 0], [.int v110, .int v105], h)) rfl ?_
                        have ew_v108 : w v108.toInt.toNat = v110.toInt := by rw [← eW]; exact congrArg Int32.toInt q_v110
                        have bw_v108 := hw v108.toInt.toNat
                        rw [ew_v108] at bw_v108
                        refine qm_Rp.go 2 (c' := (153, [.ref 28, .int y, .int x, .int g, .int 1, .int v14, .int 0, .int 2, .float 0, .float 0], [.int (v105 + v110)], h)) rfl ?_
                        obtain ⟨v112, q_v112, e_v112⟩ := hk_add (x := v105) (y := v110) (a := v105.toInt) (b := v110.toInt) rfl rfl (by omega) (by omega)
                        rw [q_v112]
                        refine qm_Rp.go 1 (c' := (155, [.ref 28, .int y, .int x, .int g, .int 1, .int v14, .int 0, .int 2, .int v112, .float 0], [], h)) rfl ?_
                        have ewt : w (c (kV c (16 * y.toInt + 4 * x.toInt + 0)).toNat).toNat + (if mV c tk (16 * y.toInt + 4 * x.toInt + 0) = 2 then w (c (16 * y.toInt + 4 * x.toInt + 0).toNat).toNat else 0) = v112.toInt := by rw [ek, eb, em, if_pos rfl, etw]; omega
                        refine qm_Rp.go 2 (c' := (158, [.ref 28, .int y, .int x, .int g, .int 1, .int v14, .int 0, .int 2, .int v112, .float 0], [.ref 28, .int v112], h)) rfl ?_
                        refine hp_getr rfl (hH.1 28 (9, 8) rfl) rfl hT ?_
                        refine qm_Rp.go 0 (c' := (161, [.ref 28, .int y, .int x, .int g, .int 1, .int v14, .int 0, .int 2, .int v112, .float 0], [.ref 111, .int v112], h)) rfl ?_
                        refine hp_geti (v := l) rfl (hH.1 111 (11, 16) rfl) rfl q_l ?_
                        refine qm_Rp.go 0 (c' := (164, [.ref 28, .int y, .int x, .int g, .int 1, .int v14, .int 0, .int 2, .int v112, .float 0], [.int l, .int v112], h)) rfl ?_
                        refine hp_cle (ix := v112.toInt) (iy := l.toInt) rfl rfl rfl (fun z113 => ?_) (fun z113 => ?_)
                        · refine qm_Rp.go 5 (c' := (176, [.ref 28, .int y, .int x, .int g, .int 1, .int v14, .int 0, .int 2, .int v112, .float 0], [.int (-v112), .int x, .int y, .ref 28], h)) rfl ?_
                          obtain ⟨v114, q_v114, e_v114⟩ := hk_neg (x := v112) (a := v112.toInt) rfl (by omega)
                          rw [q_v114]
                          refine hp_inv (o := 28) (r := []) (as := [.ref 28, .int y, .int x, .int v114]) rfl rfl (hH.1 28 (9, 8) rfl) rfl rfl rfl (px_cbo111 (m := v114) hH hT q_B hB eV hb q_ls hls q_wt hwt ⟨by omega, by omega⟩ ⟨by omega, by omega⟩ ⟨by omega, by omega⟩ q_g0 q_g1 q_g2 (fun r115 e_r115 => ?_))
                          rcases e_r115 with ⟨hr, hbo⟩ | ⟨hr, hbo⟩
                          · obtain rfl : r115 = 1 := hk_eqi.mpr (hr.trans rfl)
                            refine qm_Rp.go 1 (c' := (197, [.ref 28, .int y, .int x, .int g, .int 1, .int v14, .int 0, .int 2, .int v112, .float 0], [], h)) rfl ?_
                            refine px_cl01 hH q_ls hls q_wt hwt eW eH e12 e13 e14 eC eY eI eV hw hi4 hb ⟨by omega, by omega⟩ ⟨by omega, by omega⟩ ⟨by omega, by omega⟩ (fun z => by omega) ⟨by omega, by omega⟩ eb ey_v14 ex_v14 et_v14 ⟨by omega, by omega⟩ etw ey_v108 ex_v108 et_v108 hne (fun I l2 w2 e x28 q5 q6 el2 ew2 x11 x12 x13 x14 x36 x16 x17 x37 => ?_)
                            exact k2 I l2 w2 e x28 q5 q6 ((unl_f ⟨by omega, by omega, by omega, by omega, by omega, by omega⟩ (by rw [el, ek, eb]; omega) (by rw [el, em]; intro z; omega) (by rw [el, ewt]; omega) (okb_t (by rw [el, ewt, ← e_v114]; exact Or.inl hbo))).trans (by rw [el, em])).symm (by rw [el, ec2, etw]; exact el2) (by rw [el, ec2, etw]; exact ew2) (by rw [el, ec2, etw]; exact x11) (by rw [el, ec2, etw]; exact x12) (by rw [el, ec2, etw]; exact x13) (by rw [el, ec2, etw]; exact x14) (by rw [el]; rw [show (16 * y.toInt + 4 * x.toInt + 0 + 1) = 16 * y.toInt + 4 * x.toInt + 1 by omega]; exact x36) (by rw [el, ec2, etw]; exact x16) x17 (by rw [el, ec2, etw]; exact x37)
                          · obtain rfl : r115 = 0 := hk_eqi.mpr (hr.trans rfl)
                            refine qm_Rp.go 6 (c' := (188, [.ref 28, .int y, .int x, .int g, .int 1, .int v14, .int 0, .int 2, .int v112, .float 0], [.int (-v112), .int x, .int y, .ref 28], h)) rfl ?_
                            rw [q_v114]
                            refine hp_inv (o := 28) (r := []) (as := [.ref 28, .int y, .int x, .int v114]) rfl rfl (hH.1 28 (9, 8) rfl) rfl rfl rfl (px_cnw111 (m := v114) hH hT q_B hB eV hb q_ls hls q_wt hwt ⟨by omega, by omega⟩ ⟨by omega, by omega⟩ ⟨by omega, by omega⟩ (fun r116 e_r116 => ?_))
                            rcases e_r116 with ⟨hr, hnw⟩ | ⟨hr, hnw⟩
                            · obtain rfl : r116 = 1 := hk_eqi.mpr (hr.trans rfl)
                              refine qm_Rp.go 1 (c' := (197, [.ref 28, .int y, .int x, .int g, .int 1, .int v14, .int 0, .int 2, .int v112, .float 0], [], h)) rfl ?_
                              refine px_cl01 hH q_ls hls q_wt hwt eW eH e12 e13 e14 eC eY eI eV hw hi4 hb ⟨by omega, by omega⟩ ⟨by omega, by omega⟩ ⟨by omega, by omega⟩ (fun z => by omega) ⟨by omega, by omega⟩ eb ey_v14 ex_v14 et_v14 ⟨by omega, by omega⟩ etw ey_v108 ex_v108 et_v108 hne (fun I l2 w2 e x28 q5 q6 el2 ew2 x11 x12 x13 x14 x36 x16 x17 x37 => ?_)
                              exact k2 I l2 w2 e x28 q5 q6 ((unl_f ⟨by omega, by omega, by omega, by omega, by omega, by omega⟩ (by rw [el, ek, eb]; omega) (by rw [el, em]; intro z; omega) (by rw [el, ewt]; omega) (okb_t (by rw [el, ewt, ← e_v114]; exact Or.inr hnw))).trans (by rw [el, em])).symm (by rw [el, ec2, etw]; exact el2) (by rw [el, ec2, etw]; exact ew2) (by rw [el, ec2, etw]; exact x11) (by rw [el, ec2, etw]; exact x12) (by rw [el, ec2, etw]; exact x13) (by rw [el, ec2, etw]; exact x14) (by rw [el]; rw [show (16 * y.toInt + 4 * x.toInt + 0 + 1) = 16 * y.toInt + 4 * x.toInt + 1 by omega]; exact x36) (by rw [el, ec2, etw]; exact x16) x17 (by rw [el, ec2, etw]; exact x37)
                            · obtain rfl : r116 = 0 := hk_eqi.mpr (hr.trans rfl)
                              refine qm_Rp.go 2 (c' := (196, [.ref 28, .int y, .int x, .int g, .int 1, .int v14, .int 0, .int 2, .int v112, .float 0], [.int (-3)], h)) rfl ?_
                              refine qm_Rp.rt (v := (some (.int (-3)))) (h' := h) rfl ?_
                              exact k0 (-3) (unl_e ⟨by omega, by omega, by omega, by omega, by omega, by omega⟩ (by rw [el, ek, eb]; omega) (by rw [el, em]; intro z; omega) (by rw [el, ewt]; omega) (okb_f (by rw [el, ewt, ← e_v114]; exact fun z => z.elim hbo hnw))).symm (by decide)
                        · refine qm_Rp.go 1 (c' := (169, [.ref 28, .int y, .int x, .int g, .int 1, .int v14, .int 0, .int 2, .int v112, .float 0], [.int (-2)], h)) rfl ?_
                          refine qm_Rp.rt (v := (some (.int (-2)))) (h' := h) rfl ?_
                          exact k0 (-2) (unl_d ⟨by omega, by omega, by omega, by omega, by omega, by omega⟩ (by rw [el, ek, eb]; omega) (by rw [el, em]; intro z; omega) (by rw [el, ewt]; omega)).symm (by decide)
                      · refine qm_Rp.go 1 (c' := (110, [.ref 28, .int y, .int x, .int g, .int 1, .int v14, .int 0, .int 2, .float 0, .float 0], [.int (-1)], h)) rfl ?_
                        refine qm_Rp.rt (v := (some (.int (-1)))) (h' := h) rfl ?_
                        exact k0 (-1) (unl_c ⟨by omega, by omega, by omega, by omega, by omega, by omega⟩ (by rw [el, ek, eb]; omega) ⟨by omega, by rw [el, em]; omega⟩).symm (by decide)
              · refine qm_Rp.go 2 (c' := (17, [.ref 28, .int y], [.int 1], h)) rfl ?_
                refine qm_Rp.rt (v := (some (.int 1))) (h' := h) rfl ?_
                refine qm_Rp.go 3 (c' := (13, [.ref 28, .int y], [.int 2], h)) rfl ?_
                refine qm_Rp.rt (v := (some (.int 2))) (h' := h) rfl ?_
                refine qm_Rp.go 0 (c' := (5, [.ref 28, .int y, .int x, .float 0], [.int 2], h)) rfl ?_
                have el : lowV cv y x.toInt = 16 * y.toInt + 4 * x.toInt + 2 := low_1 (cv := cv) (bay := y) (x := x.toInt) q_v7 q_v8 (by omega) (by omega)
                refine qm_Rp.go 2 (c' := (7, [.ref 28, .int y, .int x, .int 2], [.ref 28], h)) rfl ?_
                refine hp_getr rfl (hH.1 28 (9, 8) rfl) rfl (hH.2 28 3 (some 36) rfl) ?_
                refine qm_Rp.go 5 (c' := (15, [.ref 28, .int y, .int x, .int 2], [.int 3, .int x, .int y, .ref 36], h)) rfl ?_
                refine qm_Rp.call (j := 75) (as := [.int y, .int x, .int 3]) (c' := (18, [.ref 28, .int y, .int x, .int 2], [.ref 36], h)) rfl rfl ?_
                refine qm_Rp.go 3 (c' := (3, [.int y, .int x, .int 3], [.int (y * 4)], h)) rfl ?_
                obtain ⟨v117, q_v117, e_v117⟩ := hk_mul (x := y) (y := 4) (a := y.toInt) (b := 4) rfl rfl (by omega) (by omega)
                rw [q_v117]
                refine qm_Rp.go 2 (c' := (5, [.int y, .int x, .int 3], [.int (v117 + x)], h)) rfl ?_
                obtain ⟨v118, q_v118, e_v118⟩ := hk_add (x := v117) (y := x) (a := v117.toInt) (b := x.toInt) rfl rfl (by omega) (by omega)
                rw [q_v118]
                refine qm_Rp.go 2 (c' := (7, [.int y, .int x, .int 3], [.int (v118 * 4)], h)) rfl ?_
                obtain ⟨v119, q_v119, e_v119⟩ := hk_mul (x := v118) (y := 4) (a := v118.toInt) (b := 4) rfl rfl (by omega) (by omega)
                rw [q_v119]
                refine qm_Rp.go 2 (c' := (9, [.int y, .int x, .int 3], [.int (v119 + 3)], h)) rfl ?_
                obtain ⟨v120, q_v120, e_v120⟩ := hk_add (x := v119) (y := 3) (a := v119.toInt) (b := 3) rfl rfl (by omega) (by omega)
                rw [q_v120]
                refine qm_Rp.rt (v := (some (.int v120))) (h' := h) rfl ?_
                refine qm_Rp.go 0 (c' := (18, [.ref 28, .int y, .int x, .int 2], [.int v120, .ref 36], h)) rfl ?_
                obtain ⟨v121, q_v121⟩ : ∃ v_, h.2.1 36 v120.toInt.toNat = v_ := ⟨_, rfl⟩
                refine hp_ial (v := v121) rfl (hH.1 36 (0, 80) rfl) q_v121 (fun ia_121 ib_121 => ?_)
                refine qm_Rp.go 0 (c' := (19, [.ref 28, .int y, .int x, .int 2], [.int v121], h)) rfl ?_
                have ec1 : c (16 * y.toInt + 4 * x.toInt + 3).toNat = v121.toInt := by rw [← eC, show (16 * y.toInt + 4 * x.toInt + 3).toNat = v120.toInt.toNat by omega]; exact congrArg Int32.toInt q_v121
                have bec1 := hc (16 * y.toInt + 4 * x.toInt + 3).toNat
                rw [ec1] at bec1
                refine qm_Rp.go 1 (c' := (20, [.ref 28, .int y, .int x, .int 2], [.int (-1), .int v121], h)) rfl ?_
                refine hp_ceq (ix := v121.toInt) (iy := (-1)) rfl rfl rfl (fun z123 => ?_) (fun z123 => ?_)
                · refine qm_Rp.go 1 (c' := (28, [.ref 28, .int y, .int x, .int 2], [.ref 28], h)) rfl ?_
                  refine hp_getr rfl (hH.1 28 (9, 8) rfl) rfl (hH.2 28 3 (some 36) rfl) ?_
                  refine qm_Rp.go 3 (c' := (34, [.ref 28, .int y, .int x, .int 2], [.int 2, .int x, .int y, .ref 36], h)) rfl ?_
                  refine qm_Rp.call (j := 75) (as := [.int y, .int x, .int 2]) (c' := (37, [.ref 28, .int y, .int x, .int 2], [.ref 36], h)) rfl rfl ?_
                  refine qm_Rp.go 3 (c' := (3, [.int y, .int x, .int 2], [.int (y * 4)], h)) rfl ?_
                  rw [q_v117]
                  refine qm_Rp.go 2 (c' := (5, [.int y, .int x, .int 2], [.int (v117 + x)], h)) rfl ?_
                  rw [q_v118]
                  refine qm_Rp.go 2 (c' := (7, [.int y, .int x, .int 2], [.int (v118 * 4)], h)) rfl ?_
                  rw [q_v119]
                  refine qm_Rp.go 2 (c' := (9, [.int y, .int x, .int 2], [.int (v119 + 2)], h)) rfl ?_
                  obtain ⟨v124, q_v124, e_v124⟩ := hk_add (x := v119) (y := 2) (a := v119.toInt) (b := 2) rfl rfl (by omega) (by omega)
                  rw [q_v124]
                  refine qm_Rp.rt (v := (some (.int v124))) (h' := h) rfl ?_
                  refine qm_Rp.go 0 (c' := (37, [.ref 28, .int y, .int x, .int 2], [.int v124, .ref 36], h)) rfl ?_
                  obtain ⟨v125, q_v125⟩ : ∃ v_, h.2.1 36 v124.toInt.toNat = v_ := ⟨_, rfl⟩
                  refine hp_ial (v := v125) rfl (hH.1 36 (0, 80) rfl) q_v125 (fun ia_125 ib_125 => ?_)
                  refine qm_Rp.go 0 (c' := (38, [.ref 28, .int y, .int x, .int 2], [.int v125], h)) rfl ?_
                  have ec0 : c (16 * y.toInt + 4 * x.toInt + 2).toNat = v125.toInt := by rw [← eC, show (16 * y.toInt + 4 * x.toInt + 2).toNat = v124.toInt.toNat by omega]; exact congrArg Int32.toInt q_v125
                  have bec0 := hc (16 * y.toInt + 4 * x.toInt + 2).toNat
                  rw [ec0] at bec0
                  refine qm_Rp.go 1 (c' := (39, [.ref 28, .int y, .int x, .int 2], [.int (-1), .int v125], h)) rfl ?_
                  refine hp_ceq (ix := v125.toInt) (iy := (-1)) rfl rfl rfl (fun z127 => ?_) (fun z127 => ?_)
                  · refine qm_Rp.go 1 (c' := (47, [.ref 28, .int y, .int x, .int 2], [.int (-1)], h)) rfl ?_
                    refine qm_Rp.rt (v := (some (.int (-1)))) (h' := h) rfl ?_
                    refine qm_Rp.go 0 (c' := (24, [.ref 28, .int y, .int x, .int g, .float 0, .float 0, .float 0, .float 0, .float 0, .float 0], [.int (-1)], h)) rfl ?_
                    have ek : kV c (16 * y.toInt + 4 * x.toInt + 2) = 16 * y.toInt + 4 * x.toInt + 2 := kV_0 (by rw [show 16 * y.toInt + 4 * x.toInt + 2 + 1 = 16 * y.toInt + 4 * x.toInt + 3 by omega, ec1]; omega)
                    have eb := ec0
                    have ec2 : c (16 * y.toInt + 4 * x.toInt + 2 + 1).toNat = v121.toInt := by rw [show 16 * y.toInt + 4 * x.toInt + 2 + 1 = 16 * y.toInt + 4 * x.toInt + 3 by omega]; exact ec1
                    refine qm_Rp.go 5 (c' := (33, [.ref 28, .int y, .int x, .int g, .int (-1), .float 0, .float 0, .float 0, .float 0, .float 0], [.int (-1)], h)) rfl ?_
                    refine qm_Rp.rt (v := (some (.int (-1)))) (h' := h) rfl ?_
                    exact k0 (-1) (unl_b ⟨by omega, by omega, by omega, by omega, by omega, by omega⟩ (by rw [el, ek, eb]; omega)).symm (by decide)
                  · refine qm_Rp.go 2 (c' := (47, [.ref 28, .int y, .int x, .int 2], [.int 2], h)) rfl ?_
                    refine qm_Rp.rt (v := (some (.int 2))) (h' := h) rfl ?_
                    refine qm_Rp.go 0 (c' := (24, [.ref 28, .int y, .int x, .int g, .float 0, .float 0, .float 0, .float 0, .float 0, .float 0], [.int 2], h)) rfl ?_
                    have ek : kV c (16 * y.toInt + 4 * x.toInt + 2) = 16 * y.toInt + 4 * x.toInt + 2 := kV_0 (by rw [show 16 * y.toInt + 4 * x.toInt + 2 + 1 = 16 * y.toInt + 4 * x.toInt + 3 by omega, ec1]; omega)
                    have eb := ec0
                    have ec2 : c (16 * y.toInt + 4 * x.toInt + 2 + 1).toNat = v121.toInt := by rw [show 16 * y.toInt + 4 * x.toInt + 2 + 1 = 16 * y.toInt + 4 * x.toInt + 3 by omega]; exact ec1
                    have ab_v125 := hA (16 * y.toInt + 4 * x.toInt + 2).toNat (by omega) (by rw [eb]; omega)
                    rw [eb] at ab_v125
                    have rb_v125 := hR v125.toInt.toNat ab_v125.1
                    have ey_v125 : yb v125.toInt.toNat = y.toInt := by omega
                    have ex_v125 : rb v125.toInt.toNat = x.toInt := by omega
                    have et_v125 : tb v125.toInt.toNat = 2 := by omega
                    refine qm_Rp.go 5 (c' := (35, [.ref 28, .int y, .int x, .int g, .int 2, .float 0, .float 0, .float 0, .float 0, .float 0], [.ref 28], h)) rfl ?_
                    refine hp_getr rfl (hH.1 28 (9, 8) rfl) rfl (hH.2 28 3 (some 36) rfl) ?_
                    refine qm_Rp.go 3 (c' := (42, [.ref 28, .int y, .int x, .int g, .int 2, .float 0, .float 0, .float 0, .float 0, .float 0], [.int 2, .int x, .int y, .ref 36], h)) rfl ?_
                    refine qm_Rp.call (j := 75) (as := [.int y, .int x, .int 2]) (c' := (45, [.ref 28, .int y, .int x, .int g, .int 2, .float 0, .float 0, .float 0, .float 0, .float 0], [.ref 36], h)) rfl rfl ?_
                    refine qm_Rp.go 3 (c' := (3, [.int y, .int x, .int 2], [.int (y * 4)], h)) rfl ?_
                    rw [q_v117]
                    refine qm_Rp.go 2 (c' := (5, [.int y, .int x, .int 2], [.int (v117 + x)], h)) rfl ?_
                    rw [q_v118]
                    refine qm_Rp.go 2 (c' := (7, [.int y, .int x, .int 2], [.int (v118 * 4)], h)) rfl ?_
                    rw [q_v119]
                    refine qm_Rp.go 2 (c' := (9, [.int y, .int x, .int 2], [.int (v119 + 2)], h)) rfl ?_
                    rw [q_v124]
                    refine qm_Rp.rt (v := (some (.int v124))) (h' := h) rfl ?_
                    refine qm_Rp.go 0 (c' := (45, [.ref 28, .int y, .int x, .int g, .int 2, .float 0, .float 0, .float 0, .float 0, .float 0], [.int v124, .ref 36], h)) rfl ?_
                    refine hp_ial (v := v125) rfl (hH.1 36 (0, 80) rfl) q_v125 (fun ia_127 ib_127 => ?_)
                    refine qm_Rp.go 2 (c' := (49, [.ref 28, .int y, .int x, .int g, .int 2, .int v125, .float 0, .float 0, .float 0, .float 0], [.ref 28], h)) rfl ?_
                    refine hp_getr rfl (hH.1 28 (9, 8) rfl) rfl (hH.2 28 0 (some 6) rfl) ?_
                    refine qm_Rp.go 0 (c' := (52, [.ref 28, .int y, .int x, .int g, .int 2, .int v125, .float 0, .float 0, .float 0, .float 0], [.ref 6], h)) rfl ?_
                    refine hp_getr rfl (hH.1 6 (6, 9) rfl) rfl (hH.2 6 4 (some 10) rfl) ?_
                    refine qm_Rp.go 1 (c' := (57, [.ref 28, .int y, .int x, .int g, .int 2, .int v125, .float 0, .float 0, .float 0, .float 0], [.int v125, .ref 10], h)) rfl ?_
                    obtain ⟨v129, q_v129⟩ : ∃ v_, h.2.1 10 v125.toInt.toNat = v_ := ⟨_, rfl⟩
                    refine hp_bal (v := v129) rfl (hH.1 10 (2, 30) rfl) q_v129 (fun ia_129 ib_129 => ?_)
                    refine qm_Rp.go 0 (c' := (58, [.ref 28, .int y, .int x, .int g, .int 2, .int v125, .float 0, .float 0, .float 0, .float 0], [.int v129], h)) rfl ?_
                    have est : tk v125.toInt.toNat = v129.toInt := by rw [← eK]; exact congrArg Int32.toInt q_v129
                    refine hp_zeq (ix := v129.toInt) rfl rfl (fun z131 => ?_) (fun z131 => ?_)
                    · refine qm_Rp.go 1 (c' := (80, [.ref 28, .int y, .int x, .int g, .int 2, .int v125, .float 0, .float 0, .float 0, .float 0], [.int 2], h)) rfl ?_
                      have em : mV c tk (16 * y.toInt + 4 * x.toInt + 2) = 1 := mV_1a (by rw [ec2]; omega)
                      refine qm_Rp.go 9 (c' := (93, [.ref 28, .int y, .int x, .int g, .int 2, .int v125, .int 2, .int 1, .float 0, .float 0], [.int (-1), .int g], h)) rfl ?_
                      refine hp_ceq (ix := g.toInt) (iy := (-1)) rfl rfl rfl (fun z132 => ?_) (fun z132 => ?_)
                      · refine qm_Rp.go 1 (c' := (112, [.ref 28, .int y, .int x, .int g, .int 2, .int v125, .int 2, .int 1, .float 0, .float 0], [.ref 28], h)) rfl ?_
                        refine hp_getr rfl (hH.1 28 (9, 8) rfl) rfl (hH.2 28 0 (some 6) rfl) ?_
                        refine qm_Rp.go 0 (c' := (115, [.ref 28, .int y, .int x, .int g, .int 2, .int v125, .int 2, .int 1, .float 0, .float 0], [.ref 6], h)) rfl ?_
                        refine hp_getr rfl (hH.1 6 (6, 9) rfl) rfl (hH.2 6 1 (some 7) rfl) ?_
                        refine qm_Rp.go 1 (c' := (120, [.ref 28, .int y, .int x, .int g, .int 2, .int v125, .int 2, .int 1, .float 0, .float 0], [.int v125, .ref 7], h)) rfl ?_
                        obtain ⟨v133, q_v133⟩ : ∃ v_, h.2.1 7 v125.toInt.toNat = v_ := ⟨_, rfl⟩
                        refine hp_ial (v := v133) rfl (hH.1 7 (0, 30) rfl) q_v133 (fun ia_133 ib_133 => ?_)
                        refine qm_Rp.go 0 (c' := (121, [.ref 28, .int y, .int x, .int g, .int 2, .int v125, .int 2, .int 1, .float 0, .float 0], [.int v133], h)) rfl ?_
                        have ew_v125 : w v125.toInt.toNat = v133.toInt := by rw [← eW]; exact congrArg Int32.toInt q_v133
                        have bw_v125 := hw v125.toInt.toNat
                        rw [ew_v125] at bw_v125
                        refine qm_Rp.go 5 (c' := (153, [.ref 28, .int y, .int x, .int g, .int 2, .int v125, .int 2, .int 1, .float 0, .float 0], [.int (v133 + 0)], h)) rfl ?_
                        obtain ⟨v135, q_v135, e_v135⟩ := hk_add (x := v133) (y := 0) (a := v133.toInt) (b := 0) rfl rfl (by omega) (by omega)
                        rw [q_v135]
                        refine qm_Rp.go 1 (c' := (155, [.ref 28, .int y, .int x, .int g, .int 2, .int v125, .int 2, .int 1, .int v135, .float 0], [], h)) rfl ?_
                        have ewt : w (c (kV c (16 * y.toInt + 4 * x.toInt + 2)).toNat).toNat + (if mV c tk (16 * y.toInt + 4 * x.toInt + 2) = 2 then w (c (16 * y.toInt + 4 * x.toInt + 2).toNat).toNat else 0) = v135.toInt := by rw [ek, eb, em, if_neg (by decide)]; omega
                        refine qm_Rp.go 2 (c' := (158, [.ref 28, .int y, .int x, .int g, .int 2, .int v125, .int 2, .int 1, .int v135, .float 0], [.ref 28, .int v135], h)) rfl ?_
                        refine hp_getr rfl (hH.1 28 (9, 8) rfl) rfl hT ?_
                        refine qm_Rp.go 0 (c' := (161, [.ref 28, .int y, .int x, .int g, .int 2, .int v125, .int 2, .int 1, .int v135, .float 0], [.ref 111, .int v135], h)) rfl ?_
                        refine hp_geti (v := l) rfl (hH.1 111 (11, 16) rfl) rfl q_l ?_
                        refine qm_Rp.go 0 (c' := (164, [.ref 28, .int y, .int x, .int g, .int 2, .int v125, .int 2, .int 1, .int v135, .float 0], [.int l, .int v135], h)) rfl ?_
                        refine hp_cle (ix := v135.toInt) (iy := l.toInt) rfl rfl rfl (fun z136 => ?_) (fun z136 => ?_)
                        · refine qm_Rp.go 5 (c' := (176, [.ref 28, .int y, .int x, .int g, .int 2, .int v125, .int 2, .int 1, .int v135, .float 0], [.int (-v135), .int x, .int y, .ref 28], h)) rfl ?_
                          obtain ⟨v137, q_v137, e_v137⟩ := hk_neg (x := v135) (a := v135.toInt) rfl (by omega)
                          rw [q_v137]
                          refine hp_inv (o := 28) (r := []) (as := [.ref 28, .int y, .int x, .int v137]) rfl rfl (hH.1 28 (9, 8) rfl) rfl rfl rfl (px_cbo111 (m := v137) hH hT q_B hB eV hb q_ls hls q_wt hwt ⟨by omega, by omega⟩ ⟨by omega, by omega⟩ ⟨by omega, by omega⟩ q_g0 q_g1 q_g2 (fun r138 e_r138 => ?_))
                          rcases e_r138 with ⟨hr, hbo⟩ | ⟨hr, hbo⟩
                          · obtain rfl : r138 = 1 := hk_eqi.mpr (hr.trans rfl)
                            refine qm_Rp.go 1 (c' := (197, [.ref 28, .int y, .int x, .int g, .int 2, .int v125, .int 2, .int 1, .int v135, .float 0], [], h)) rfl ?_
                            refine px_cl22 hH q_ls hls q_wt hwt eW eH e12 e13 e14 eC eY eI eV hw hi4 hb ⟨by omega, by omega⟩ ⟨by omega, by omega⟩ ⟨by omega, by omega⟩ (fun z => by omega) ⟨by omega, by omega⟩ eb ey_v125 ex_v125 et_v125 (fun I l2 w2 e x28 q5 q6 el2 ew2 x11 x12 x13 x14 x36 x16 x17 x37 => ?_)
                            exact k1 I l2 w2 e x28 q5 q6 ((unl_f ⟨by omega, by omega, by omega, by omega, by omega, by omega⟩ (by rw [el, ek, eb]; omega) (by rw [el, em]; intro z; omega) (by rw [el, ewt]; omega) (okb_t (by rw [el, ewt, ← e_v137]; exact Or.inl hbo))).trans (by rw [el, em])).symm (by rw [el, ek, eb]; exact el2) (by rw [el, ek, eb]; exact ew2) (by rw [el, ek, eb]; exact x11) (by rw [el, ek, eb]; exact x12) (by rw [el, ek, eb]; exact x13) (by rw [el, ek, eb]; exact x14) (by rw [el, ek]; exact x36) (by rw [el, ek, eb]; exact x16) x17 (by rw [el, ek, eb]; exact x37)
                          · obtain rfl : r138 = 0 := hk_eqi.mpr (hr.trans rfl)
                            refine qm_Rp.go 6 (c' := (188, [.ref 28, .int y, .int x, .int g, .int 2, .int v125, .int 2, .int 1, .int v135, .float 0], [.int (-v135), .int x, .int y, .ref 28], h)) rfl ?_
                            rw [q_v137]
                            refine hp_inv (o := 28) (r := []) (as := [.ref 28, .int y, .int x, .int v137]) rfl rfl (hH.1 28 (9, 8) rfl) rfl rfl rfl (px_cnw111 (m := v137) hH hT q_B hB eV hb q_ls hls q_wt hwt ⟨by omega, by omega⟩ ⟨by omega, by omega⟩ ⟨by omega, by omega⟩ (fun r139 e_r139 => ?_))
                            rcases e_r139 with ⟨hr, hnw⟩ | ⟨hr, hnw⟩
                            · obtain rfl : r139 = 1 := hk_eqi.mpr (hr.trans rfl)
                              refine qm_Rp.go 1 (c' := (197, [.ref 28, .int y, .int x, .int g, .int 2, .int v125, .int 2, .int 1, .int v135, .float 0], [], h)) rfl ?_
                              refine px_cl22 hH q_ls hls q_wt hwt eW eH e12 e13 e14 eC eY eI eV hw hi4 hb ⟨by omega, by omega⟩ ⟨by omega, by omega⟩ ⟨by omega, by omega⟩ (fun z => by omega) ⟨by omega, by omega⟩ eb ey_v125 ex_v125 et_v125 (fun I l2 w2 e x28 q5 q6 el2 ew2 x11 x12 x13 x14 x36 x16 x17 x37 => ?_)
                              exact k1 I l2 w2 e x28 q5 q6 ((unl_f ⟨by omega, by omega, by omega, by omega, by omega, by omega⟩ (by rw [el, ek, eb]; omega) (by rw [el, em]; intro z; omega) (by rw [el, ewt]; omega) (okb_t (by rw [el, ewt, ← e_v137]; exact Or.inr hnw))).trans (by rw [el, em])).symm (by rw [el, ek, eb]; exact el2) (by rw [el, ek, eb]; exact ew2) (by rw [el, ek, eb]; exact x11) (by rw [el, ek, eb]; exact x12) (by rw [el, ek, eb]; exact x13) (by rw [el, ek, eb]; exact x14) (by rw [el, ek]; exact x36) (by rw [el, ek, eb]; exact x16) x17 (by rw [el, ek, eb]; exact x37)
                            · obtain rfl : r139 = 0 := hk_eqi.mpr (hr.trans rfl)
                              refine qm_Rp.go 2 (c' := (196, [.ref 28, .int y, .int x, .int g, .int 2, .int v125, .int 2, .int 1, .int v135, .float 0], [.int (-3)], h)) rfl ?_
                              refine qm_Rp.rt (v := (some (.int (-3)))) (h' := h) rfl ?_
                              exact k0 (-3) (unl_e ⟨by omega, by omega, by omega, by omega, by omega, by omega⟩ (by rw [el, ek, eb]; omega) (by rw [el, em]; intro z; omega) (by rw [el, ewt]; omega) (okb_f (by rw [el, ewt, ← e_v137]; exact fun z => z.elim hbo hnw))).symm (by decide)
                        · refine qm_Rp.go 1 (c' := (169, [.ref 28, .int y, .int x, .int g, .int 2, .int v125, .int 2, .int 1, .int v135, .float 0], [.int (-2)], h)) rfl ?_
                          refine qm_Rp.rt (v := (some (.int (-2)))) (h' := h) rfl ?_
                          exact k0 (-2) (unl_d ⟨by omega, by omega, by omega, by omega, by omega, by omega⟩ (by rw [el, ek, eb]; omega) (by rw [el, em]; intro z; omega) (by rw [el, ewt]; omega)).symm (by decide)
                      · refine qm_Rp.go 1 (c' := (97, [.ref 28, .int y, .int x, .int g, .int 2, .int v125, .int 2, .int 1, .float 0, .float 0], [.ref 28], h)) rfl ?_
                        refine hp_getr rfl (hH.1 28 (9, 8) rfl) rfl (hH.2 28 1 (some 15) rfl) ?_
                        refine qm_Rp.go 1 (c' := (101, [.ref 28, .int y, .int x, .int g, .int 2, .int v125, .int 2, .int 1, .float 0, .float 0], [.int g, .ref 15], h)) rfl ?_
                        refine hp_inv (o := 15) (r := []) (as := [.ref 15, .int g]) rfl rfl (hH.1 15 (15, 8) rfl) rfl rfl rfl ?_
                        refine qm_Rp.go 2 (c' := (2, [.ref 15, .int g], [.ref 15, .int 4], h)) rfl ?_
                        refine hp_getr rfl (hH.1 15 (15, 8) rfl) rfl (hH.2 15 2 (some 17) rfl) ?_
                        refine qm_Rp.go 1 (c' := (6, [.ref 15, .int g], [.int g, .ref 17, .int 4], h)) rfl ?_
                        obtain ⟨v140, q_v140⟩ : ∃ v_, h.2.1 17 g.toInt.toNat = v_ := ⟨_, rfl⟩
                        refine hp_ial (v := v140) rfl (hH.1 17 (0, 4) rfl) q_v140 (fun ia_140 ib_140 => ?_)
                        refine qm_Rp.go 0 (c' := (7, [.ref 15, .int g], [.int v140, .int 4], h)) rfl ?_
                        have eh : hi g.toInt.toNat = v140.toInt := by rw [← eI]; exact congrArg Int32.toInt q_v140
                        have bh := hi4 g.toInt.toNat
                        rw [eh] at bh
                        refine qm_Rp.go 1 (c' := (8, [.ref 15, .int g], [.int (4 - v140)], h)) rfl ?_
                        obtain ⟨v142, q_v142, e_v142⟩ := hk_sub (x := 4) (y := v140) (a := 4) (b := v140.toInt) rfl rfl (by omega) (by omega)
                        rw [q_v142]
                        refine qm_Rp.rt (v := (some (.int v142))) (h' := h) rfl ?_
                        refine qm_Rp.go 1 (c' := (106, [.ref 28, .int y, .int x, .int g, .int 2, .int v125, .int 2, .int 1, .float 0, .float 0], [.int 1, .int v142], h)) rfl ?_
                        refine hp_cge (ix := v142.toInt) (iy := 1) rfl rfl rfl (fun z143 => ?_) (fun z143 => ?_)
                        · refine qm_Rp.go 1 (c' := (112, [.ref 28, .int y, .int x, .int g, .int 2, .int v125, .int 2, .int 1, .float 0, .float 0], [.ref 28], h)) rfl ?_
                          refine hp_getr rfl (hH.1 28 (9, 8) rfl) rfl (hH.2 28 0 (some 6) rfl) ?_
                          refine qm_Rp.go 0 (c' := (115, [.ref 28, .int y, .int x, .int g, .int 2, .int v125, .int 2, .int 1, .float 0, .float 0], [.ref 6], h)) rfl ?_
                          refine hp_getr rfl (hH.1 6 (6, 9) rfl) rfl (hH.2 6 1 (some 7) rfl) ?_
                          refine qm_Rp.go 1 (c' := (120, [.ref 28, .int y, .int x, .int g, .int 2, .int v125, .int 2, .int 1, .float 0, .float 0], [.int v125, .ref 7], h)) rfl ?_
                          obtain ⟨v144, q_v144⟩ : ∃ v_, h.2.1 7 v125.toInt.toNat = v_ := ⟨_, rfl⟩
                          refine hp_ial (v := v144) rfl (hH.1 7 (0, 30) rfl) q_v144 (fun ia_144 ib_144 => ?_)
                          refine qm_Rp.go 0 (c' := (121, [.ref 28, .int y, .int x, .int g, .int 2, .int v125, .int 2, .int 1, .float 0, .float 0], [.int v144], h)) rfl ?_
                          have ew_v125 : w v125.toInt.toNat = v144.toInt := by rw [← eW]; exact congrArg Int32.toInt q_v144
                          have bw_v125 := hw v125.toInt.toNat
                          rw [ew_v125] at bw_v125
                          refine qm_Rp.go 5 (c' := (153, [.ref 28, .int y, .int x, .int g, .int 2, .int v125, .int 2, .int 1, .float 0, .float 0], [.int (v144 + 0)], h)) rfl ?_
                          obtain ⟨v146, q_v146, e_v146⟩ := hk_add (x := v144) (y := 0) (a := v144.toInt) (b := 0) rfl rfl (by omega) (by omega)
                          rw [q_v146]
                          refine qm_Rp.go 1 (c' := (155, [.ref 28, .int y, .int x, .int g, .int 2, .int v125, .int 2, .int 1, .int v146, .float 0], [], h)) rfl ?_
                          have ewt : w (c (kV c (16 * y.toInt + 4 * x.toInt + 2)).toNat).toNat + (if mV c tk (16 * y.toInt + 4 * x.toInt + 2) = 2 then w (c (16 * y.toInt + 4 * x.toInt + 2).toNat).toNat else 0) = v146.toInt := by rw [ek, eb, em, if_neg (by decide)]; omega
                          refine qm_Rp.go 2 (c' := (158, [.ref 28, .int y, .int x, .int g, .int 2, .int v125, .int 2, .int 1, .int v146, .float 0], [.ref 28, .int v146], h)) rfl ?_
                          refine hp_getr rfl (hH.1 28 (9, 8) rfl) rfl hT ?_
                          refine qm_Rp.go 0 (c' := (161, [.ref 28, .int y, .int x, .int g, .int 2, .int v125, .int 2, .int 1, .int v146, .float 0], [.ref 111, .int v146], h)) rfl ?_
                          refine hp_geti (v := l) rfl (hH.1 111 (11, 16) rfl) rfl q_l ?_
                          refine qm_Rp.go 0 (c' := (164, [.ref 28, .int y, .int x, .int g, .int 2, .int v125, .int 2, .int 1, .int v146, .float 0], [.int l, .int v146], h)) rfl ?_
                          refine hp_cle (ix := v146.toInt) (iy := l.toInt) rfl rfl rfl (fun z147 => ?_) (fun z147 => ?_)
                          · refine qm_Rp.go 5 (c' := (176, [.ref 28, .int y, .int x, .int g, .int 2, .int v125, .int 2, .int 1, .int v146, .float 0], [.int (-v146), .int x, .int y, .ref 28], h)) rfl ?_
                            obtain ⟨v148, q_v148, e_v148⟩ := hk_neg (x := v146) (a := v146.toInt) rfl (by omega)
                            rw [q_v148]
                            refine hp_inv (o := 28) (r := []) (as := [.ref 28, .int y, .int x, .int v148]) rfl rfl (hH.1 28 (9, 8) rfl) rfl rfl rfl (px_cbo111 (m := v148) hH hT q_B hB eV hb q_ls hls q_wt hwt ⟨by omega, by omega⟩ ⟨by omega, by omega⟩ ⟨by omega, by omega⟩ q_g0 q_g1 q_g2 (fun r149 e_r149 => ?_))
                            rcases e_r149 with ⟨hr, hbo⟩ | ⟨hr, hbo⟩
                            · obtain rfl : r149 = 1 := hk_eqi.mpr (hr.trans rfl)
                              refine qm_Rp.go 1 (c' := (197, [.ref 28, .int y, .int x, .int g, .int 2, .int v125, .int 2, .int 1, .int v146, .float 0], [], h)) rfl ?_
                              refine px_cl22 hH q_ls hls q_wt hwt eW eH e12 e13 e14 eC eY eI eV hw hi4 hb ⟨by omega, by omega⟩ ⟨by omega, by omega⟩ ⟨by omega, by omega⟩ (fun z => by omega) ⟨by omega, by omega⟩ eb ey_v125 ex_v125 et_v125 (fun I l2 w2 e x28 q5 q6 el2 ew2 x11 x12 x13 x14 x36 x16 x17 x37 => ?_)
                              exact k1 I l2 w2 e x28 q5 q6 ((unl_f ⟨by omega, by omega, by omega, by omega, by omega, by omega⟩ (by rw [el, ek, eb]; omega) (by rw [el, em]; intro z; omega) (by rw [el, ewt]; omega) (okb_t (by rw [el, ewt, ← e_v148]; exact Or.inl hbo))).trans (by rw [el, em])).symm (by rw [el, ek, eb]; exact el2) (by rw [el, ek, eb]; exact ew2) (by rw [el, ek, eb]; exact x11) (by rw [el, ek, eb]; exact x12) (by rw [el, ek, eb]; exact x13) (by rw [el, ek, eb]; exact x14) (by rw [el, ek]; exact x36) (by rw [el, ek, eb]; exact x16) x17 (by rw [el, ek, eb]; exact x37)
                            · obtain rfl : r149 = 0 := hk_eqi.mpr (hr.trans rfl)
                              refine qm_Rp.go 6 (c' := (188, [.ref 28, .int y, .int x, .int g, .int 2, .int v125, .int 2, .int 1, .int v146, .float 0], [.int (-v146), .int x, .int y, .ref 28], h)) rfl ?_
                              rw [q_v148]
                              refine hp_inv (o := 28) (r := []) (as := [.ref 28, .int y, .int x, .int v148]) rfl rfl (hH.1 28 (9, 8) rfl) rfl rfl rfl (px_cnw111 (m := v148) hH hT q_B hB eV hb q_ls hls q_wt hwt ⟨by omega, by omega⟩ ⟨by omega, by omega⟩ ⟨by omega, by omega⟩ (fun r150 e_r150 => ?_))
                              rcases e_r150 with ⟨hr, hnw⟩ | ⟨hr, hnw⟩
                              · obtain rfl : r150 = 1 := hk_eqi.mpr (hr.trans rfl)
                                refine qm_Rp.go 1 (c' := (197, [.ref 28, .int y, .int x, .int g, .int 2, .int v125, .int 2, .int 1, .int v146, .float 0], [], h)) rfl ?_
                                refine px_cl22 hH q_ls hls q_wt hwt eW eH e12 e13 e14 eC eY eI eV hw hi4 hb ⟨by omega, by omega⟩ ⟨by omega, by omega⟩ ⟨by omega, by omega⟩ (fun z => by omega) ⟨by omega, by omega⟩ eb ey_v125 ex_v125 et_v125 (fun I l2 w2 e x28 q5 q6 el2 ew2 x11 x12 x13 x14 x36 x16 x17 x37 => ?_)
                                exact k1 I l2 w2 e x28 q5 q6 ((unl_f ⟨by omega, by omega, by omega, by omega, by omega, by omega⟩ (by rw [el, ek, eb]; omega) (by rw [el, em]; intro z; omega) (by rw [el, ewt]; omega) (okb_t (by rw [el, ewt, ← e_v148]; exact Or.inr hnw))).trans (by rw [el, em])).symm (by rw [el, ek, eb]; exact el2) (by rw [el, ek, eb]; exact ew2) (by rw [el, ek, eb]; exact x11) (by rw [el, ek, eb]; exact x12) (by rw [el, ek, eb]; exact x13) (by rw [el, ek, eb]; exact x14) (by rw [el, ek]; exact x36) (by rw [el, ek, eb]; exact x16) x17 (by rw [el, ek, eb]; exact x37)
                              · obtain rfl : r150 = 0 := hk_eqi.mpr (hr.trans rfl)
                                refine qm_Rp.go 2 (c' := (196, [.ref 28, .int y, .int x, .int g, .int 2, .int v125, .int 2, .int 1, .int v146, .float 0], [.int (-3)], h)) rfl ?_
                                refine qm_Rp.rt (v := (some (.int (-3)))) (h' := h) rfl ?_
                                exact k0 (-3) (unl_e ⟨by omega, by omega, by omega, by omega, by omega, by omega⟩ (by rw [el, ek, eb]; omega) (by rw [el, em]; intro z; omega) (by rw [el, ewt]; omega) (okb_f (by rw [el, ewt, ← e_v148]; exact fun z => z.elim hbo hnw))).symm (by decide)
                          · refine qm_Rp.go 1 (c' := (169, [.ref 28, .int y, .int x, .int g, .int 2, .int v125, .int 2, .int 1, .int v146, .float 0], [.int (-2)], h)) rfl ?_
                            refine qm_Rp.rt (v := (some (.int (-2)))) (h' := h) rfl ?_
                            exact k0 (-2) (unl_d ⟨by omega, by omega, by omega, by omega, by omega, by omega⟩ (by rw [el, ek, eb]; omega) (by rw [el, em]; intro z; omega) (by rw [el, ewt]; omega)).symm (by decide)
                        · refine qm_Rp.go 1 (c' := (110, [.ref 28, .int y, .int x, .int g, .int 2, .int v125, .int 2, .int 1, .float 0, .float 0], [.int (-1)], h)) rfl ?_
                          refine qm_Rp.rt (v := (some (.int (-1)))) (h' := h) rfl ?_
                          exact k0 (-1) (unl_c ⟨by omega, by omega, by omega, by omega, by omega, by omega⟩ (by rw [el, ek, eb]; omega) ⟨by omega, by rw [el, em]; omega⟩).symm (by decide)
                    · refine qm_Rp.go 3 (c' := (65, [.ref 28, .int y, .int x, .int g, .int 2, .int v125, .float 0, .float 0, .float 0, .float 0], [.int y, .ref 28, .int 2], h)) rfl ?_
                      refine hp_inv (o := 28) (r := [.int 2]) (as := [.ref 28, .int y]) rfl rfl (hH.1 28 (9, 8) rfl) rfl rfl rfl ?_
                      refine qm_Rp.go 2 (c' := (2, [.ref 28, .int y], [.int y, .ref 28], h)) rfl ?_
                      refine hp_inv (o := 28) (r := []) (as := [.ref 28, .int y]) rfl rfl (hH.1 28 (9, 8) rfl) rfl rfl rfl ?_
                      refine qm_Rp.go 1 (c' := (1, [.ref 28, .int y], [.ref 28], h)) rfl ?_
                      refine hp_geti (v := cv) rfl (hH.1 28 (9, 8) rfl) rfl q_cv ?_
                      refine qm_Rp.go 2 (c' := (6, [.ref 28, .int y], [.int (cv >>> (y &&& 31))], h)) rfl ?_
                      rw [q_v7]
                      refine qm_Rp.go 2 (c' := (8, [.ref 28, .int y], [.int (v7 &&& 1)], h)) rfl ?_
                      rw [q_v8]
                      refine qm_Rp.go 1 (c' := (9, [.ref 28, .int y], [.int 1, .int v8], h)) rfl ?_
                      refine hp_cne (ix := v8.toInt) (iy := 1) rfl rfl rfl (fun z151 => by exfalso; omega) (fun z151 => ?_)
                      refine qm_Rp.go 2 (c' := (17, [.ref 28, .int y], [.int 1], h)) rfl ?_
                      refine qm_Rp.rt (v := (some (.int 1))) (h' := h) rfl ?_
                      refine qm_Rp.go 3 (c' := (13, [.ref 28, .int y], [.int 2], h)) rfl ?_
                      refine qm_Rp.rt (v := (some (.int 2))) (h' := h) rfl ?_
                      refine qm_Rp.go 2 (c' := (80, [.ref 28, .int y, .int x, .int g, .int 2, .int v125, .float 0, .float 0, .float 0, .float 0], [.int 2], h)) rfl ?_
                      have em : mV c tk (16 * y.toInt + 4 * x.toInt + 2) = 1 := mV_1a (by rw [ec2]; omega)
                      refine qm_Rp.go 9 (c' := (93, [.ref 28, .int y, .int x, .int g, .int 2, .int v125, .int 2, .int 1, .float 0, .float 0], [.int (-1), .int g], h)) rfl ?_
                      refine hp_ceq (ix := g.toInt) (iy := (-1)) rfl rfl rfl (fun z152 => ?_) (fun z152 => ?_)
                      · refine qm_Rp.go 1 (c' := (112, [.ref 28, .int y, .int x, .int g, .int 2, .int v125, .int 2, .int 1, .float 0, .float 0], [.ref 28], h)) rfl ?_
                        refine hp_getr rfl (hH.1 28 (9, 8) rfl) rfl (hH.2 28 0 (some 6) rfl) ?_
                        refine qm_Rp.go 0 (c' := (115, [.ref 28, .int y, .int x, .int g, .int 2, .int v125, .int 2, .int 1, .float 0, .float 0], [.ref 6], h)) rfl ?_
                        refine hp_getr rfl (hH.1 6 (6, 9) rfl) rfl (hH.2 6 1 (some 7) rfl) ?_
                        refine qm_Rp.go 1 (c' := (120, [.ref 28, .int y, .int x, .int g, .int 2, .int v125, .int 2, .int 1, .float 0, .float 0], [.int v125, .ref 7], h)) rfl ?_
                        obtain ⟨v153, q_v153⟩ : ∃ v_, h.2.1 7 v125.toInt.toNat = v_ := ⟨_, rfl⟩
                        refine hp_ial (v := v153) rfl (hH.1 7 (0, 30) rfl) q_v153 (fun ia_153 ib_153 => ?_)
                        refine qm_Rp.go 0 (c' := (121, [.ref 28, .int y, .int x, .int g, .int 2, .int v125, .int 2, .int 1, .float 0, .float 0], [.int v153], h)) rfl ?_
                        have ew_v125 : w v125.toInt.toNat = v153.toInt := by rw [← eW]; exact congrArg Int32.toInt q_v153
                        have bw_v125 := hw v125.toInt.toNat
                        rw [ew_v125] at bw_v125
                        refine qm_Rp.go 5 (c' := (153, [.ref 28, .int y, .int x, .int g, .int 2, .int v125, .int 2, .int 1, .float 0, .float 0], [.int (v153 + 0)], h)) rfl ?_
                        obtain ⟨v155, q_v155, e_v155⟩ := hk_add (x := v153) (y := 0) (a := v153.toInt) (b := 0) rfl rfl (by omega) (by omega)
                        rw [q_v155]
                        refine qm_Rp.go 1 (c' := (155, [.ref 28, .int y, .int x, .int g, .int 2, .int v125, .int 2, .int 1, .int v155, .float 0], [], h)) rfl ?_
                        have ewt : w (c (kV c (16 * y.toInt + 4 * x.toInt + 2)).toNat).toNat + (if mV c tk (16 * y.toInt + 4 * x.toInt + 2) = 2 then w (c (16 * y.toInt + 4 * x.toInt + 2).toNat).toNat else 0) = v155.toInt := by rw [ek, eb, em, if_neg (by decide)]; omega
                        refine qm_Rp.go 2 (c' := (158, [.ref 28, .int y, .int x, .int g, .int 2, .int v125, .int 2, .int 1, .int v155, .float 0], [.ref 28, .int v155], h)) rfl ?_
                        refine hp_getr rfl (hH.1 28 (9, 8) rfl) rfl hT ?_
                        refine qm_Rp.go 0 (c' := (161, [.ref 28, .int y, .int x, .int g, .int 2, .int v125, .int 2, .int 1, .int v155, .float 0], [.ref 111, .int v155], h)) rfl ?_
                        refine hp_geti (v := l) rfl (hH.1 111 (11, 16) rfl) rfl q_l ?_
                        refine qm_Rp.go 0 (c' := (164, [.ref 28, .int y, .int x, .int g, .int 2, .int v125, .int 2, .int 1, .int v155, .float 0], [.int l, .int v155], h)) rfl ?_
                        refine hp_cle (ix := v155.toInt) (iy := l.toInt) rfl rfl rfl (fun z156 => ?_) (fun z156 => ?_)
                        · refine qm_Rp.go 5 (c' := (176, [.ref 28, .int y, .int x, .int g, .int 2, .int v125, .int 2, .int 1, .int v155, .float 0], [.int (-v155), .int x, .int y, .ref 28], h)) rfl ?_
                          obtain ⟨v157, q_v157, e_v157⟩ := hk_neg (x := v155) (a := v155.toInt) rfl (by omega)
                          rw [q_v157]
                          refine hp_inv (o := 28) (r := []) (as := [.ref 28, .int y, .int x, .int v157]) rfl rfl (hH.1 28 (9, 8) rfl) rfl rfl rfl (px_cbo111 (m := v157) hH hT q_B hB eV hb q_ls hls q_wt hwt ⟨by omega, by omega⟩ ⟨by omega, by omega⟩ ⟨by omega, by omega⟩ q_g0 q_g1 q_g2 (fun r158 e_r158 => ?_))
                          rcases e_r158 with ⟨hr, hbo⟩ | ⟨hr, hbo⟩
                          · obtain rfl : r158 = 1 := hk_eqi.mpr (hr.trans rfl)
                            refine qm_Rp.go 1 (c' := (197, [.ref 28, .int y, .int x, .int g, .int 2, .int v125, .int 2, .int 1, .int v155, .float 0], [], h)) rfl ?_
                            refine px_cl22 hH q_ls hls q_wt hwt eW eH e12 e13 e14 eC eY eI eV hw hi4 hb ⟨by omega, by omega⟩ ⟨by omega, by omega⟩ ⟨by omega, by omega⟩ (fun z => by omega) ⟨by omega, by omega⟩ eb ey_v125 ex_v125 et_v125 (fun I l2 w2 e x28 q5 q6 el2 ew2 x11 x12 x13 x14 x36 x16 x17 x37 => ?_)
                            exact k1 I l2 w2 e x28 q5 q6 ((unl_f ⟨by omega, by omega, by omega, by omega, by omega, by omega⟩ (by rw [el, ek, eb]; omega) (by rw [el, em]; intro z; omega) (by rw [el, ewt]; omega) (okb_t (by rw [el, ewt, ← e_v157]; exact Or.inl hbo))).trans (by rw [el, em])).symm (by rw [el, ek, eb]; exact el2) (by rw [el, ek, eb]; exact ew2) (by rw [el, ek, eb]; exact x11) (by rw [el, ek, eb]; exact x12) (by rw [el, ek, eb]; exact x13) (by rw [el, ek, eb]; exact x14) (by rw [el, ek]; exact x36) (by rw [el, ek, eb]; exact x16) x17 (by rw [el, ek, eb]; exact x37)
                          · obtain rfl : r158 = 0 := hk_eqi.mpr (hr.trans rfl)
                            refine qm_Rp.go 6 (c' := (188, [.ref 28, .int y, .int x, .int g, .int 2, .int v125, .int 2, .int 1, .int v155, .float 0], [.int (-v155), .int x, .int y, .ref 28], h)) rfl ?_
                            rw [q_v157]
                            refine hp_inv (o := 28) (r := []) (as := [.ref 28, .int y, .int x, .int v157]) rfl rfl (hH.1 28 (9, 8) rfl) rfl rfl rfl (px_cnw111 (m := v157) hH hT q_B hB eV hb q_ls hls q_wt hwt ⟨by omega, by omega⟩ ⟨by omega, by omega⟩ ⟨by omega, by omega⟩ (fun r159 e_r159 => ?_))
                            rcases e_r159 with ⟨hr, hnw⟩ | ⟨hr, hnw⟩
                            · obtain rfl : r159 = 1 := hk_eqi.mpr (hr.trans rfl)
                              refine qm_Rp.go 1 (c' := (197, [.ref 28, .int y, .int x, .int g, .int 2, .int v125, .int 2, .int 1, .int v155, .float 0], [], h)) rfl ?_
                              refine px_cl22 hH q_ls hls q_wt hwt eW eH e12 e13 e14 eC eY eI eV hw hi4 hb ⟨by omega, by omega⟩ ⟨by omega, by omega⟩ ⟨by omega, by omega⟩ (fun z => by omega) ⟨by omega, by omega⟩ eb ey_v125 ex_v125 et_v125 (fun I l2 w2 e x28 q5 q6 el2 ew2 x11 x12 x13 x14 x36 x16 x17 x37 => ?_)
                              exact k1 I l2 w2 e x28 q5 q6 ((unl_f ⟨by omega, by omega, by omega, by omega, by omega, by omega⟩ (by rw [el, ek, eb]; omega) (by rw [el, em]; intro z; omega) (by rw [el, ewt]; omega) (okb_t (by rw [el, ewt, ← e_v157]; exact Or.inr hnw))).trans (by rw [el, em])).symm (by rw [el, ek, eb]; exact el2) (by rw [el, ek, eb]; exact ew2) (by rw [el, ek, eb]; exact x11) (by rw [el, ek, eb]; exact x12) (by rw [el, ek, eb]; exact x13) (by rw [el, ek, eb]; exact x14) (by rw [el, ek]; exact x36) (by rw [el, ek, eb]; exact x16) x17 (by rw [el, ek, eb]; exact x37)
                            · obtain rfl : r159 = 0 := hk_eqi.mpr (hr.trans rfl)
                              refine qm_Rp.go 2 (c' := (196, [.ref 28, .int y, .int x, .int g, .int 2, .int v125, .int 2, .int 1, .int v155, .float 0], [.int (-3)], h)) rfl ?_
                              refine qm_Rp.rt (v := (some (.int (-3)))) (h' := h) rfl ?_
                              exact k0 (-3) (unl_e ⟨by omega, by omega, by omega, by omega, by omega, by omega⟩ (by rw [el, ek, eb]; omega) (by rw [el, em]; intro z; omega) (by rw [el, ewt]; omega) (okb_f (by rw [el, ewt, ← e_v157]; exact fun z => z.elim hbo hnw))).symm (by decide)
                        · refine qm_Rp.go 1 (c' := (169, [.ref 28, .int y, .int x, .int g, .int 2, .int v125, .int 2, .int 1, .int v155, .float 0], [.int (-2)], h)) rfl ?_
                          refine qm_Rp.rt (v := (some (.int (-2)))) (h' := h) rfl ?_
                          exact k0 (-2) (unl_d ⟨by omega, by omega, by omega, by omega, by omega, by omega⟩ (by rw [el, ek, eb]; omega) (by rw [el, em]; intro z; omega) (by rw [el, ewt]; omega)).symm (by decide)
                      · refine qm_Rp.go 1 (c' := (97, [.ref 28, .int y, .int x, .int g, .int 2, .int v125, .int 2, .int 1, .float 0, .float 0], [.ref 28], h)) rfl ?_
                        refine hp_getr rfl (hH.1 28 (9, 8) rfl) rfl (hH.2 28 1 (some 15) rfl) ?_
                        refine qm_Rp.go 1 (c' := (101, [.ref 28, .int y, .int x, .int g, .int 2, .int v125, .int 2, .int 1, .float 0, .float 0], [.int g, .ref 15], h)) rfl ?_
                        refine hp_inv (o := 15) (r := []) (as := [.ref 15, .int g]) rfl rfl (hH.1 15 (15, 8) rfl) rfl rfl rfl ?_
                        refine qm_Rp.go 2 (c' := (2, [.ref 15, .int g], [.ref 15, .int 4], h)) rfl ?_
                        refine hp_getr rfl (hH.1 15 (15, 8) rfl) rfl (hH.2 15 2 (some 17) rfl) ?_
                        refine qm_Rp.go 1 (c' := (6, [.ref 15, .int g], [.int g, .ref 17, .int 4], h)) rfl ?_
                        obtain ⟨v160, q_v160⟩ : ∃ v_, h.2.1 17 g.toInt.toNat = v_ := ⟨_, rfl⟩
                        refine hp_ial (v := v160) rfl (hH.1 17 (0, 4) rfl) q_v160 (fun ia_160 ib_160 => ?_)
                        refine qm_Rp.go 0 (c' := (7, [.ref 15, .int g], [.int v160, .int 4], h)) rfl ?_
                        have eh : hi g.toInt.toNat = v160.toInt := by rw [← eI]; exact congrArg Int32.toInt q_v160
                        have bh := hi4 g.toInt.toNat
                        rw [eh] at bh
                        refine qm_Rp.go 1 (c' := (8, [.ref 15, .int g], [.int (4 - v160)], h)) rfl ?_
                        obtain ⟨v162, q_v162, e_v162⟩ := hk_sub (x := 4) (y := v160) (a := 4) (b := v160.toInt) rfl rfl (by omega) (by omega)
                        rw [q_v162]
                        refine qm_Rp.rt (v := (some (.int v162))) (h' := h) rfl ?_
                        refine qm_Rp.go 1 (c' := (106, [.ref 28, .int y, .int x, .int g, .int 2, .int v125, .int 2, .int 1, .float 0, .float 0], [.int 1, .int v162], h)) rfl ?_
                        refine hp_cge (ix := v162.toInt) (iy := 1) rfl rfl rfl (fun z163 => ?_) (fun z163 => ?_)
                        · refine qm_Rp.go 1 (c' := (112, [.ref 28, .int y, .int x, .int g, .int 2, .int v125, .int 2, .int 1, .float 0, .float 0], [.ref 28], h)) rfl ?_
                          refine hp_getr rfl (hH.1 28 (9, 8) rfl) rfl (hH.2 28 0 (some 6) rfl) ?_
                          refine qm_Rp.go 0 (c' := (115, [.ref 28, .int y, .int x, .int g, .int 2, .int v125, .int 2, .int 1, .float 0, .float 0], [.ref 6], h)) rfl ?_
                          refine hp_getr rfl (hH.1 6 (6, 9) rfl) rfl (hH.2 6 1 (some 7) rfl) ?_
                          refine qm_Rp.go 1 (c' := (120, [.ref 28, .int y, .int x, .int g, .int 2, .int v125, .int 2, .int 1, .float 0, .float 0], [.int v125, .ref 7], h)) rfl ?_
                          obtain ⟨v164, q_v164⟩ : ∃ v_, h.2.1 7 v125.toInt.toNat = v_ := ⟨_, rfl⟩
                          refine hp_ial (v := v164) rfl (hH.1 7 (0, 30) rfl) q_v164 (fun ia_164 ib_164 => ?_)
                          refine qm_Rp.go 0 (c' := (121, [.ref 28, .int y, .int x, .int g, .int 2, .int v125, .int 2, .int 1, .float 0, .float 0], [.int v164], h)) rfl ?_
                          have ew_v125 : w v125.toInt.toNat = v164.toInt := by rw [← eW]; exact congrArg Int32.toInt q_v164
                          have bw_v125 := hw v125.toInt.toNat
                          rw [ew_v125] at bw_v125
                          refine qm_Rp.go 5 (c' := (153, [.ref 28, .int y, .int x, .int g, .int 2, .int v125, .int 2, .int 1, .float 0, .float 0], [.int (v164 + 0)], h)) rfl ?_
                          obtain ⟨v166, q_v166, e_v166⟩ := hk_add (x := v164) (y := 0) (a := v164.toInt) (b := 0) rfl rfl (by omega) (by omega)
                          rw [q_v166]
                          refine qm_Rp.go 1 (c' := (155, [.ref 28, .int y, .int x, .int g, .int 2, .int v125, .int 2, .int 1, .int v166, .float 0], [], h)) rfl ?_
                          have ewt : w (c (kV c (16 * y.toInt + 4 * x.toInt + 2)).toNat).toNat + (if mV c tk (16 * y.toInt + 4 * x.toInt + 2) = 2 then w (c (16 * y.toInt + 4 * x.toInt + 2).toNat).toNat else 0) = v166.toInt := by rw [ek, eb, em, if_neg (by decide)]; omega
                          refine qm_Rp.go 2 (c' := (158, [.ref 28, .int y, .int x, .int g, .int 2, .int v125, .int 2, .int 1, .int v166, .float 0], [.ref 28, .int v166], h)) rfl ?_
                          refine hp_getr rfl (hH.1 28 (9, 8) rfl) rfl hT ?_
                          refine qm_Rp.go 0 (c' := (161, [.ref 28, .int y, .int x, .int g, .int 2, .int v125, .int 2, .int 1, .int v166, .float 0], [.ref 111, .int v166], h)) rfl ?_
                          refine hp_geti (v := l) rfl (hH.1 111 (11, 16) rfl) rfl q_l ?_
                          refine qm_Rp.go 0 (c' := (164, [.ref 28, .int y, .int x, .int g, .int 2, .int v125, .int 2, .int 1, .int v166, .float 0], [.int l, .int v166], h)) rfl ?_
                          refine hp_cle (ix := v166.toInt) (iy := l.toInt) rfl rfl rfl (fun z167 => ?_) (fun z167 => ?_)
                          · refine qm_Rp.go 5 (c' := (176, [.ref 28, .int y, .int x, .int g, .int 2, .int v125, .int 2, .int 1, .int v166, .float 0], [.int (-v166), .int x, .int y, .ref 28], h)) rfl ?_
                            obtain ⟨v168, q_v168, e_v168⟩ := hk_neg (x := v166) (a := v166.toInt) rfl (by omega)
                            rw [q_v168]
                            refine hp_inv (o := 28) (r := []) (as := [.ref 28, .int y, .int x, .int v168]) rfl rfl (hH.1 28 (9, 8) rfl) rfl rfl rfl (px_cbo111 (m := v168) hH hT q_B hB eV hb q_ls hls q_wt hwt ⟨by omega, by omega⟩ ⟨by omega, by omega⟩ ⟨by omega, by omega⟩ q_g0 q_g1 q_g2 (fun r169 e_r169 => ?_))
                            rcases e_r169 with ⟨hr, hbo⟩ | ⟨hr, hbo⟩
                            · obtain rfl : r169 = 1 := hk_eqi.mpr (hr.trans rfl)
                              refine qm_Rp.go 1 (c' := (197, [.ref 28, .int y, .int x, .int g, .int 2, .int v125, .int 2, .int 1, .int v166, .float 0], [], h)) rfl ?_
                              refine px_cl22 hH q_ls hls q_wt hwt eW eH e12 e13 e14 eC eY eI eV hw hi4 hb ⟨by omega, by omega⟩ ⟨by omega, by omega⟩ ⟨by omega, by omega⟩ (fun z => by omega) ⟨by omega, by omega⟩ eb ey_v125 ex_v125 et_v125 (fun I l2 w2 e x28 q5 q6 el2 ew2 x11 x12 x13 x14 x36 x16 x17 x37 => ?_)
                              exact k1 I l2 w2 e x28 q5 q6 ((unl_f ⟨by omega, by omega, by omega, by omega, by omega, by omega⟩ (by rw [el, ek, eb]; omega) (by rw [el, em]; intro z; omega) (by rw [el, ewt]; omega) (okb_t (by rw [el, ewt, ← e_v168]; exact Or.inl hbo))).trans (by rw [el, em])).symm (by rw [el, ek, eb]; exact el2) (by rw [el, ek, eb]; exact ew2) (by rw [el, ek, eb]; exact x11) (by rw [el, ek, eb]; exact x12) (by rw [el, ek, eb]; exact x13) (by rw [el, ek, eb]; exact x14) (by rw [el, ek]; exact x36) (by rw [el, ek, eb]; exact x16) x17 (by rw [el, ek, eb]; exact x37)
                            · obtain rfl : r169 = 0 := hk_eqi.mpr (hr.trans rfl)
                              refine qm_Rp.go 6 (c' := (188, [.ref 28, .int y, .int x, .int g, .int 2, .int v125, .int 2, .int 1, .int v166, .float 0], [.int (-v166), .int x, .int y, .ref 28], h)) rfl ?_
                              rw [q_v168]
                              refine hp_inv (o := 28) (r := []) (as := [.ref 28, .int y, .int x, .int v168]) rfl rfl (hH.1 28 (9, 8) rfl) rfl rfl rfl (px_cnw111 (m := v168) hH hT q_B hB eV hb q_ls hls q_wt hwt ⟨by omega, by omega⟩ ⟨by omega, by omega⟩ ⟨by omega, by omega⟩ (fun r170 e_r170 => ?_))
                              rcases e_r170 with ⟨hr, hnw⟩ | ⟨hr, hnw⟩
                              · obtain rfl : r170 = 1 := hk_eqi.mpr (hr.trans rfl)
                                refine qm_Rp.go 1 (c' := (197, [.ref 28, .int y, .int x, .int g, .int 2, .int v125, .int 2, .int 1, .int v166, .float 0], [], h)) rfl ?_
                                refine px_cl22 hH q_ls hls q_wt hwt eW eH e12 e13 e14 eC eY eI eV hw hi4 hb ⟨by omega, by omega⟩ ⟨by omega, by omega⟩ ⟨by omega, by omega⟩ (fun z => by omega) ⟨by omega, by omega⟩ eb ey_v125 ex_v125 et_v125 (fun I l2 w2 e x28 q5 q6 el2 ew2 x11 x12 x13 x14 x36 x16 x17 x37 => ?_)
                                exact k1 I l2 w2 e x28 q5 q6 ((unl_f ⟨by omega, by omega, by omega, by omega, by omega, by omega⟩ (by rw [el, ek, eb]; omega) (by rw [el, em]; intro z; omega) (by rw [el, ewt]; omega) (okb_t (by rw [el, ewt, ← e_v168]; exact Or.inr hnw))).trans (by rw [el, em])).symm (by rw [el, ek, eb]; exact el2) (by rw [el, ek, eb]; exact ew2) (by rw [el, ek, eb]; exact x11) (by rw [el, ek, eb]; exact x12) (by rw [el, ek, eb]; exact x13) (by rw [el, ek, eb]; exact x14) (by rw [el, ek]; exact x36) (by rw [el, ek, eb]; exact x16) x17 (by rw [el, ek, eb]; exact x37)
                              · obtain rfl : r170 = 0 := hk_eqi.mpr (hr.trans rfl)
                                refine qm_Rp.go 2 (c' := (196, [.ref 28, .int y, .int x, .int g, .int 2, .int v125, .int 2, .int 1, .int v166, .float 0], [.int (-3)], h)) rfl ?_
                                refine qm_Rp.rt (v := (some (.int (-3)))) (h' := h) rfl ?_
                                exact k0 (-3) (unl_e ⟨by omega, by omega, by omega, by omega, by omega, by omega⟩ (by rw [el, ek, eb]; omega) (by rw [el, em]; intro z; omega) (by rw [el, ewt]; omega) (okb_f (by rw [el, ewt, ← e_v168]; exact fun z => z.elim hbo hnw))).symm (by decide)
                          · refine qm_Rp.go 1 (c' := (169, [.ref 28, .int y, .int x, .int g, .int 2, .int v125, .int 2, .int 1, .int v166, .float 0], [.int (-2)], h)) rfl ?_
                            refine qm_Rp.rt (v := (some (.int (-2)))) (h' := h) rfl ?_
                            exact k0 (-2) (unl_d ⟨by omega, by omega, by omega, by omega, by omega, by omega⟩ (by rw [el, ek, eb]; omega) (by rw [el, em]; intro z; omega) (by rw [el, ewt]; omega)).symm (by decide)
                        · refine qm_Rp.go 1 (c' := (110, [.ref 28, .int y, .int x, .int g, .int 2, .int v125, .int 2, .int 1, .float 0, .float 0], [.int (-1)], h)) rfl ?_
                          refine qm_Rp.rt (v := (some (.int (-1)))) (h' := h) rfl ?_
                          exact k0 (-1) (unl_c ⟨by omega, by omega, by omega, by omega, by omega, by omega⟩ (by rw [el, ek, eb]; omega) ⟨by omega, by rw [el, em]; omega⟩).symm (by decide)
                · refine qm_Rp.go 3 (c' := (26, [.ref 28, .int y, .int x, .int 2], [.int 3], h)) rfl ?_
                  refine qm_Rp.rt (v := (some (.int 3))) (h' := h) rfl ?_
                  refine qm_Rp.go 0 (c' := (24, [.ref 28, .int y, .int x, .int g, .float 0, .float 0, .float 0, .float 0, .float 0, .float 0], [.int 3], h)) rfl ?_
                  have ek : kV c (16 * y.toInt + 4 * x.toInt + 2) = 16 * y.toInt + 4 * x.toInt + 3 := (kV_1 (by rw [show 16 * y.toInt + 4 * x.toInt + 2 + 1 = 16 * y.toInt + 4 * x.toInt + 3 by omega, ec1]; omega)).trans (by omega)
                  have eb := ec1
                  have ec2 : c (16 * y.toInt + 4 * x.toInt + 2 + 1).toNat = v121.toInt := by rw [show 16 * y.toInt + 4 * x.toInt + 2 + 1 = 16 * y.toInt + 4 * x.toInt + 3 by omega]; exact ec1
                  have ab_v121 := hA (16 * y.toInt + 4 * x.toInt + 3).toNat (by omega) (by rw [eb]; omega)
                  rw [eb] at ab_v121
                  have rb_v121 := hR v121.toInt.toNat ab_v121.1
                  have ey_v121 : yb v121.toInt.toNat = y.toInt := by omega
                  have ex_v121 : rb v121.toInt.toNat = x.toInt := by omega
                  have et_v121 : tb v121.toInt.toNat = 3 := by omega
                  refine qm_Rp.go 5 (c' := (35, [.ref 28, .int y, .int x, .int g, .int 3, .float 0, .float 0, .float 0, .float 0, .float 0], [.ref 28], h)) rfl ?_
                  refine hp_getr rfl (hH.1 28 (9, 8) rfl) rfl (hH.2 28 3 (some 36) rfl) ?_
                  refine qm_Rp.go 3 (c' := (42, [.ref 28, .int y, .int x, .int g, .int 3, .float 0, .float 0, .float 0, .float 0, .float 0], [.int 3, .int x, .int y, .ref 36], h)) rfl ?_
                  refine qm_Rp.call (j := 75) (as := [.int y, .int x, .int 3]) (c' := (45, [.ref 28, .int y, .int x, .int g, .int 3, .float 0, .float 0, .float 0, .float 0, .float 0], [.ref 36], h)) rfl rfl ?_
                  refine qm_Rp.go 3 (c' := (3, [.int y, .int x, .int 3], [.int (y * 4)], h)) rfl ?_
                  rw [q_v117]
                  refine qm_Rp.go 2 (c' := (5, [.int y, .int x, .int 3], [.int (v117 + x)], h)) rfl ?_
                  rw [q_v118]
                  refine qm_Rp.go 2 (c' := (7, [.int y, .int x, .int 3], [.int (v118 * 4)], h)) rfl ?_
                  rw [q_v119]
                  refine qm_Rp.go 2 (c' := (9, [.int y, .int x, .int 3], [.int (v119 + 3)], h)) rfl ?_
                  rw [q_v120]
                  refine qm_Rp.rt (v := (some (.int v120))) (h' := h) rfl ?_
                  refine qm_Rp.go 0 (c' := (45, [.ref 28, .int y, .int x, .int g, .int 3, .float 0, .float 0, .float 0, .float 0, .float 0], [.int v120, .ref 36], h)) rfl ?_
                  refine hp_ial (v := v121) rfl (hH.1 36 (0, 80) rfl) q_v121 (fun ia_170 ib_170 => ?_)
                  refine qm_Rp.go 2 (c' := (49, [.ref 28, .int y, .int x, .int g, .int 3, .int v121, .float 0, .float 0, .float 0, .float 0], [.ref 28], h)) rfl ?_
                  refine hp_getr rfl (hH.1 28 (9, 8) rfl) rfl (hH.2 28 0 (some 6) rfl) ?_
                  refine qm_Rp.go 0 (c' := (52, [.ref 28, .int y, .int x, .int g, .int 3, .int v121, .float 0, .float 0, .float 0, .float 0], [.ref 6], h)) rfl ?_
                  refine hp_getr rfl (hH.1 6 (6, 9) rfl) rfl (hH.2 6 4 (some 10) rfl) ?_
                  refine qm_Rp.go 1 (c' := (57, [.ref 28, .int y, .int x, .int g, .int 3, .int v121, .float 0, .float 0, .float 0, .float 0], [.int v121, .ref 10], h)) rfl ?_
                  obtain ⟨v172, q_v172⟩ : ∃ v_, h.2.1 10 v121.toInt.toNat = v_ := ⟨_, rfl⟩
                  refine hp_bal (v := v172) rfl (hH.1 10 (2, 30) rfl) q_v172 (fun ia_172 ib_172 => ?_)
                  refine qm_Rp.go 0 (c' := (58, [.ref 28, .int y, .int x, .int g, .int 3, .int v121, .float 0, .float 0, .float 0, .float 0], [.int v172], h)) rfl ?_
                  have est : tk v121.toInt.toNat = v172.toInt := by rw [← eK]; exact congrArg Int32.toInt q_v172
                  refine hp_zeq (ix := v172.toInt) rfl rfl (fun z174 => ?_) (fun z174 => ?_)
                  · refine qm_Rp.go 1 (c' := (80, [.ref 28, .int y, .int x, .int g, .int 3, .int v121, .float 0, .float 0, .float 0, .float 0], [.int 3], h)) rfl ?_
                    have em : mV c tk (16 * y.toInt + 4 * x.toInt + 2) = 1 := mV_1b (by rw [ec2]; omega) (by rw [ec2, est]; omega)
                    refine qm_Rp.go 9 (c' := (93, [.ref 28, .int y, .int x, .int g, .int 3, .int v121, .int 3, .int 1, .float 0, .float 0], [.int (-1), .int g], h)) rfl ?_
                    refine hp_ceq (ix := g.toInt) (iy := (-1)) rfl rfl rfl (fun z175 => ?_) (fun z175 => ?_)
                    · refine qm_Rp.go 1 (c' := (112, [.ref 28, .int y, .int x, .int g, .int 3, .int v121, .int 3, .int 1, .float 0, .float 0], [.ref 28], h)) rfl ?_
                      refine hp_getr rfl (hH.1 28 (9, 8) rfl) rfl (hH.2 28 0 (some 6) rfl) ?_
                      refine qm_Rp.go 0 (c' := (115, [.ref 28, .int y, .int x, .int g, .int 3, .int v121, .int 3, .int 1, .float 0, .float 0], [.ref 6], h)) rfl ?_
                      refine hp_getr rfl (hH.1 6 (6, 9) rfl) rfl (hH.2 6 1 (some 7) rfl) ?_
                      refine qm_Rp.go 1 (c' := (120, [.ref 28, .int y, .int x, .int g, .int 3, .int v121, .int 3, .int 1, .float 0, .float 0], [.int v121, .ref 7], h)) rfl ?_
                      obtain ⟨v176, q_v176⟩ : ∃ v_, h.2.1 7 v121.toInt.toNat = v_ := ⟨_, rfl⟩
                      refine hp_ial (v := v176) rfl (hH.1 7 (0, 30) rfl) q_v176 (fun ia_176 ib_176 => ?_)
                      refine qm_Rp.go 0 (c' := (121, [.ref 28, .int y, .int x, .int g, .int 3, .int v121, .int 3, .int 1, .float 0, .float 0], [.int v176], h)) rfl ?_
                      have ew_v121 : w v121.toInt.toNat = v176.toInt := by rw [← eW]; exact congrArg Int32.toInt q_v176
                      have bw_v121 := hw v121.toInt.toNat
                      rw [ew_v121] at bw_v121
                      refine qm_Rp.go 5 (c' := (153, [.ref 28, .int y, .int x, .int g, .int 3, .int v121, .int 3, .int 1, .float 0, .float 0], [.int (v176 + 0)], h)) rfl ?_
                      obtain ⟨v178, q_v178, e_v178⟩ := hk_add (x := v176) (y := 0) (a := v176.toInt) (b := 0) rfl rfl (by omega) (by omega)
                      rw [q_v178]
                      refine qm_Rp.go 1 (c' := (155, [.ref 28, .int y, .int x, .int g, .int 3, .int v121, .int 3, .int 1, .int v178, .float 0], [], h)) rfl ?_
                      have ewt : w (c (kV c (16 * y.toInt + 4 * x.toInt + 2)).toNat).toNat + (if mV c tk (16 * y.toInt + 4 * x.toInt + 2) = 2 then w (c (16 * y.toInt + 4 * x.toInt + 2).toNat).toNat else 0) = v178.toInt := by rw [ek, eb, em, if_neg (by decide)]; omega
                      refine qm_Rp.go 2 (c' := (158, [.ref 28, .int y, .int x, .int g, .int 3, .int v121, .int 3, .int 1, .int v178, .float 0], [.ref 28, .int v178], h)) rfl ?_
                      refine hp_getr rfl (hH.1 28 (9, 8) rfl) rfl hT ?_
                      refine qm_Rp.go 0 (c' := (161, [.ref 28, .int y, .int x, .int g, .int 3, .int v121, .int 3, .int 1, .int v178, .float 0], [.ref 111, .int v178], h)) rfl ?_
                      refine hp_geti (v := l) rfl (hH.1 111 (11, 16) rfl) rfl q_l ?_
                      refine qm_Rp.go 0 (c' := (164, [.ref 28, .int y, .int x, .int g, .int 3, .int v121, .int 3, .int 1, .int v178, .float 0], [.int l, .int v178], h)) rfl ?_
                      refine hp_cle (ix := v178.toInt) (iy := l.toInt) rfl rfl rfl (fun z179 => ?_) (fun z179 => ?_)
                      · refine qm_Rp.go 5 (c' := (176, [.ref 28, .int y, .int x, .int g, .int 3, .int v121, .int 3, .int 1, .int v178, .float 0], [.int (-v178), .int x, .int y, .ref 28], h)) rfl ?_
                        obtain ⟨v180, q_v180, e_v180⟩ := hk_neg (x := v178) (a := v178.toInt) rfl (by omega)
                        rw [q_v180]
                        refine hp_inv (o := 28) (r := []) (as := [.ref 28, .int y, .int x, .int v180]) rfl rfl (hH.1 28 (9, 8) rfl) rfl rfl rfl (px_cbo111 (m := v180) hH hT q_B hB eV hb q_ls hls q_wt hwt ⟨by omega, by omega⟩ ⟨by omega, by omega⟩ ⟨by omega, by omega⟩ q_g0 q_g1 q_g2 (fun r181 e_r181 => ?_))
                        rcases e_r181 with ⟨hr, hbo⟩ | ⟨hr, hbo⟩
                        · obtain rfl : r181 = 1 := hk_eqi.mpr (hr.trans rfl)
                          refine qm_Rp.go 1 (c' := (197, [.ref 28, .int y, .int x, .int g, .int 3, .int v121, .int 3, .int 1, .int v178, .float 0], [], h)) rfl ?_
                          refine px_cl33 hH q_ls hls q_wt hwt eW eH e12 e13 e14 eC eY eI eV hw hi4 hb ⟨by omega, by omega⟩ ⟨by omega, by omega⟩ ⟨by omega, by omega⟩ (fun z => by omega) ⟨by omega, by omega⟩ eb ey_v121 ex_v121 et_v121 (fun I l2 w2 e x28 q5 q6 el2 ew2 x11 x12 x13 x14 x36 x16 x17 x37 => ?_)
                          exact k1 I l2 w2 e x28 q5 q6 ((unl_f ⟨by omega, by omega, by omega, by omega, by omega, by omega⟩ (by rw [el, ek, eb]; omega) (by rw [el, em]; intro z; omega) (by rw [el, ewt]; omega) (okb_t (by rw [el, ewt, ← e_v180]; exact Or.inl hbo))).trans (by rw [el, em])).symm (by rw [el, ek, eb]; exact el2) (by rw [el, ek, eb]; exact ew2) (by rw [el, ek, eb]; exact x11) (by rw [el, ek, eb]; exact x12) (by rw [el, ek, eb]; exact x13) (by rw [el, ek, eb]; exact x14) (by rw [el, ek]; exact x36) (by rw [el, ek, eb]; exact x16) x17 (by rw [el, ek, eb]; exact x37)
                        · obtain rfl : r181 = 0 := hk_eqi.mpr (hr.trans rfl)
                          refine qm_Rp.go 6 (c' := (188, [.ref 28, .int y, .int x, .int g, .int 3, .int v121, .int 3, .int 1, .int v178, .float 0], [.int (-v178), .int x, .int y, .ref 28], h)) rfl ?_
                          rw [q_v180]
                          refine hp_inv (o := 28) (r := []) (as := [.ref 28, .int y, .int x, .int v180]) rfl rfl (hH.1 28 (9, 8) rfl) rfl rfl rfl (px_cnw111 (m := v180) hH hT q_B hB eV hb q_ls hls q_wt hwt ⟨by omega, by omega⟩ ⟨by omega, by omega⟩ ⟨by omega, by omega⟩ (fun r182 e_r182 => ?_))
                          rcases e_r182 with ⟨hr, hnw⟩ | ⟨hr, hnw⟩
                          · obtain rfl : r182 = 1 := hk_eqi.mpr (hr.trans rfl)
                            refine qm_Rp.go 1 (c' := (197, [.ref 28, .int y, .int x, .int g, .int 3, .int v121, .int 3, .int 1, .int v178, .float 0], [], h)) rfl ?_
                            refine px_cl33 hH q_ls hls q_wt hwt eW eH e12 e13 e14 eC eY eI eV hw hi4 hb ⟨by omega, by omega⟩ ⟨by omega, by omega⟩ ⟨by omega, by omega⟩ (fun z => by omega) ⟨by omega, by omega⟩ eb ey_v121 ex_v121 et_v121 (fun I l2 w2 e x28 q5 q6 el2 ew2 x11 x12 x13 x14 x36 x16 x17 x37 => ?_)
                            exact k1 I l2 w2 e x28 q5 q6 ((unl_f ⟨by omega, by omega, by omega, by omega, by omega, by omega⟩ (by rw [el, ek, eb]; omega) (by rw [el, em]; intro z; omega) (by rw [el, ewt]; omega) (okb_t (by rw [el, ewt, ← e_v180]; exact Or.inr hnw))).trans (by rw [el, em])).symm (by rw [el, ek, eb]; exact el2) (by rw [el, ek, eb]; exact ew2) (by rw [el, ek, eb]; exact x11) (by rw [el, ek, eb]; exact x12) (by rw [el, ek, eb]; exact x13) (by rw [el, ek, eb]; exact x14) (by rw [el, ek]; exact x36) (by rw [el, ek, eb]; exact x16) x17 (by rw [el, ek, eb]; exact x37)
                          · obtain rfl : r182 = 0 := hk_eqi.mpr (hr.trans rfl)
                            refine qm_Rp.go 2 (c' := (196, [.ref 28, .int y, .int x, .int g, .int 3, .int v121, .int 3, .int 1, .int v178, .float 0], [.int (-3)], h)) rfl ?_
                            refine qm_Rp.rt (v := (some (.int (-3)))) (h' := h) rfl ?_
                            exact k0 (-3) (unl_e ⟨by omega, by omega, by omega, by omega, by omega, by omega⟩ (by rw [el, ek, eb]; omega) (by rw [el, em]; intro z; omega) (by rw [el, ewt]; omega) (okb_f (by rw [el, ewt, ← e_v180]; exact fun z => z.elim hbo hnw))).symm (by decide)
                      · refine qm_Rp.go 1 (c' := (169, [.ref 28, .int y, .int x, .int g, .int 3, .int v121, .int 3, .int 1, .int v178, .float 0], [.int (-2)], h)) rfl ?_
                        refine qm_Rp.rt (v := (some (.int (-2)))) (h' := h) rfl ?_
                        exact k0 (-2) (unl_d ⟨by omega, by omega, by omega, by omega, by omega, by omega⟩ (by rw [el, ek, eb]; omega) (by rw [el, em]; intro z; omega) (by rw [el, ewt]; omega)).symm (by decide)
                    · refine qm_Rp.go 1 (c' := (97, [.ref 28, .int y, .int x, .int g, .int 3, .int v121, .int 3, .int 1, .float 0, .float 0], [.ref 28], h)) rfl ?_
                      refine hp_getr rfl (hH.1 28 (9, 8) rfl) rfl (hH.2 28 1 (some 15) rfl) ?_
                      refine qm_Rp.go 1 (c' := (101, [.ref 28, .int y, .int x, .int g, .int 3, .int v121, .int 3, .int 1, .float 0, .float 0], [.int g, .ref 15], h)) rfl ?_
                      refine hp_inv (o := 15) (r := []) (as := [.ref 15, .int g]) rfl rfl (hH.1 15 (15, 8) rfl) rfl rfl rfl ?_
                      refine qm_Rp.go 2 (c' := (2, [.ref 15, .int g], [.ref 15, .int 4], h)) rfl ?_
                      refine hp_getr rfl (hH.1 15 (15, 8) rfl) rfl (hH.2 15 2 (some 17) rfl) ?_
                      refine qm_Rp.go 1 (c' := (6, [.ref 15, .int g], [.int g, .ref 17, .int 4], h)) rfl ?_
                      obtain ⟨v183, q_v183⟩ : ∃ v_, h.2.1 17 g.toInt.toNat = v_ := ⟨_, rfl⟩
                      refine hp_ial (v := v183) rfl (hH.1 17 (0, 4) rfl) q_v183 (fun ia_183 ib_183 => ?_)
                      refine qm_Rp.go 0 (c' := (7, [.ref 15, .int g], [.int v183, .int 4], h)) rfl ?_
                      have eh : hi g.toInt.toNat = v183.toInt := by rw [← eI]; exact congrArg Int32.toInt q_v183
                      have bh := hi4 g.toInt.toNat
                      rw [eh] at bh
                      refine qm_Rp.go 1 (c' := (8, [.ref 15, .int g], [.int (4 - v183)], h)) rfl ?_
                      obtain ⟨v185, q_v185, e_v185⟩ := hk_sub (x := 4) (y := v183) (a := 4) (b := v183.toInt) rfl rfl (by omega) (by omega)
                      rw [q_v185]
                      refine qm_Rp.rt (v := (some (.int v185))) (h' := h) rfl ?_
                      refine qm_Rp.go 1 (c' := (106, [.ref 28, .int y, .int x, .int g, .int 3, .int v121, .int 3, .int 1, .float 0, .float 0], [.int 1, .int v185], h)) rfl ?_
                      refine hp_cge (ix := v185.toInt) (iy := 1) rfl rfl rfl (fun z186 => ?_) (fun z186 => ?_)
                      · refine qm_Rp.go 1 (c' := (112, [.ref 28, .int y, .int x, .int g, .int 3, .int v121, .int 3, .int 1, .float 0, .float 0], [.ref 28], h)) rfl ?_
                        refine hp_getr rfl (hH.1 28 (9, 8) rfl) rfl (hH.2 28 0 (some 6) rfl) ?_
                        refine qm_Rp.go 0 (c' := (115, [.ref 28, .int y, .int x, .int g, .int 3, .int v121, .int 3, .int 1, .float 0, .float 0], [.ref 6], h)) rfl ?_
                        refine hp_getr rfl (hH.1 6 (6, 9) rfl) rfl (hH.2 6 1 (some 7) rfl) ?_
                        refine qm_Rp.go 1 (c' := (120, [.ref 28, .int y, .int x, .int g, .int 3, .int v121, .int 3, .int 1, .float 0, .float 0], [.int v121, .ref 7], h)) rfl ?_
                        obtain ⟨v187, q_v187⟩ : ∃ v_, h.2.1 7 v121.toInt.toNat = v_ := ⟨_, rfl⟩
                        refine hp_ial (v := v187) rfl (hH.1 7 (0, 30) rfl) q_v187 (fun ia_187 ib_187 => ?_)
                        refine qm_Rp.go 0 (c' := (121, [.ref 28, .int y, .int x, .int g, .int 3, .int v121, .int 3, .int 1, .float 0, .float 0], [.int v187], h)) rfl ?_
                        have ew_v121 : w v121.toInt.toNat = v187.toInt := by rw [← eW]; exact congrArg Int32.toInt q_v187
                        have bw_v121 := hw v121.toInt.toNat
                        rw [ew_v121] at bw_v121
                        refine qm_Rp.go 5 (c' := (153, [.ref 28, .int y, .int x, .int g, .int 3, .int v121, .int 3, .int 1, .float 0, .float 0], [.int (v187 + 0)], h)) rfl ?_
                        obtain ⟨v189, q_v189, e_v189⟩ := hk_add (x := v187) (y := 0) (a := v187.toInt) (b := 0) rfl rfl (by omega) (by omega)
                        rw [q_v189]
                        refine qm_Rp.go 1 (c' := (155, [.ref 28, .int y, .int x, .int g, .int 3, .int v121, .int 3, .int 1, .int v189, .float 0], [], h)) rfl ?_
                        have ewt : w (c (kV c (16 * y.toInt + 4 * x.toInt + 2)).toNat).toNat + (if mV c tk (16 * y.toInt + 4 * x.toInt + 2) = 2 then w (c (16 * y.toInt + 4 * x.toInt + 2).toNat).toNat else 0) = v189.toInt := by rw [ek, eb, em, if_neg (by decide)]; omega
                        refine qm_Rp.go 2 (c' := (158, [.ref 28, .int y, .int x, .int g, .int 3, .int v121, .int 3, .int 1, .int v189, .float 0], [.ref 28, .int v189], h)) rfl ?_
                        refine hp_getr rfl (hH.1 28 (9, 8) rfl) rfl hT ?_
                        refine qm_Rp.go 0 (c' := (161, [.ref 28, .int y, .int x, .int g, .int 3, .int v121, .int 3, .int 1, .int v189, .float 0], [.ref 111, .int v189], h)) rfl ?_
                        refine hp_geti (v := l) rfl (hH.1 111 (11, 16) rfl) rfl q_l ?_
                        refine qm_Rp.go 0 (c' := (164, [.ref 28, .int y, .int x, .int g, .int 3, .int v121, .int 3, .int 1, .int v189, .float 0], [.int l, .int v189], h)) rfl ?_
                        refine hp_cle (ix := v189.toInt) (iy := l.toInt) rfl rfl rfl (fun z190 => ?_) (fun z190 => ?_)
                        · refine qm_Rp.go 5 (c' := (176, [.ref 28, .int y, .int x, .int g, .int 3, .int v121, .int 3, .int 1, .int v189, .float 0], [.int (-v189), .int x, .int y, .ref 28], h)) rfl ?_
                          obtain ⟨v191, q_v191, e_v191⟩ := hk_neg (x := v189) (a := v189.toInt) rfl (by omega)
                          rw [q_v191]
                          refine hp_inv (o := 28) (r := []) (as := [.ref 28, .int y, .int x, .int v191]) rfl rfl (hH.1 28 (9, 8) rfl) rfl rfl rfl (px_cbo111 (m := v191) hH hT q_B hB eV hb q_ls hls q_wt hwt ⟨by omega, by omega⟩ ⟨by omega, by omega⟩ ⟨by omega, by omega⟩ q_g0 q_g1 q_g2 (fun r192 e_r192 => ?_))
                          rcases e_r192 with ⟨hr, hbo⟩ | ⟨hr, hbo⟩
                          · obtain rfl : r192 = 1 := hk_eqi.mpr (hr.trans rfl)
                            refine qm_Rp.go 1 (c' := (197, [.ref 28, .int y, .int x, .int g, .int 3, .int v121, .int 3, .int 1, .int v189, .float 0], [], h)) rfl ?_
                            refine px_cl33 hH q_ls hls q_wt hwt eW eH e12 e13 e14 eC eY eI eV hw hi4 hb ⟨by omega, by omega⟩ ⟨by omega, by omega⟩ ⟨by omega, by omega⟩ (fun z => by omega) ⟨by omega, by omega⟩ eb ey_v121 ex_v121 et_v121 (fun I l2 w2 e x28 q5 q6 el2 ew2 x11 x12 x13 x14 x36 x16 x17 x37 => ?_)
                            exact k1 I l2 w2 e x28 q5 q6 ((unl_f ⟨by omega, by omega, by omega, by omega, by omega, by omega⟩ (by rw [el, ek, eb]; omega) (by rw [el, em]; intro z; omega) (by rw [el, ewt]; omega) (okb_t (by rw [el, ewt, ← e_v191]; exact Or.inl hbo))).trans (by rw [el, em])).symm (by rw [el, ek, eb]; exact el2) (by rw [el, ek, eb]; exact ew2) (by rw [el, ek, eb]; exact x11) (by rw [el, ek, eb]; exact x12) (by rw [el, ek, eb]; exact x13) (by rw [el, ek, eb]; exact x14) (by rw [el, ek]; exact x36) (by rw [el, ek, eb]; exact x16) x17 (by rw [el, ek, eb]; exact x37)
                          · obtain rfl : r192 = 0 := hk_eqi.mpr (hr.trans rfl)
                            refine qm_Rp.go 6 (c' := (188, [.ref 28, .int y, .int x, .int g, .int 3, .int v121, .int 3, .int 1, .int v189, .float 0], [.int (-v189), .int x, .int y, .ref 28], h)) rfl ?_
                            rw [q_v191]
                            refine hp_inv (o := 28) (r := []) (as := [.ref 28, .int y, .int x, .int v191]) rfl rfl (hH.1 28 (9, 8) rfl) rfl rfl rfl (px_cnw111 (m := v191) hH hT q_B hB eV hb q_ls hls q_wt hwt ⟨by omega, by omega⟩ ⟨by omega, by omega⟩ ⟨by omega, by omega⟩ (fun r193 e_r193 => ?_))
                            rcases e_r193 with ⟨hr, hnw⟩ | ⟨hr, hnw⟩
                            · obtain rfl : r193 = 1 := hk_eqi.mpr (hr.trans rfl)
                              refine qm_Rp.go 1 (c' := (197, [.ref 28, .int y, .int x, .int g, .int 3, .int v121, .int 3, .int 1, .int v189, .float 0], [], h)) rfl ?_
                              refine px_cl33 hH q_ls hls q_wt hwt eW eH e12 e13 e14 eC eY eI eV hw hi4 hb ⟨by omega, by omega⟩ ⟨by omega, by omega⟩ ⟨by omega, by omega⟩ (fun z => by omega) ⟨by omega, by omega⟩ eb ey_v121 ex_v121 et_v121 (fun I l2 w2 e x28 q5 q6 el2 ew2 x11 x12 x13 x14 x36 x16 x17 x37 => ?_)
                              exact k1 I l2 w2 e x28 q5 q6 ((unl_f ⟨by omega, by omega, by omega, by omega, by omega, by omega⟩ (by rw [el, ek, eb]; omega) (by rw [el, em]; intro z; omega) (by rw [el, ewt]; omega) (okb_t (by rw [el, ewt, ← e_v191]; exact Or.inr hnw))).trans (by rw [el, em])).symm (by rw [el, ek, eb]; exact el2) (by rw [el, ek, eb]; exact ew2) (by rw [el, ek, eb]; exact x11) (by rw [el, ek, eb]; exact x12) (by rw [el, ek, eb]; exact x13) (by rw [el, ek, eb]; exact x14) (by rw [el, ek]; exact x36) (by rw [el, ek, eb]; exact x16) x17 (by rw [el, ek, eb]; exact x37)
                            · obtain rfl : r193 = 0 := hk_eqi.mpr (hr.trans rfl)
                              refine qm_Rp.go 2 (c' := (196, [.ref 28, .int y, .int x, .int g, .int 3, .int v121, .int 3, .int 1, .int v189, .float 0], [.int (-3)], h)) rfl ?_
                              refine qm_Rp.rt (v := (some (.int (-3)))) (h' := h) rfl ?_
                              exact k0 (-3) (unl_e ⟨by omega, by omega, by omega, by omega, by omega, by omega⟩ (by rw [el, ek, eb]; omega) (by rw [el, em]; intro z; omega) (by rw [el, ewt]; omega) (okb_f (by rw [el, ewt, ← e_v191]; exact fun z => z.elim hbo hnw))).symm (by decide)
                        · refine qm_Rp.go 1 (c' := (169, [.ref 28, .int y, .int x, .int g, .int 3, .int v121, .int 3, .int 1, .int v189, .float 0], [.int (-2)], h)) rfl ?_
                          refine qm_Rp.rt (v := (some (.int (-2)))) (h' := h) rfl ?_
                          exact k0 (-2) (unl_d ⟨by omega, by omega, by omega, by omega, by omega, by omega⟩ (by rw [el, ek, eb]; omega) (by rw [el, em]; intro z; omega) (by rw [el, ewt]; omega)).symm (by decide)
                      · refine qm_Rp.go 1 (c' := (110, [.ref 28, .int y, .int x, .int g, .int 3, .int v121, .int 3, .int 1, .float 0, .float 0], [.int (-1)], h)) rfl ?_
                        refine qm_Rp.rt (v := (some (.int (-1)))) (h' := h) rfl ?_
                        exact k0 (-1) (unl_c ⟨by omega, by omega, by omega, by omega, by omega, by omega⟩ (by rw [el, ek, eb]; omega) ⟨by omega, by rw [el, em]; omega⟩).symm (by decide)
                  · refine qm_Rp.go 3 (c' := (65, [.ref 28, .int y, .int x, .int g, .int 3, .int v121, .float 0, .float 0, .float 0, .float 0], [.int y, .ref 28, .int 3], h)) rfl ?_
                    refine hp_inv (o := 28) (r := [.int 3]) (as := [.ref 28, .int y]) rfl rfl (hH.1 28 (9, 8) rfl) rfl rfl rfl ?_
                    refine qm_Rp.go 2 (c' := (2, [.ref 28, .int y], [.int y, .ref 28], h)) rfl ?_
                    refine hp_inv (o := 28) (r := []) (as := [.ref 28, .int y]) rfl rfl (hH.1 28 (9, 8) rfl) rfl rfl rfl ?_
                    refine qm_Rp.go 1 (c' := (1, [.ref 28, .int y], [.ref 28], h)) rfl ?_
                    refine hp_geti (v := cv) rfl (hH.1 28 (9, 8) rfl) rfl q_cv ?_
                    refine qm_Rp.go 2 (c' := (6, [.ref 28, .int y], [.int (cv >>> (y &&& 31))], h)) rfl ?_
                    rw [q_v7]
                    refine qm_Rp.go 2 (c' := (8, [.ref 28, .int y], [.int (v7 &&& 1)], h)) rfl ?_
                    rw [q_v8]
                    refine qm_Rp.go 1 (c' := (9, [.ref 28, .int y], [.int 1, .int v8], h)) rfl ?_
                    refine hp_cne (ix := v8.toInt) (iy := 1) rfl rfl rfl (fun z194 => by exfalso; omega) (fun z194 => ?_)
                    refine qm_Rp.go 2 (c' := (17, [.ref 28, .int y], [.int 1], h)) rfl ?_
                    refine qm_Rp.rt (v := (some (.int 1))) (h' := h) rfl ?_
                    refine qm_Rp.go 3 (c' := (13, [.ref 28, .int y], [.int 2], h)) rfl ?_
                    refine qm_Rp.rt (v := (some (.int 2))) (h' := h) rfl ?_
                    refine qm_Rp.go 5 (c' := (80, [.ref 28, .int y, .int x, .int g, .int 3, .int v121, .float 0, .float 0, .float 0, .float 0], [.int 2], h)) rfl ?_
                    have em : mV c tk (16 * y.toInt + 4 * x.toInt + 2) = 2 := mV_2 (by rw [ec2]; omega) (by rw [ec2, est]; omega)
                    refine qm_Rp.go 9 (c' := (93, [.ref 28, .int y, .int x, .int g, .int 3, .int v121, .int 2, .int 2, .float 0, .float 0], [.int (-1), .int g], h)) rfl ?_
                    refine hp_ceq (ix := g.toInt) (iy := (-1)) rfl rfl rfl (fun z195 => ?_) (fun z195 => ?_)
                    · refine qm_Rp.go 1 (c' := (112, [.ref 28, .int y, .int x, .int g, .int 3, .int v121, .int 2, .int 2, .float 0, .float 0], [.ref 28], h)) rfl ?_
                      refine hp_getr rfl (hH.1 28 (9, 8) rfl) rfl (hH.2 28 0 (some 6) rfl) ?_
                      refine qm_Rp.go 0 (c' := (115, [.ref 28, .int y, .int x, .int g, .int 3, .int v121, .int 2, .int 2, .float 0, .float 0], [.ref 6], h)) rfl ?_
                      refine hp_getr rfl (hH.1 6 (6, 9) rfl) rfl (hH.2 6 1 (some 7) rfl) ?_
                      refine qm_Rp.go 1 (c' := (120, [.ref 28, .int y, .int x, .int g, .int 3, .int v121, .int 2, .int 2, .float 0, .float 0], [.int v121, .ref 7], h)) rfl ?_
                      obtain ⟨v196, q_v196⟩ : ∃ v_, h.2.1 7 v121.toInt.toNat = v_ := ⟨_, rfl⟩
                      refine hp_ial (v := v196) rfl (hH.1 7 (0, 30) rfl) q_v196 (fun ia_196 ib_196 => ?_)
                      refine qm_Rp.go 0 (c' := (121, [.ref 28, .int y, .int x, .int g, .int 3, .int v121, .int 2, .int 2, .float 0, .float 0], [.int v196], h)) rfl ?_
                      have ew_v121 : w v121.toInt.toNat = v196.toInt := by rw [← eW]; exact congrArg Int32.toInt q_v196
                      have bw_v121 := hw v121.toInt.toNat
                      rw [ew_v121] at bw_v121
                      refine qm_Rp.go 4 (c' := (129, [.ref 28, .int y, .int x, .int g, .int 3, .int v121, .int 2, .int 2, .float 0, .float 0], [.ref 28, .int v196], h)) rfl ?_
                      refine hp_getr rfl (hH.1 28 (9, 8) rfl) rfl (hH.2 28 0 (some 6) rfl) ?_
                      refine qm_Rp.go 0 (c' := (132, [.ref 28, .int y, .int x, .int g, .int 3, .int v121, .int 2, .int 2, .float 0, .float 0], [.ref 6, .int v196], h)) rfl ?_
                      refine hp_getr rfl (hH.1 6 (6, 9) rfl) rfl (hH.2 6 1 (some 7) rfl) ?_
                      refine qm_Rp.go 1 (c' := (136, [.ref 28, .int y, .int x, .int g, .int 3, .int v121, .int 2, .int 2, .float 0, .float 0], [.ref 28, .ref 7, .int v196], h)) rfl ?_
                      refine hp_getr rfl (hH.1 28 (9, 8) rfl) rfl (hH.2 28 3 (some 36) rfl) ?_
                      refine qm_Rp.go 3 (c' := (143, [.ref 28, .int y, .int x, .int g, .int 3, .int v121, .int 2, .int 2, .float 0, .float 0], [.int 2, .int x, .int y, .ref 36, .ref 7, .int v196], h)) rfl ?_
                      refine qm_Rp.call (j := 75) (as := [.int y, .int x, .int 2]) (c' := (146, [.ref 28, .int y, .int x, .int g, .int 3, .int v121, .int 2, .int 2, .float 0, .float 0], [.ref 36, .ref 7, .int v196], h)) rfl rfl ?_
                      refine qm_Rp.go 3 (c' := (3, [.int y, .int x, .int 2], [.int (y * 4)], h)) rfl ?_
                      rw [q_v117]
                      refine qm_Rp.go 2 (c' := (5, [.int y, .int x, .int 2], [.int (v117 + x)], h)) rfl ?_
                      rw [q_v118]
                      refine qm_Rp.go 2 (c' := (7, [.int y, .int x, .int 2], [.int (v118 * 4)], h)) rfl ?_
                      rw [q_v119]
                      refine qm_Rp.go 2 (c' := (9, [.int y, .int x, .int 2], [.int (v119 + 2)], h)) rfl ?_
                      obtain ⟨v198, q_v198, e_v198⟩ := hk_add (x := v119) (y := 2) (a := v119.toInt) (b := 2) rfl rfl (by omega) (by omega)
                      rw [q_v198]
                      refine qm_Rp.rt (v := (some (.int v198))) (h' := h) rfl ?_
                      refine qm_Rp.go 0 (c' := (146, [.ref 28, .int y, .int x, .int g, .int 3, .int v121, .int 2, .int 2, .float 0, .float 0], [.int v198, .ref 36, .ref 7, .int v196], h)) rfl ?_
                      obtain ⟨v199, q_v199⟩ : ∃ v_, h.2.1 36 v198.toInt.toNat = v_ := ⟨_, rfl⟩
                      refine hp_ial (v := v199) rfl (hH.1 36 (0, 80) rfl) q_v199 (fun ia_199 ib_199 => ?_)
                      refine qm_Rp.go 0 (c' := (147, [.ref 28, .int y, .int x, .int g, .int 3, .int v121, .int 2, .int 2, .float 0, .float 0], [.int v199, .ref 7, .int v196], h)) rfl ?_
                      have etw : c (16 * y.toInt + 4 * x.toInt + 2).toNat = v199.toInt := by rw [← eC, show (16 * y.toInt + 4 * x.toInt + 2).toNat = v198.toInt.toNat by omega]; exact congrArg Int32.toInt q_v199
                      have betw := hc (16 * y.toInt + 4 * x.toInt + 2).toNat
                      rw [etw] at betw
                      have t0 := hb2 ((16 * y.toInt + 4 * x.toInt + 2).toNat / 2) (by omega) (by rw [show 2 * ((16 * y.toInt + 4 * x.toInt + 2).toNat / 2) + 1 = (16 * y.toInt + 4 * x.toInt + 3).toNat by omega, ec1]; omega)
                      rw [show 2 * ((16 * y.toInt + 4 * x.toInt + 2).toNat / 2) = (16 * y.toInt + 4 * x.toInt + 2).toNat by omega, etw] at t0
                      have ab_v199 := hA (16 * y.toInt + 4 * x.toInt + 2).toNat (by omega) (by rw [etw]; omega)
                      rw [etw] at ab_v199
                      have rb_v199 := hR v199.toInt.toNat ab_v199.1
                      have ey_v199 : yb v199.toInt.toNat = y.toInt := by omega
                      have ex_v199 : rb v199.toInt.toNat = x.toInt := by omega
                      have et_v199 : tb v199.toInt.toNat = 2 := by omega
                      have hne : v121.toInt.toNat ≠ v199.toInt.toNat := fun z => by rw [z] at et_v121; omega
                      obtain ⟨v201, q_v201⟩ : ∃ v_, h.2.1 7 v199.toInt.toNat = v_ := ⟨_, rfl⟩
                      refine hp_ial (v := v201) rfl (hH.1 7 (0, 30) rfl) q_v201 (fun ia_201 ib_201 => ?_)
                      refine qm_Rp.go 0 (c' := (148, [.ref 28, .int y, .int x, .int g, .int 3, .int v121, .int 2, .int 2, .float 0, .float 0], [.int v201, .int v196], h)) rfl ?_
                      have ew_v199 : w v199.toInt.toNat = v201.toInt := by rw [← eW]; exact congrArg Int32.toInt q_v201
                      have bw_v199 := hw v199.toInt.toNat
                      rw [ew_v199] at bw_v199
                      refine qm_Rp.go 2 (c' := (153, [.ref 28, .int y, .int x, .int g, .int 3, .int v121, .int 2, .int 2, .float 0, .float 0], [.int (v196 + v201)], h)) rfl ?_
                      obtain ⟨v203, q_v203, e_v203⟩ := hk_add (x := v196) (y := v201) (a := v196.toInt) (b := v201.toInt) rfl rfl (by omega) (by omega)
                      rw [q_v203]
                      refine qm_Rp.go 1 (c' := (155, [.ref 28, .int y, .int x, .int g, .int 3, .int v121, .int 2, .int 2, .int v203, .float 0], [], h)) rfl ?_
                      have ewt : w (c (kV c (16 * y.toInt + 4 * x.toInt + 2)).toNat).toNat + (if mV c tk (16 * y.toInt + 4 * x.toInt + 2) = 2 then w (c (16 * y.toInt + 4 * x.toInt + 2).toNat).toNat else 0) = v203.toInt := by rw [ek, eb, em, if_pos rfl, etw]; omega
                      refine qm_Rp.go 2 (c' := (158, [.ref 28, .int y, .int x, .int g, .int 3, .int v121, .int 2, .int 2, .int v203, .float 0], [.ref 28, .int v203], h)) rfl ?_
                      refine hp_getr rfl (hH.1 28 (9, 8) rfl) rfl hT ?_
                      refine qm_Rp.go 0 (c' := (161, [.ref 28, .int y, .int x, .int g, .int 3, .int v121, .int 2, .int 2, .int v203, .float 0], [.ref 111, .int v203], h)) rfl ?_
                      refine hp_geti (v := l) rfl (hH.1 111 (11, 16) rfl) rfl q_l ?_
                      refine qm_Rp.go 0 (c' := (164, [.ref 28, .int y, .int x, .int g, .int 3, .int v121, .int 2, .int 2, .int v203, .float 0], [.int l, .int v203], h)) rfl ?_
                      refine hp_cle (ix := v203.toInt) (iy := l.toInt) rfl rfl rfl (fun z204 => ?_) (fun z204 => ?_)
                      · refine qm_Rp.go 5 (c' := (176, [.ref 28, .int y, .int x, .int g, .int 3, .int v121, .int 2, .int 2, .int v203, .float 0], [.int (-v203), .int x, .int y, .ref 28], h)) rfl ?_
                        obtain ⟨v205, q_v205, e_v205⟩ := hk_neg (x := v203) (a := v203.toInt) rfl (by omega)
                        rw [q_v205]
                        refine hp_inv (o := 28) (r := []) (as := [.ref 28, .int y, .int x, .int v205]) rfl rfl (hH.1 28 (9, 8) rfl) rfl rfl rfl (px_cbo111 (m := v205) hH hT q_B hB eV hb q_ls hls q_wt hwt ⟨by omega, by omega⟩ ⟨by omega, by omega⟩ ⟨by omega, by omega⟩ q_g0 q_g1 q_g2 (fun r206 e_r206 => ?_))
                        rcases e_r206 with ⟨hr, hbo⟩ | ⟨hr, hbo⟩
                        · obtain rfl : r206 = 1 := hk_eqi.mpr (hr.trans rfl)
                          refine qm_Rp.go 1 (c' := (197, [.ref 28, .int y, .int x, .int g, .int 3, .int v121, .int 2, .int 2, .int v203, .float 0], [], h)) rfl ?_
                          refine px_cl23 hH q_ls hls q_wt hwt eW eH e12 e13 e14 eC eY eI eV hw hi4 hb ⟨by omega, by omega⟩ ⟨by omega, by omega⟩ ⟨by omega, by omega⟩ (fun z => by omega) ⟨by omega, by omega⟩ eb ey_v121 ex_v121 et_v121 ⟨by omega, by omega⟩ etw ey_v199 ex_v199 et_v199 hne (fun I l2 w2 e x28 q5 q6 el2 ew2 x11 x12 x13 x14 x36 x16 x17 x37 => ?_)
                          exact k2 I l2 w2 e x28 q5 q6 ((unl_f ⟨by omega, by omega, by omega, by omega, by omega, by omega⟩ (by rw [el, ek, eb]; omega) (by rw [el, em]; intro z; omega) (by rw [el, ewt]; omega) (okb_t (by rw [el, ewt, ← e_v205]; exact Or.inl hbo))).trans (by rw [el, em])).symm (by rw [el, ec2, etw]; exact el2) (by rw [el, ec2, etw]; exact ew2) (by rw [el, ec2, etw]; exact x11) (by rw [el, ec2, etw]; exact x12) (by rw [el, ec2, etw]; exact x13) (by rw [el, ec2, etw]; exact x14) (by rw [el]; rw [show (16 * y.toInt + 4 * x.toInt + 2 + 1) = 16 * y.toInt + 4 * x.toInt + 3 by omega]; exact x36) (by rw [el, ec2, etw]; exact x16) x17 (by rw [el, ec2, etw]; exact x37)
                        · obtain rfl : r206 = 0 := hk_eqi.mpr (hr.trans rfl)
                          refine qm_Rp.go 6 (c' := (188, [.ref 28, .int y, .int x, .int g, .int 3, .int v121, .int 2, .int 2, .int v203, .float 0], [.int (-v203), .int x, .int y, .ref 28], h)) rfl ?_
                          rw [q_v205]
                          refine hp_inv (o := 28) (r := []) (as := [.ref 28, .int y, .int x, .int v205]) rfl rfl (hH.1 28 (9, 8) rfl) rfl rfl rfl (px_cnw111 (m := v205) hH hT q_B hB eV hb q_ls hls q_wt hwt ⟨by omega, by omega⟩ ⟨by omega, by omega⟩ ⟨by omega, by omega⟩ (fun r207 e_r207 => ?_))
                          rcases e_r207 with ⟨hr, hnw⟩ | ⟨hr, hnw⟩
                          · obtain rfl : r207 = 1 := hk_eqi.mpr (hr.trans rfl)
                            refine qm_Rp.go 1 (c' := (197, [.ref 28, .int y, .int x, .int g, .int 3, .int v121, .int 2, .int 2, .int v203, .float 0], [], h)) rfl ?_
                            refine px_cl23 hH q_ls hls q_wt hwt eW eH e12 e13 e14 eC eY eI eV hw hi4 hb ⟨by omega, by omega⟩ ⟨by omega, by omega⟩ ⟨by omega, by omega⟩ (fun z => by omega) ⟨by omega, by omega⟩ eb ey_v121 ex_v121 et_v121 ⟨by omega, by omega⟩ etw ey_v199 ex_v199 et_v199 hne (fun I l2 w2 e x28 q5 q6 el2 ew2 x11 x12 x13 x14 x36 x16 x17 x37 => ?_)
                            exact k2 I l2 w2 e x28 q5 q6 ((unl_f ⟨by omega, by omega, by omega, by omega, by omega, by omega⟩ (by rw [el, ek, eb]; omega) (by rw [el, em]; intro z; omega) (by rw [el, ewt]; omega) (okb_t (by rw [el, ewt, ← e_v205]; exact Or.inr hnw))).trans (by rw [el, em])).symm (by rw [el, ec2, etw]; exact el2) (by rw [el, ec2, etw]; exact ew2) (by rw [el, ec2, etw]; exact x11) (by rw [el, ec2, etw]; exact x12) (by rw [el, ec2, etw]; exact x13) (by rw [el, ec2, etw]; exact x14) (by rw [el]; rw [show (16 * y.toInt + 4 * x.toInt + 2 + 1) = 16 * y.toInt + 4 * x.toInt + 3 by omega]; exact x36) (by rw [el, ec2, etw]; exact x16) x17 (by rw [el, ec2, etw]; exact x37)
                          · obtain rfl : r207 = 0 := hk_eqi.mpr (hr.trans rfl)
                            refine qm_Rp.go 2 (c' := (196, [.ref 28, .int y, .int x, .int g, .int 3, .int v121, .int 2, .int 2, .int v203, .float 0], [.int (-3)], h)) rfl ?_
                            refine qm_Rp.rt (v := (some (.int (-3)))) (h' := h) rfl ?_
                            exact k0 (-3) (unl_e ⟨by omega, by omega, by omega, by omega, by omega, by omega⟩ (by rw [el, ek, eb]; omega) (by rw [el, em]; intro z; omega) (by rw [el, ewt]; omega) (okb_f (by rw [el, ewt, ← e_v205]; exact fun z => z.elim hbo hnw))).symm (by decide)
                      · refine qm_Rp.go 1 (c' := (169, [.ref 28, .int y, .int x, .int g, .int 3, .int v121, .int 2, .int 2, .int v203, .float 0], [.int (-2)], h)) rfl ?_
                        refine qm_Rp.rt (v := (some (.int (-2)))) (h' := h) rfl ?_
                        exact k0 (-2) (unl_d ⟨by omega, by omega, by omega, by omega, by omega, by omega⟩ (by rw [el, ek, eb]; omega) (by rw [el, em]; intro z; omega) (by rw [el, ewt]; omega)).symm (by decide)
                    · refine qm_Rp.go 1 (c' := (97, [.ref 28, .int y, .int x, .int g, .int 3, .int v121, .int 2, .int 2, .float 0, .float 0], [.ref 28], h)) rfl ?_
                      refine hp_getr rfl (hH.1 28 (9, 8) rfl) rfl (hH.2 28 1 (some 15) rfl) ?_
                      refine qm_Rp.go 1 (c' := (101, [.ref 28, .int y, .int x, .int g, .int 3, .int v121, .int 2, .int 2, .float 0, .float 0], [.int g, .ref 15], h)) rfl ?_
                      refine hp_inv (o := 15) (r := []) (as := [.ref 15, .int g]) rfl rfl (hH.1 15 (15, 8) rfl) rfl rfl rfl ?_
                      refine qm_Rp.go 2 (c' := (2, [.ref 15, .int g], [.ref 15, .int 4], h)) rfl ?_
                      refine hp_getr rfl (hH.1 15 (15, 8) rfl) rfl (hH.2 15 2 (some 17) rfl) ?_
                      refine qm_Rp.go 1 (c' := (6, [.ref 15, .int g], [.int g, .ref 17, .int 4], h)) rfl ?_
                      obtain ⟨v208, q_v208⟩ : ∃ v_, h.2.1 17 g.toInt.toNat = v_ := ⟨_, rfl⟩
                      refine hp_ial (v := v208) rfl (hH.1 17 (0, 4) rfl) q_v208 (fun ia_208 ib_208 => ?_)
                      refine qm_Rp.go 0 (c' := (7, [.ref 15, .int g], [.int v208, .int 4], h)) rfl ?_
                      have eh : hi g.toInt.toNat = v208.toInt := by rw [← eI]; exact congrArg Int32.toInt q_v208
                      have bh := hi4 g.toInt.toNat
                      rw [eh] at bh
                      refine qm_Rp.go 1 (c' := (8, [.ref 15, .int g], [.int (4 - v208)], h)) rfl ?_
                      obtain ⟨v210, q_v210, e_v210⟩ := hk_sub (x := 4) (y := v208) (a := 4) (b := v208.toInt) rfl rfl (by omega) (by omega)
                      rw [q_v210]
                      refine qm_Rp.rt (v := (some (.int v210))) (h' := h) rfl ?_
                      refine qm_Rp.go 1 (c' := (106, [.ref 28, .int y, .int x, .int g, .int 3, .int v121, .int 2, .int 2, .float 0, .float 0], [.int 2, .int v210], h)) rfl ?_
                      refine hp_cge (ix := v210.toInt) (iy := 2) rfl rfl rfl (fun z211 => ?_) (fun z211 => ?_)
                      · refine qm_Rp.go 1 (c' := (112, [.ref 28, .int y, .int x, .int g, .int 3, .int v121, .int 2, .int 2, .float 0, .float 0], [.ref 28], h)) rfl ?_
                        refine hp_getr rfl (hH.1 28 (9, 8) rfl) rfl (hH.2 28 0 (some 6) rfl) ?_
                        refine qm_Rp.go 0 (c' := (115, [.ref 28, .int y, .int x, .int g, .int 3, .int v121, .int 2, .int 2, .float 0, .float 0], [.ref 6], h)) rfl ?_
                        refine hp_getr rfl (hH.1 6 (6, 9) rfl) rfl (hH.2 6 1 (some 7) rfl) ?_
                        refine qm_Rp.go 1 (c' := (120, [.ref 28, .int y, .int x, .int g, .int 3, .int v121, .int 2, .int 2, .float 0, .float 0], [.int v121, .ref 7], h)) rfl ?_
                        obtain ⟨v212, q_v212⟩ : ∃ v_, h.2.1 7 v121.toInt.toNat = v_ := ⟨_, rfl⟩
                        refine hp_ial (v := v212) rfl (hH.1 7 (0, 30) rfl) q_v212 (fun ia_212 ib_212 => ?_)
                        refine qm_Rp.go 0 (c' := (121, [.ref 28, .int y, .int x, .int g, .int 3, .int v121, .int 2, .int 2, .float 0, .float 0], [.int v212], h)) rfl ?_
                        have ew_v121 : w v121.toInt.toNat = v212.toInt := by rw [← eW]; exact congrArg Int32.toInt q_v212
                        have bw_v121 := hw v121.toInt.toNat
                        rw [ew_v121] at bw_v121
                        refine qm_Rp.go 4 (c' := (129, [.ref 28, .int y, .int x, .int g, .int 3, .int v121, .int 2, .int 2, .float 0, .float 0], [.ref 28, .int v212], h)) rfl ?_
                        refine hp_getr rfl (hH.1 28 (9, 8) rfl) rfl (hH.2 28 0 (some 6) rfl) ?_
                        refine qm_Rp.go 0 (c' := (132, [.ref 28, .int y, .int x, .int g, .int 3, .int v121, .int 2, .int 2, .float 0, .float 0], [.ref 6, .int v212], h)) rfl ?_
                        refine hp_getr rfl (hH.1 6 (6, 9) rfl) rfl (hH.2 6 1 (some 7) rfl) ?_
                        refine qm_Rp.go 1 (c' := (136, [.ref 28, .int y, .int x, .int g, .int 3, .int v121, .int 2, .int 2, .float 0, .float 0], [.ref 28, .ref 7, .int v212], h)) rfl ?_
                        refine hp_getr rfl (hH.1 28 (9, 8) rfl) rfl (hH.2 28 3 (some 36) rfl) ?_
                        refine qm_Rp.go 3 (c' := (143, [.ref 28, .int y, .int x, .int g, .int 3, .int v121, .int 2, .int 2, .float 0, .float 0], [.int 2, .int x, .int y, .ref 36, .ref 7, .int v212], h)) rfl ?_
                        refine qm_Rp.call (j := 75) (as := [.int y, .int x, .int 2]) (c' := (146, [.ref 28, .int y, .int x, .int g, .int 3, .int v121, .int 2, .int 2, .float 0, .float 0], [.ref 36, .ref 7, .int v212], h)) rfl rfl ?_
                        refine qm_Rp.go 3 (c' := (3, [.int y, .int x, .int 2], [.int (y * 4)], h)) rfl ?_
                        rw [q_v117]
                        refine qm_Rp.go 2 (c' := (5, [.int y, .int x, .int 2], [.int (v117 + x)], h)) rfl ?_
                        rw [q_v118]
                        refine qm_Rp.go 2 (c' := (7, [.int y, .int x, .int 2], [.int (v118 * 4)], h)) rfl ?_
                        rw [q_v119]
                        refine qm_Rp.go 2 (c' := (9, [.int y, .int x, .int 2], [.int (v119 + 2)], h)) rfl ?_
                        obtain ⟨v214, q_v214, e_v214⟩ := hk_add (x := v119) (y := 2) (a := v119.toInt) (b := 2) rfl rfl (by omega) (by omega)
                        rw [q_v214]
                        refine qm_Rp.rt (v := (some (.int v214))) (h' := h) rfl ?_
                        refine qm_Rp.go 0 (c' := (146, [.ref 28, .int y, .int x, .int g, .int 3, .int v121, .int 2, .int 2, .float 0, .float 0], [.int v214, .ref 36, .ref 7, .int v212], h)) rfl ?_
                        obtain ⟨v215, q_v215⟩ : ∃ v_, h.2.1 36 v214.toInt.toNat = v_ := ⟨_, rfl⟩
                        refine hp_ial (v := v215) rfl (hH.1 36 (0, 80) rfl) q_v215 (fun ia_215 ib_215 => ?_)
                        refine qm_Rp.go 0 (c' := (147, [.ref 28, .int y, .int x, .int g, .int 3, .int v121, .int 2, .int 2, .float 0, .float 0], [.int v215, .ref 7, .int v212], h)) rfl ?_
                        have etw : c (16 * y.toInt + 4 * x.toInt + 2).toNat = v215.toInt := by rw [← eC, show (16 * y.toInt + 4 * x.toInt + 2).toNat = v214.toInt.toNat by omega]; exact congrArg Int32.toInt q_v215
                        have betw := hc (16 * y.toInt + 4 * x.toInt + 2).toNat
                        rw [etw] at betw
                        have t0 := hb2 ((16 * y.toInt + 4 * x.toInt + 2).toNat / 2) (by omega) (by rw [show 2 * ((16 * y.toInt + 4 * x.toInt + 2).toNat / 2) + 1 = (16 * y.toInt + 4 * x.toInt + 3).toNat by omega, ec1]; omega)
                        rw [show 2 * ((16 * y.toInt + 4 * x.toInt + 2).toNat / 2) = (16 * y.toInt + 4 * x.toInt + 2).toNat by omega, etw] at t0
                        have ab_v215 := hA (16 * y.toInt + 4 * x.toInt + 2).toNat (by omega) (by rw [etw]; omega)
                        rw [etw] at ab_v215
                        have rb_v215 := hR v215.toInt.toNat ab_v215.1
                        have ey_v215 : yb v215.toInt.toNat = y.toInt := by omega
                        have ex_v215 : rb v215.toInt.toNat = x.toInt := by omega
                        have et_v215 : tb v215.toInt.toNat = 2 := by omega
                        have hne : v121.toInt.toNat ≠ v215.toInt.toNat := fun z => by rw [z] at et_v121; omega
                        obtain ⟨v217, q_v217⟩ : ∃ v_, h.2.1 7 v215.toInt.toNat = v_ := ⟨_, rfl⟩
                        refine hp_ial (v := v217) rfl (hH.1 7 (0, 30) rfl) q_v217 (fun ia_217 ib_217 => ?_)
                        refine qm_Rp.go 0 (c' := (148, [.ref 28, .int y, .int x, .int g, .int 3, .int v121, .int 2, .int 2, .float 0, .float 0], [.int v217, .int v212], h)) rfl ?_
                        have ew_v215 : w v215.toInt.toNat = v217.toInt := by rw [← eW]; exact congrArg Int32.toInt q_v217
                        have bw_v215 := hw v215.toInt.toNat
                        rw [ew_v215] at bw_v215
                        refine qm_Rp.go 2 (c' := (153, [.ref 28, .int y, .int x, .int g, .int 3, .int v121, .int 2, .int 2, .float 0, .float 0], [.int (v212 + v217)], h)) rfl ?_
                        obtain ⟨v219, q_v219, e_v219⟩ := hk_add (x := v212) (y := v217) (a := v212.toInt) (b := v217.toInt) rfl rfl (by omega) (by omega)
                        rw [q_v219]
                        refine qm_Rp.go 1 (c' := (155, [.ref 28, .int y, .int x, .int g, .int 3, .int v121, .int 2, .int 2, .int v219, .float 0], [], h)) rfl ?_
                        have ewt : w (c (kV c (16 * y.toInt + 4 * x.toInt + 2)).toNat).toNat + (if mV c tk (16 * y.toInt + 4 * x.toInt + 2) = 2 then w (c (16 * y.toInt + 4 * x.toInt + 2).toNat).toNat else 0) = v219.toInt := by rw [ek, eb, em, if_pos rfl, etw]; omega
                        refine qm_Rp.go 2 (c' := (158, [.ref 28, .int y, .int x, .int g, .int 3, .int v121, .int 2, .int 2, .int v219, .float 0], [.ref 28, .int v219], h)) rfl ?_
                        refine hp_getr rfl (hH.1 28 (9, 8) rfl) rfl hT ?_
                        refine qm_Rp.go 0 (c' := (161, [.ref 28, .int y, .int x, .int g, .int 3, .int v121, .int 2, .int 2, .int v219, .float 0], [.ref 111, .int v219], h)) rfl ?_
                        refine hp_geti (v := l) rfl (hH.1 111 (11, 16) rfl) rfl q_l ?_
                        refine qm_Rp.go 0 (c' := (164, [.ref 28, .int y, .int x, .int g, .int 3, .int v121, .int 2, .int 2, .int v219, .float 0], [.int l, .int v219], h)) rfl ?_
                        refine hp_cle (ix := v219.toInt) (iy := l.toInt) rfl rfl rfl (fun z220 => ?_) (fun z220 => ?_)
                        · refine qm_Rp.go 5 (c' := (176, [.ref 28, .int y, .int x, .int g, .int 3, .int v121, .int 2, .int 2, .int v219, .float 0], [.int (-v219), .int x, .int y, .ref 28], h)) rfl ?_
                          obtain ⟨v221, q_v221, e_v221⟩ := hk_neg (x := v219) (a := v219.toInt) rfl (by omega)
                          rw [q_v221]
                          refine hp_inv (o := 28) (r := []) (as := [.ref 28, .int y, .int x, .int v221]) rfl rfl (hH.1 28 (9, 8) rfl) rfl rfl rfl (px_cbo111 (m := v221) hH hT q_B hB eV hb q_ls hls q_wt hwt ⟨by omega, by omega⟩ ⟨by omega, by omega⟩ ⟨by omega, by omega⟩ q_g0 q_g1 q_g2 (fun r222 e_r222 => ?_))
                          rcases e_r222 with ⟨hr, hbo⟩ | ⟨hr, hbo⟩
                          · obtain rfl : r222 = 1 := hk_eqi.mpr (hr.trans rfl)
                            refine qm_Rp.go 1 (c' := (197, [.ref 28, .int y, .int x, .int g, .int 3, .int v121, .int 2, .int 2, .int v219, .float 0], [], h)) rfl ?_
                            refine px_cl23 hH q_ls hls q_wt hwt eW eH e12 e13 e14 eC eY eI eV hw hi4 hb ⟨by omega, by omega⟩ ⟨by omega, by omega⟩ ⟨by omega, by omega⟩ (fun z => by omega) ⟨by omega, by omega⟩ eb ey_v121 ex_v121 et_v121 ⟨by omega, by omega⟩ etw ey_v215 ex_v215 et_v215 hne (fun I l2 w2 e x28 q5 q6 el2 ew2 x11 x12 x13 x14 x36 x16 x17 x37 => ?_)
                            exact k2 I l2 w2 e x28 q5 q6 ((unl_f ⟨by omega, by omega, by omega, by omega, by omega, by omega⟩ (by rw [el, ek, eb]; omega) (by rw [el, em]; intro z; omega) (by rw [el, ewt]; omega) (okb_t (by rw [el, ewt, ← e_v221]; exact Or.inl hbo))).trans (by rw [el, em])).symm (by rw [el, ec2, etw]; exact el2) (by rw [el, ec2, etw]; exact ew2) (by rw [el, ec2, etw]; exact x11) (by rw [el, ec2, etw]; exact x12) (by rw [el, ec2, etw]; exact x13) (by rw [el, ec2, etw]; exact x14) (by rw [el]; rw [show (16 * y.toInt + 4 * x.toInt + 2 + 1) = 16 * y.toInt + 4 * x.toInt + 3 by omega]; exact x36) (by rw [el, ec2, etw]; exact x16) x17 (by rw [el, ec2, etw]; exact x37)
                          · obtain rfl : r222 = 0 := hk_eqi.mpr (hr.trans rfl)
                            refine qm_Rp.go 6 (c' := (188, [.ref 28, .int y, .int x, .int g, .int 3, .int v121, .int 2, .int 2, .int v219, .float 0], [.int (-v219), .int x, .int y, .ref 28], h)) rfl ?_
                            rw [q_v221]
                            refine hp_inv (o := 28) (r := []) (as := [.ref 28, .int y, .int x, .int v221]) rfl rfl (hH.1 28 (9, 8) rfl) rfl rfl rfl (px_cnw111 (m := v221) hH hT q_B hB eV hb q_ls hls q_wt hwt ⟨by omega, by omega⟩ ⟨by omega, by omega⟩ ⟨by omega, by omega⟩ (fun r223 e_r223 => ?_))
                            rcases e_r223 with ⟨hr, hnw⟩ | ⟨hr, hnw⟩
                            · obtain rfl : r223 = 1 := hk_eqi.mpr (hr.trans rfl)
                              refine qm_Rp.go 1 (c' := (197, [.ref 28, .int y, .int x, .int g, .int 3, .int v121, .int 2, .int 2, .int v219, .float 0], [], h)) rfl ?_
                              refine px_cl23 hH q_ls hls q_wt hwt eW eH e12 e13 e14 eC eY eI eV hw hi4 hb ⟨by omega, by omega⟩ ⟨by omega, by omega⟩ ⟨by omega, by omega⟩ (fun z => by omega) ⟨by omega, by omega⟩ eb ey_v121 ex_v121 et_v121 ⟨by omega, by omega⟩ etw ey_v215 ex_v215 et_v215 hne (fun I l2 w2 e x28 q5 q6 el2 ew2 x11 x12 x13 x14 x36 x16 x17 x37 => ?_)
                              exact k2 I l2 w2 e x28 q5 q6 ((unl_f ⟨by omega, by omega, by omega, by omega, by omega, by omega⟩ (by rw [el, ek, eb]; omega) (by rw [el, em]; intro z; omega) (by rw [el, ewt]; omega) (okb_t (by rw [el, ewt, ← e_v221]; exact Or.inr hnw))).trans (by rw [el, em])).symm (by rw [el, ec2, etw]; exact el2) (by rw [el, ec2, etw]; exact ew2) (by rw [el, ec2, etw]; exact x11) (by rw [el, ec2, etw]; exact x12) (by rw [el, ec2, etw]; exact x13) (by rw [el, ec2, etw]; exact x14) (by rw [el]; rw [show (16 * y.toInt + 4 * x.toInt + 2 + 1) = 16 * y.toInt + 4 * x.toInt + 3 by omega]; exact x36) (by rw [el, ec2, etw]; exact x16) x17 (by rw [el, ec2, etw]; exact x37)
                            · obtain rfl : r223 = 0 := hk_eqi.mpr (hr.trans rfl)
                              refine qm_Rp.go 2 (c' := (196, [.ref 28, .int y, .int x, .int g, .int 3, .int v121, .int 2, .int 2, .int v219, .float 0], [.int (-3)], h)) rfl ?_
                              refine qm_Rp.rt (v := (some (.int (-3)))) (h' := h) rfl ?_
                              exact k0 (-3) (unl_e ⟨by omega, by omega, by omega, by omega, by omega, by omega⟩ (by rw [el, ek, eb]; omega) (by rw [el, em]; intro z; omega) (by rw [el, ewt]; omega) (okb_f (by rw [el, ewt, ← e_v221]; exact fun z => z.elim hbo hnw))).symm (by decide)
                        · refine qm_Rp.go 1 (c' := (169, [.ref 28, .int y, .int x, .int g, .int 3, .int v121, .int 2, .int 2, .int v219, .float 0], [.int (-2)], h)) rfl ?_
                          refine qm_Rp.rt (v := (some (.int (-2)))) (h' := h) rfl ?_
                          exact k0 (-2) (unl_d ⟨by omega, by omega, by omega, by omega, by omega, by omega⟩ (by rw [el, ek, eb]; omega) (by rw [el, em]; intro z; omega) (by rw [el, ewt]; omega)).symm (by decide)
                      · refine qm_Rp.go 1 (c' := (110, [.ref 28, .int y, .int x, .int g, .int 3, .int v121, .int 2, .int 2, .float 0, .float 0], [.int (-1)], h)) rfl ?_
                        refine qm_Rp.rt (v := (some (.int (-1)))) (h' := h) rfl ?_
                        exact k0 (-1) (unl_c ⟨by omega, by omega, by omega, by omega, by omega, by omega⟩ (by rw [el, ek, eb]; omega) ⟨by omega, by rw [el, em]; omega⟩).symm (by decide)
