set_option maxHeartbeats 20000000 in
theorem px_rul {X : Option (Nat × (Nat → Int32))} {Z : Option Value → qm_H → Prop} {h : qm_H} (hH : hk_H h) {B : Nat → Int32} {n : Nat} (hA : rAll B n h.2.1 h.2.2.1) {td nm lf lp b li tr be lt pr pl : Int} {T : Nat → Int64} {r tk : Int32} (k0 : ∀ (I : Nat → Nat → Int32) (t : Int32) (pr2 pl2 : Int), (∀ o, [118, 134, 135, 136, 137, 138, 139, 140, 141, 142, 143].contains o = false → ∀ i, I o i = h.2.1 o i) → (∀ i, [11, 12, 13, 14, 30, 37, 41].contains i = false → I 118 i = h.2.1 118 i) → I 118 11 = t → I 118 12 = 0 → I 118 13 = 0 → 0 ≤ t.toInt → pr2 = f12 9 td 27 pr → pl2 = f13 9 td 27 pl → fS B n t.toInt.toNat = some (0, td, 0, 1, nm, lf, lp, b, li, tr, be, lt, pr2, pl2, T) → Z none (h.1, I, h.2.2.1, h.2.2.2)) (k1 : ∀ (I : Nat → Nat → Int32) (f fp : Int32), (∀ o, [118, 134, 135, 136, 137, 138, 139, 140, 141, 142, 143].contains o = false → ∀ i, I o i = h.2.1 o i) → (∀ i, [11, 12, 13, 14, 30, 37, 41].contains i = false → I 118 i = h.2.1 118 i) → I 118 13 = f → I 118 14 = fp → rfin B n f fp → Z none (h.1, I, h.2.2.1, h.2.2.2)) : ∀ (fu : Nat) (I : Nat → Nat → Int32) (t w : Int32), ((∀ o, [118, 134, 135, 136, 137, 138, 139, 140, 141, 142, 143].contains o = false → ∀ i, I o i = h.2.1 o i)) → ((∀ i, [11, 12, 13, 14, 30, 37, 41].contains i = false → I 118 i = h.2.1 118 i)) → (I 118 11 = t) → (I 118 12 = 0) → (I 118 13 = 0) → (0 ≤ t.toInt) → (fS B n t.toInt.toNat = some (7, td, 0, 0, nm, lf, lp, b, li, tr, be, lt, pr, pl, T)) → (0 ≤ w.toInt ∧ w.toInt ≤ 1) → qm_Rp fu X cd_262 (113, [.ref 118, .int r, .int tk, .int w, .int 1], [], (h.1, I, h.2.2.1, h.2.2.2)) Z := by
  intro fu
  induction fu using Nat.strongRecOn with
  | ind fu ih =>
    intro I t w e e8 q_t q_op q_f ht0 hF hw
    have kz0 : (0 : Int32).toInt = 0 := rfl
    have kz1 : (1 : Int32).toInt = 1 := rfl
    have kz2 : (2 : Int32).toInt = 2 := rfl
    have kz3 : (3 : Int32).toInt = 3 := rfl
    have kz4 : (4 : Int32).toInt = 4 := rfl
    have kz5 : (5 : Int32).toInt = 5 := rfl
    have kz6 : (6 : Int32).toInt = 6 := rfl
    have kz7 : (7 : Int32).toInt = 7 := rfl
    have kz8 : (8 : Int32).toInt = 8 := rfl
    have kz9 : (9 : Int32).toInt = 9 := rfl
    have kzm1 : ((-1) : Int32).toInt = (-1) := rfl
    have kzm2 : ((-2) : Int32).toInt = (-2) := rfl
    have kzm3 : ((-3) : Int32).toInt = (-3) := rfl
    obtain ⟨kv1, q_kv1⟩ : ∃ v_, h.2.1 121 t.toInt.toNat = v_ := ⟨_, rfl⟩
    obtain ⟨pv2, q_pv2⟩ : ∃ v_, h.2.1 122 t.toInt.toNat = v_ := ⟨_, rfl⟩
    obtain ⟨ht_kv1, hp_kv1, h4_kv1⟩ := rAll_at hA hF q_kv1 q_pv2
    have hkb_kv1 := rTk_b ht_kv1
    have htb_kv1 := q_le ht0 h4_kv1
    obtain ⟨g0, g1, ⟨g2, g2b, g2c⟩, g3, ⟨g4, g4b, g4c⟩, ⟨g5, g5b, g5c⟩, ⟨g6, g6b⟩, g7, g8, g9⟩ := fS_b _ _ _ _ _ _ _ _ _ _ _ _ _ _ _ _ hF
    have g1 : hid _ := g1
    have g2c : hid _ := g2c
    have g3 : hid _ := g3
    have g4c : hid _ := g4c
    have g5c : hid _ := g5c
    have g6 : hid _ := g6
    have g6b : hid _ := g6b
    have g7 : hid _ := g7
    refine qm_Rp.go1 2 (c' := (119, [.ref 118, .int r, .int tk, .int w, .int 1], [.ref 118], (h.1, I, h.2.2.1, h.2.2.2))) rfl (fun g hg => ?_)
    refine hp_geti (v := 0) rfl (hH.1 118 (17, 105) rfl) rfl q_f ?_
    refine qm_Rp.go 3 (c' := (127, [.ref 118, .int r, .int tk, .int w, .int 1], [.int w, .ref 118], (h.1, I, h.2.2.1, h.2.2.2))) rfl ?_
    have hA9 : rAll B n (I) (h.2.2.1) := rAll_cg hA (fun o ho i => ((e o (r_ni ho rfl) i).trans rfl)) (fun i => rfl)
    refine hp_inv (o := 118) (r := []) (as := [.ref 118, .int w]) rfl rfl (hH.1 118 (17, 105) rfl) rfl rfl rfl (px_li (h := (h.1, I, h.2.2.1, h.2.2.2)) hH hA9 hw rfl q_op (fun I3 t4 e_I3 e8_I3 q_t4 o_I3 f_I3 t0_t4 hF9 nk_t4 => ?_) (fun I5 f6 fp7 op8 e_I5 e8_I5 q_op8 q_f6 q_fp7 rf10 => ?_) q_t q_f ht0 hF)
    · have e_I3 : (∀ o, [118, 135, 136, 137, 138, 139, 140, 141, 142, 143].contains o = false → ∀ i, I3 o i = (I) o i) := e_I3
      have e8_I3 : (∀ i, [11, 12, 13, 14, 30, 37, 41].contains i = false → I3 118 i = (I) 118 i) := e8_I3
      have nk_t4 : hid _ := nk_t4
      obtain ⟨kv11, q_kv11⟩ : ∃ v_, h.2.1 121 t4.toInt.toNat = v_ := ⟨_, rfl⟩
      obtain ⟨pv12, q_pv12⟩ : ∃ v_, h.2.1 122 t4.toInt.toNat = v_ := ⟨_, rfl⟩
      obtain ⟨ht_kv11, hp_kv11, h4_kv11⟩ := rAll_at hA hF9 q_kv11 q_pv12
      have hkb_kv11 := rTk_b ht_kv11
      have htb_kv11 := q_le t0_t4 h4_kv11
      refine qm_Rp.go 2 (c' := (133, [.ref 118, .int r, .int tk, .int w, .int 1], [.int 29, .ref 118], (h.1, I3, h.2.2.1, h.2.2.2))) rfl ?_
      refine hp_inv (o := 118) (r := []) (as := [.ref 118, .int 29]) rfl rfl (hH.1 118 (17, 105) rfl) rfl rfl rfl ?_
      refine qm_Rp.go 1 (c' := (1, [.ref 118, .int 29], [.ref 118], (h.1, I3, h.2.2.1, h.2.2.2))) rfl ?_
      refine hp_geti (v := 0) rfl (hH.1 118 (17, 105) rfl) rfl f_I3 ?_
      refine qm_Rp.go 2 (c' := (8, [.ref 118, .int 29], [.ref 118], (h.1, I3, h.2.2.1, h.2.2.2))) rfl ?_
      refine hp_getr rfl (hH.1 118 (17, 105) rfl) rfl (hH.2 118 5 (some 121) rfl) ?_
      refine qm_Rp.go 1 (c' := (12, [.ref 118, .int 29], [.ref 118, .ref 121], (h.1, I3, h.2.2.1, h.2.2.2))) rfl ?_
      refine hp_geti (v := t4) rfl (hH.1 118 (17, 105) rfl) rfl q_t4 ?_
      refine qm_Rp.go 0 (c' := (15, [.ref 118, .int 29], [.int t4, .ref 121], (h.1, I3, h.2.2.1, h.2.2.2))) rfl ?_
      refine hp_ial (v := kv11) rfl (hH.1 121 (0, 403) rfl) (show (I3) 121 t4.toInt.toNat = _ from ((e_I3 121 rfl t4.toInt.toNat).trans ((e 121 rfl t4.toInt.toNat).trans q_kv11))) (fun ia_12 ib_12 => ?_)
      refine qm_Rp.go 1 (c' := (17, [.ref 118, .int 29], [.int 29, .int kv11], (h.1, I3, h.2.2.1, h.2.2.2))) rfl ?_
      refine hp_cne (ix := kv11.toInt) (iy := 29) rfl rfl rfl (fun (z14 : hid (kv11.toInt ≠ 29)) => ?_) (fun z14 => ?_)
      · refine qm_Rp.go 1 (c' := (25, [.ref 118, .int 29], [.int 0], (h.1, I3, h.2.2.1, h.2.2.2))) rfl ?_
        refine qm_Rp.rt (v := (some (.int 0))) (h' := (h.1, I3, h.2.2.1, h.2.2.2)) rfl ?_
        refine qm_Rp.go 5 (c' := (144, [.ref 118, .int r, .int tk, .int 0, .int 1], [.int 30, .ref 118], (h.1, I3, h.2.2.1, h.2.2.2))) rfl ?_
        refine hp_inv (o := 118) (r := []) (as := [.ref 118, .int 30]) rfl rfl (hH.1 118 (17, 105) rfl) rfl rfl rfl ?_
        refine qm_Rp.go 1 (c' := (1, [.ref 118, .int 30], [.ref 118], (h.1, I3, h.2.2.1, h.2.2.2))) rfl ?_
        refine hp_geti (v := 0) rfl (hH.1 118 (17, 105) rfl) rfl f_I3 ?_
        refine qm_Rp.go 2 (c' := (8, [.ref 118, .int 30], [.ref 118], (h.1, I3, h.2.2.1, h.2.2.2))) rfl ?_
        refine hp_getr rfl (hH.1 118 (17, 105) rfl) rfl (hH.2 118 5 (some 121) rfl) ?_
        refine qm_Rp.go 1 (c' := (12, [.ref 118, .int 30], [.ref 118, .ref 121], (h.1, I3, h.2.2.1, h.2.2.2))) rfl ?_
        refine hp_geti (v := t4) rfl (hH.1 118 (17, 105) rfl) rfl q_t4 ?_
        refine qm_Rp.go 0 (c' := (15, [.ref 118, .int 30], [.int t4, .ref 121], (h.1, I3, h.2.2.1, h.2.2.2))) rfl ?_
        refine hp_ial (v := kv11) rfl (hH.1 121 (0, 403) rfl) (show (I3) 121 t4.toInt.toNat = _ from ((e_I3 121 rfl t4.toInt.toNat).trans ((e 121 rfl t4.toInt.toNat).trans q_kv11))) (fun ia_14 ib_14 => ?_)
        refine qm_Rp.go 1 (c' := (17, [.ref 118, .int 30], [.int 30, .int kv11], (h.1, I3, h.2.2.1, h.2.2.2))) rfl ?_
        refine hp_cne (ix := kv11.toInt) (iy := 30) rfl rfl rfl (fun (z16 : hid (kv11.toInt ≠ 30)) => ?_) (fun z16 => ?_)
        · refine qm_Rp.go 1 (c' := (25, [.ref 118, .int 30], [.int 0], (h.1, I3, h.2.2.1, h.2.2.2))) rfl ?_
          refine qm_Rp.rt (v := (some (.int 0))) (h' := (h.1, I3, h.2.2.1, h.2.2.2)) rfl ?_
          refine qm_Rp.go 5 (c' := (113, [.ref 118, .int r, .int tk, .int 0, .int 0], [], (h.1, I3, h.2.2.1, h.2.2.2))) rfl ?_
          refine qm_Rp.go 3 (c' := (170, [.ref 118, .int r, .int tk, .int 0, .int 0], [.ref 118], (h.1, I3, h.2.2.1, h.2.2.2))) rfl ?_
          refine hp_getr rfl (hH.1 118 (17, 105) rfl) rfl (hH.2 118 29 (some 134) rfl) ?_
          refine qm_Rp.go 2 (c' := (175, [.ref 118, .int r, .int tk, .int 0, .int 0], [.ref 118, .int r, .ref 134], (h.1, I3, h.2.2.1, h.2.2.2))) rfl ?_
          obtain ⟨v17, q_v17⟩ : ∃ v_, I3 118 30 = v_ := ⟨_, rfl⟩
          refine hp_geti (v := v17) rfl (hH.1 118 (17, 105) rfl) rfl q_v17 ?_
          refine qm_Rp.go 0 (c' := (178, [.ref 118, .int r, .int tk, .int 0, .int 0], [.int v17, .int r, .ref 134], (h.1, I3, h.2.2.1, h.2.2.2))) rfl ?_
          refine hp_ias rfl (hH.1 134 (0, 32) rfl) (fun ia_17 ib_17 => ?_)
          refine qm_Rp.go 0 (c' := (179, [.ref 118, .int r, .int tk, .int 0, .int 0], [], (h.1, qm_up I3 134 r.toInt.toNat v17, h.2.2.1, h.2.2.2))) rfl ?_
          refine qm_Rp.go 2 (c' := (181, [.ref 118, .int r, .int tk, .int 0, .int 0], [.int 4, .ref 118], (h.1, qm_up I3 134 r.toInt.toNat v17, h.2.2.1, h.2.2.2))) rfl ?_
          refine hp_inv (o := 118) (r := []) (as := [.ref 118, .int 4]) rfl rfl (hH.1 118 (17, 105) rfl) rfl rfl rfl ?_
          refine qm_Rp.go 2 (c' := (2, [.ref 118, .int 4], [.int 4, .ref 118], (h.1, qm_up I3 134 r.toInt.toNat v17, h.2.2.1, h.2.2.2))) rfl ?_
          refine hp_inv (o := 118) (r := []) (as := [.ref 118, .int 4]) rfl rfl (hH.1 118 (17, 105) rfl) rfl rfl rfl ?_
          refine qm_Rp.go 1 (c' := (1, [.ref 118, .int 4], [.ref 118], (h.1, qm_up I3 134 r.toInt.toNat v17, h.2.2.1, h.2.2.2))) rfl ?_
          refine hp_geti (v := 0) rfl (hH.1 118 (17, 105) rfl) rfl (show (qm_up I3 134 r.toInt.toNat v17) 118 13 = _ from ((hk_ot rfl).trans f_I3)) ?_
          refine qm_Rp.go 2 (c' := (8, [.ref 118, .int 4], [.ref 118], (h.1, qm_up I3 134 r.toInt.toNat v17, h.2.2.1, h.2.2.2))) rfl ?_
          refine hp_getr rfl (hH.1 118 (17, 105) rfl) rfl (hH.2 118 5 (some 121) rfl) ?_
          refine qm_Rp.go 1 (c' := (12, [.ref 118, .int 4], [.ref 118, .ref 121], (h.1, qm_up I3 134 r.toInt.toNat v17, h.2.2.1, h.2.2.2))) rfl ?_
          refine hp_geti (v := t4) rfl (hH.1 118 (17, 105) rfl) rfl (show (qm_up I3 134 r.toInt.toNat v17) 118 11 = _ from ((hk_ot rfl).trans q_t4)) ?_
          refine qm_Rp.go 0 (c' := (15, [.ref 118, .int 4], [.int t4, .ref 121], (h.1, qm_up I3 134 r.toInt.toNat v17, h.2.2.1, h.2.2.2))) rfl ?_
          refine hp_ial (v := kv11) rfl (hH.1 121 (0, 403) rfl) (show (qm_up I3 134 r.toInt.toNat v17) 121 t4.toInt.toNat = _ from ((hk_ot rfl).trans ((e_I3 121 rfl t4.toInt.toNat).trans ((e 121 rfl t4.toInt.toNat).trans q_kv11)))) (fun ia_18 ib_18 => ?_)
          refine qm_Rp.go 1 (c' := (17, [.ref 118, .int 4], [.int 4, .int kv11], (h.1, qm_up I3 134 r.toInt.toNat v17, h.2.2.1, h.2.2.2))) rfl ?_
          refine hp_cne (ix := kv11.toInt) (iy := 4) rfl rfl rfl (fun (z20 : hid (kv11.toInt ≠ 4)) => ?_) (fun z20 => ?_)
          · refine qm_Rp.go 1 (c' := (25, [.ref 118, .int 4], [.int 0], (h.1, qm_up I3 134 r.toInt.toNat v17, h.2.2.1, h.2.2.2))) rfl ?_
            refine qm_Rp.rt (v := (some (.int 0))) (h' := (h.1, qm_up I3 134 r.toInt.toNat v17, h.2.2.1, h.2.2.2)) rfl ?_
            refine qm_Rp.go 3 (c' := (17, [.ref 118, .int 4], [.int 1, .ref 118], (h.1, qm_up I3 134 r.toInt.toNat v17, h.2.2.1, h.2.2.2))) rfl ?_
            refine hp_inv (o := 118) (r := []) (as := [.ref 118, .int 1]) rfl rfl (hH.1 118 (17, 105) rfl) rfl rfl rfl ?_
            refine qm_Rp.go 1 (c' := (1, [.ref 118, .int 1], [.ref 118], (h.1, qm_up I3 134 r.toInt.toNat v17, h.2.2.1, h.2.2.2))) rfl ?_
            refine hp_geti (v := 0) rfl (hH.1 118 (17, 105) rfl) rfl (show (qm_up I3 134 r.toInt.toNat v17) 118 13 = _ from ((hk_ot rfl).trans f_I3)) ?_
            refine qm_Rp.go 3 (c' := (10, [.ref 118, .int 1], [.int 1, .ref 118], (h.1, qm_up I3 134 r.toInt.toNat v17, h.2.2.1, h.2.2.2))) rfl ?_
            refine hp_puti rfl (hH.1 118 (17, 105) rfl) rfl ?_
            refine qm_Rp.go 2 (c' := (15, [.ref 118, .int 1], [.ref 118, .ref 118], (h.1, qm_up (qm_up I3 134 r.toInt.toNat v17) 118 13 1, h.2.2.1, h.2.2.2))) rfl ?_
            refine hp_getr rfl (hH.1 118 (17, 105) rfl) rfl (hH.2 118 6 (some 122) rfl) ?_
            refine qm_Rp.go 1 (c' := (19, [.ref 118, .int 1], [.ref 118, .ref 122, .ref 118], (h.1, qm_up (qm_up I3 134 r.toInt.toNat v17) 118 13 1, h.2.2.1, h.2.2.2))) rfl ?_
            refine hp_geti (v := t4) rfl (hH.1 118 (17, 105) rfl) rfl (show (qm_up (qm_up I3 134 r.toInt.toNat v17) 118 13 1) 118 11 = _ from ((hk_neq (by decide)).trans ((hk_ot rfl).trans q_t4))) ?_
            refine qm_Rp.go 0 (c' := (22, [.ref 118, .int 1], [.int t4, .ref 122, .ref 118], (h.1, qm_up (qm_up I3 134 r.toInt.toNat v17) 118 13 1, h.2.2.1, h.2.2.2))) rfl ?_
            refine hp_ial (v := pv12) rfl (hH.1 122 (0, 403) rfl) (show (qm_up (qm_up I3 134 r.toInt.toNat v17) 118 13 1) 122 t4.toInt.toNat = _ from ((hk_ot rfl).trans ((hk_ot rfl).trans ((e_I3 122 rfl t4.toInt.toNat).trans ((e 122 rfl t4.toInt.toNat).trans q_pv12))))) (fun ia_20 ib_20 => ?_)
            refine qm_Rp.go 0 (c' := (23, [.ref 118, .int 1], [.int pv12, .ref 118], (h.1, qm_up (qm_up I3 134 r.toInt.toNat v17) 118 13 1, h.2.2.1, h.2.2.2))) rfl ?_
            refine hp_puti rfl (hH.1 118 (17, 105) rfl) rfl ?_
            refine qm_Rp.go 0 (c' := (26, [.ref 118, .int 1], [], (h.1, qm_up (qm_up (qm_up I3 134 r.toInt.toNat v17) 118 13 1) 118 14 pv12, h.2.2.1, h.2.2.2))) rfl ?_
            refine qm_Rp.rt (v := none) (h' := (h.1, qm_up (qm_up (qm_up I3 134 r.toInt.toNat v17) 118 13 1) 118 14 pv12, h.2.2.1, h.2.2.2)) rfl ?_
            refine qm_Rp.go 0 (c' := (20, [.ref 118, .int 4], [], (h.1, qm_up (qm_up (qm_up I3 134 r.toInt.toNat v17) 118 13 1) 118 14 pv12, h.2.2.1, h.2.2.2))) rfl ?_
            refine qm_Rp.rt (v := none) (h' := (h.1, qm_up (qm_up (qm_up I3 134 r.toInt.toNat v17) 118 13 1) 118 14 pv12, h.2.2.1, h.2.2.2)) rfl ?_
            refine qm_Rp.go 0 (c' := (184, [.ref 118, .int r, .int tk, .int 0, .int 0], [], (h.1, qm_up (qm_up (qm_up I3 134 r.toInt.toNat v17) 118 13 1) 118 14 pv12, h.2.2.1, h.2.2.2))) rfl ?_
            refine qm_Rp.rt (v := none) (h' := (h.1, qm_up (qm_up (qm_up I3 134 r.toInt.toNat v17) 118 13 1) 118 14 pv12, h.2.2.1, h.2.2.2)) rfl ?_
            have kq23 : tK B n t4.toInt.toNat ≠ 9 ∧ tK B n t4.toInt.toNat ≠ 10 ∧ tK B n t4.toInt.toNat ≠ 27 := rTk_P (P := fun x => x ≠ 29 ∧ x ≠ 30 ∧ x ≠ 4) (Q := fun d => d ≠ 9 ∧ d ≠ 10 ∧ d ≠ 27) ht_kv11 (by decide +kernel) ⟨z14, z16, z20⟩
            have rf22 : rfin B n 1 pv12 := r_9n hF9 rfl rfl rfl nk_t4 kq23 rfl hp_kv11
            exact k1 (qm_up (qm_up (qm_up I3 134 r.toInt.toNat v17) 118 13 1) 118 14 pv12) 1 pv12 (fun o ho i => ((hk_mod ho rfl).trans ((hk_mod ho rfl).trans ((hk_mod ho rfl).trans ((e_I3 o (hk_ms rfl ho) i).trans ((e o (hk_ms rfl ho) i).trans rfl)))))) (fun i hi => ((hk_neq (fun z => by subst z; cases hi)).trans ((hk_neq (fun z => by subst z; cases hi)).trans ((hk_ot rfl).trans ((e8_I3 i (hk_ms rfl hi)).trans ((e8 i (hk_ms rfl hi)).trans rfl)))))) (show (qm_up (qm_up (qm_up I3 134 r.toInt.toNat v17) 118 13 1) 118 14 pv12) 118 13 = _ from ((hk_neq (by decide)).trans (hk_same))) (show (qm_up (qm_up (qm_up I3 134 r.toInt.toNat v17) 118 13 1) 118 14 pv12) 118 14 = _ from (hk_same)) rf22
          · refine qm_Rp.go 2 (c' := (25, [.ref 118, .int 4], [.int 1], (h.1, qm_up I3 134 r.toInt.toNat v17, h.2.2.1, h.2.2.2))) rfl ?_
            refine qm_Rp.rt (v := (some (.int 1))) (h' := (h.1, qm_up I3 134 r.toInt.toNat v17, h.2.2.1, h.2.2.2)) rfl ?_
            refine qm_Rp.go 2 (c' := (9, [.ref 118, .int 4], [.ref 118], (h.1, qm_up I3 134 r.toInt.toNat v17, h.2.2.1, h.2.2.2))) rfl ?_
            refine hp_inv (o := 118) (r := []) (as := [.ref 118]) rfl rfl (hH.1 118 (17, 105) rfl) rfl rfl rfl (px_go (h := (h.1, qm_up I3 134 r.toInt.toNat v17, h.2.2.1, h.2.2.2)) hH (show (qm_up I3 134 r.toInt.toNat v17) 118 11 = _ from ((hk_ot rfl).trans q_t4)) (show (qm_up I3 134 r.toInt.toNat v17) 118 13 = _ from ((hk_ot rfl).trans f_I3)) htb_kv11 (fun fp24 q_fp24 x4_fp24 => ?_) (fun t25 e_t25 x4_t25 => ?_))
            · have ex_fp24 : fp24 = pv12 := (q_fp24.symm.trans (show (qm_up I3 134 r.toInt.toNat v17) 122 t4.toInt.toNat = _ from ((hk_ot rfl).trans ((e_I3 122 rfl t4.toInt.toNat).trans ((e 122 rfl t4.toInt.toNat).trans q_pv12)))))
              have kq26 : tK B n t4.toInt.toNat ≠ 37 := rTk_P (P := fun x => x ≠ 29 ∧ x ≠ 30 ∧ x = 4) (Q := fun d => d ≠ 37) ht_kv11 (by decide +kernel) ⟨z14, z16, z20⟩
              have kq27 : tK B n t4.toInt.toNat = 27 := rTk_P (P := fun x => x ≠ 29 ∧ x ≠ 30 ∧ x = 4) (Q := fun d => d = 27) ht_kv11 (by decide +kernel) ⟨z14, z16, z20⟩
              have rf28 : rfin B n 2 fp24 := r2_go hF9 kq26 (fo_9e ⟨rfl, Int.le_refl _, (by decide), kq27⟩) (by decide) x4_fp24 rfl ((congrArg Int32.toInt ex_fp24).trans hp_kv11)
              refine qm_Rp.go 1 (c' := (20, [.ref 118, .int 4], [], (h.1, qm_up (qm_up (qm_up I3 134 r.toInt.toNat v17) 118 13 2) 118 14 fp24, h.2.2.1, h.2.2.2))) rfl ?_
              refine qm_Rp.rt (v := none) (h' := (h.1, qm_up (qm_up (qm_up I3 134 r.toInt.toNat v17) 118 13 2) 118 14 fp24, h.2.2.1, h.2.2.2)) rfl ?_
              refine qm_Rp.go 0 (c' := (184, [.ref 118, .int r, .int tk, .int 0, .int 0], [], (h.1, qm_up (qm_up (qm_up I3 134 r.toInt.toNat v17) 118 13 2) 118 14 fp24, h.2.2.1, h.2.2.2))) rfl ?_
              refine qm_Rp.rt (v := none) (h' := (h.1, qm_up (qm_up (qm_up I3 134 r.toInt.toNat v17) 118 13 2) 118 14 fp24, h.2.2.1, h.2.2.2)) rfl ?_
              exact k1 (qm_up (qm_up (qm_up I3 134 r.toInt.toNat v17) 118 13 2) 118 14 fp24) 2 fp24 (fun o ho i => ((hk_mod ho rfl).trans ((hk_mod ho rfl).trans ((hk_mod ho rfl).trans ((e_I3 o (hk_ms rfl ho) i).trans ((e o (hk_ms rfl ho) i).trans rfl)))))) (fun i hi => ((hk_neq (fun z => by subst z; cases hi)).trans ((hk_neq (fun z => by subst z; cases hi)).trans ((hk_ot rfl).trans ((e8_I3 i (hk_ms rfl hi)).trans ((e8 i (hk_ms rfl hi)).trans rfl)))))) (show (qm_up (qm_up (qm_up I3 134 r.toInt.toNat v17) 118 13 2) 118 14 fp24) 118 13 = _ from ((hk_neq (by decide)).trans (hk_same))) (show (qm_up (qm_up (qm_up I3 134 r.toInt.toNat v17) 118 13 2) 118 14 fp24) 118 14 = _ from (hk_same)) rf28
            · have t0_t25 := q_t0 e_t25 t0_t4
              have kq30 : tK B n t4.toInt.toNat = 27 := rTk_P (P := fun x => x ≠ 29 ∧ x ≠ 30 ∧ x = 4) (Q := fun d => d = 27) ht_kv11 (by decide +kernel) ⟨z14, z16, z20⟩
              have kq31 : tK B n t4.toInt.toNat ≠ 35 ∧ tK B n t4.toInt.toNat ≠ 6 ∧ tK B n t4.toInt.toNat ≠ 7 := rTk_P (P := fun x => x ≠ 29 ∧ x ≠ 30 ∧ x = 4) (Q := fun d => d ≠ 35 ∧ d ≠ 6 ∧ d ≠ 7) ht_kv11 (by decide +kernel) ⟨z14, z16, z20⟩
              have hF29 := fS_s9 (m2 := t25.toInt.toNat) hF9 kq30 (q_m4 t0_t4 x4_t25) (q_nf kq31) rfl rfl (q_m t0_t4 e_t25)
              have kq32 : tK B n t4.toInt.toNat = 27 := rTk_P (P := fun x => x ≠ 29 ∧ x ≠ 30 ∧ x = 4) (Q := fun d => d = 27) ht_kv11 (by decide +kernel) ⟨z14, z16, z20⟩
              refine qm_Rp.go 1 (c' := (20, [.ref 118, .int 4], [], (h.1, qm_up (qm_up I3 134 r.toInt.toNat v17) 118 11 t25, h.2.2.1, h.2.2.2))) rfl ?_
              refine qm_Rp.rt (v := none) (h' := (h.1, qm_up (qm_up I3 134 r.toInt.toNat v17) 118 11 t25, h.2.2.1, h.2.2.2)) rfl ?_
              refine qm_Rp.go 0 (c' := (184, [.ref 118, .int r, .int tk, .int 0, .int 0], [], (h.1, qm_up (qm_up I3 134 r.toInt.toNat v17) 118 11 t25, h.2.2.1, h.2.2.2))) rfl ?_
              refine qm_Rp.rt (v := none) (h' := (h.1, qm_up (qm_up I3 134 r.toInt.toNat v17) 118 11 t25, h.2.2.1, h.2.2.2)) rfl ?_
              exact k0 (qm_up (qm_up I3 134 r.toInt.toNat v17) 118 11 t25) t25 _ _ (fun o ho i => ((hk_mod ho rfl).trans ((hk_mod ho rfl).trans ((e_I3 o (hk_ms rfl ho) i).trans ((e o (hk_ms rfl ho) i).trans rfl))))) (fun i hi => ((hk_neq (fun z => by subst z; cases hi)).trans ((hk_ot rfl).trans ((e8_I3 i (hk_ms rfl hi)).trans ((e8 i (hk_ms rfl hi)).trans rfl))))) (show (qm_up (qm_up I3 134 r.toInt.toNat v17) 118 11 t25) 118 11 = _ from (hk_same)) (show (qm_up (qm_up I3 134 r.toInt.toNat v17) 118 11 t25) 118 12 = _ from ((hk_neq (by decide)).trans ((hk_ot rfl).trans o_I3))) (show (qm_up (qm_up I3 134 r.toInt.toNat v17) 118 11 t25) 118 13 = _ from ((hk_neq (by decide)).trans ((hk_ot rfl).trans f_I3))) t0_t25 (by rw [kq32]) (by rw [kq32]) hF29
        · refine qm_Rp.go 2 (c' := (25, [.ref 118, .int 30], [.int 1], (h.1, I3, h.2.2.1, h.2.2.2))) rfl ?_
          refine qm_Rp.rt (v := (some (.int 1))) (h' := (h.1, I3, h.2.2.1, h.2.2.2)) rfl ?_
          refine qm_Rp.go 6 (c' := (162, [.ref 118, .int r, .int tk, .int 0, .int 1], [], (h.1, I3, h.2.2.1, h.2.2.2))) rfl ?_
          refine qm_Rp.go 1 (c' := (163, [.ref 118, .int r, .int tk, .int 0, .int 1], [.ref 118], (h.1, I3, h.2.2.1, h.2.2.2))) rfl ?_
          refine hp_inv (o := 118) (r := []) (as := [.ref 118]) rfl rfl (hH.1 118 (17, 105) rfl) rfl rfl rfl (px_go (h := (h.1, I3, h.2.2.1, h.2.2.2)) hH q_t4 f_I3 htb_kv11 (fun fp33 q_fp33 x4_fp33 => ?_) (fun t34 e_t34 x4_t34 => ?_))
          · have ex_fp33 : fp33 = pv12 := (q_fp33.symm.trans (show (I3) 122 t4.toInt.toNat = _ from ((e_I3 122 rfl t4.toInt.toNat).trans ((e 122 rfl t4.toInt.toNat).trans q_pv12))))
            have kq35 : tK B n t4.toInt.toNat ≠ 37 := rTk_P (P := fun x => x ≠ 29 ∧ x = 30) (Q := fun d => d ≠ 37) ht_kv11 (by decide +kernel) ⟨z14, z16⟩
            have kq36 : tK B n t4.toInt.toNat = 9 ∨ tK B n t4.toInt.toNat = 10 := rTk_P (P := fun x => x ≠ 29 ∧ x = 30) (Q := fun d => d = 9 ∨ d = 10) ht_kv11 (by decide +kernel) ⟨z14, z16⟩
            have rf37 : rfin B n 2 fp33 := r2_go hF9 kq35 (fo_9d ⟨rfl, Int.le_refl _, (by decide), kq36⟩) (by decide) x4_fp33 rfl ((congrArg Int32.toInt ex_fp33).trans hp_kv11)
            refine qm_Rp.go 1 (c' := (113, [.ref 118, .int r, .int tk, .int 0, .int 1], [], (h.1, qm_up (qm_up I3 118 13 2) 118 14 fp33, h.2.2.1, h.2.2.2))) rfl ?_
            refine qm_Rp.go 3 (c' := (119, [.ref 118, .int r, .int tk, .int 0, .int 1], [.ref 118], (h.1, qm_up (qm_up I3 118 13 2) 118 14 fp33, h.2.2.1, h.2.2.2))) rfl ?_
            refine hp_geti (v := 2) rfl (hH.1 118 (17, 105) rfl) rfl (show (qm_up (qm_up I3 118 13 2) 118 14 fp33) 118 13 = _ from ((hk_neq (by decide)).trans (hk_same))) ?_
            refine qm_Rp.go 2 (c' := (170, [.ref 118, .int r, .int tk, .int 0, .int 1], [.ref 118], (h.1, qm_up (qm_up I3 118 13 2) 118 14 fp33, h.2.2.1, h.2.2.2))) rfl ?_
            refine hp_getr rfl (hH.1 118 (17, 105) rfl) rfl (hH.2 118 29 (some 134) rfl) ?_
            refine qm_Rp.go 2 (c' := (175, [.ref 118, .int r, .int tk, .int 0, .int 1], [.ref 118, .int r, .ref 134], (h.1, qm_up (qm_up I3 118 13 2) 118 14 fp33, h.2.2.1, h.2.2.2))) rfl ?_
            obtain ⟨v38, q_v38⟩ : ∃ v_, I3 118 30 = v_ := ⟨_, rfl⟩
            refine hp_geti (v := v38) rfl (hH.1 118 (17, 105) rfl) rfl (show (qm_up (qm_up I3 118 13 2) 118 14 fp33) 118 30 = _ from ((hk_neq (by decide)).trans ((hk_neq (by decide)).trans q_v38))) ?_
            refine qm_Rp.go 0 (c' := (178, [.ref 118, .int r, .int tk, .int 0, .int 1], [.int v38, .int r, .ref 134], (h.1, qm_up (qm_up I3 118 13 2) 118 14 fp33, h.2.2.1, h.2.2.2))) rfl ?_
            refine hp_ias rfl (hH.1 134 (0, 32) rfl) (fun ia_38 ib_38 => ?_)
            refine qm_Rp.go 0 (c' := (179, [.ref 118, .int r, .int tk, .int 0, .int 1], [], (h.1, qm_up (qm_up (qm_up I3 118 13 2) 118 14 fp33) 134 r.toInt.toNat v38, h.2.2.1, h.2.2.2))) rfl ?_
            refine qm_Rp.go 2 (c' := (181, [.ref 118, .int r, .int tk, .int 0, .int 1], [.int 4, .ref 118], (h.1, qm_up (qm_up (qm_up I3 118 13 2) 118 14 fp33) 134 r.toInt.toNat v38, h.2.2.1, h.2.2.2))) rfl ?_
            refine hp_inv (o := 118) (r := []) (as := [.ref 118, .int 4]) rfl rfl (hH.1 118 (17, 105) rfl) rfl rfl rfl ?_
            refine qm_Rp.go 2 (c' := (2, [.ref 118, .int 4], [.int 4, .ref 118], (h.1, qm_up (qm_up (qm_up I3 118 13 2) 118 14 fp33) 134 r.toInt.toNat v38, h.2.2.1, h.2.2.2))) rfl ?_
            refine hp_inv (o := 118) (r := []) (as := [.ref 118, .int 4]) rfl rfl (hH.1 118 (17, 105) rfl) rfl rfl rfl ?_
            refine qm_Rp.go 1 (c' := (1, [.ref 118, .int 4], [.ref 118], (h.1, qm_up (qm_up (qm_up I3 118 13 2) 118 14 fp33) 134 r.toInt.toNat v38, h.2.2.1, h.2.2.2))) rfl ?_
            refine hp_geti (v := 2) rfl (hH.1 118 (17, 105) rfl) rfl (show (qm_up (qm_up (qm_up I3 118 13 2) 118 14 fp33) 134 r.toInt.toNat v38) 118 13 = _ from ((hk_ot rfl).trans ((hk_neq (by decide)).trans (hk_same)))) ?_
            refine qm_Rp.go 2 (c' := (25, [.ref 118, .int 4], [.int 0], (h.1, qm_up (qm_up (qm_up I3 118 13 2) 118 14 fp33) 134 r.toInt.toNat v38, h.2.2.1, h.2.2.2))) rfl ?_
            refine qm_Rp.rt (v := (some (.int 0))) (h' := (h.1, qm_up (qm_up (qm_up I3 118 13 2) 118 14 fp33) 134 r.toInt.toNat v38, h.2.2.1, h.2.2.2)) rfl ?_
            refine qm_Rp.go 3 (c' := (17, [.ref 118, .int 4], [.int 1, .ref 118], (h.1, qm_up (qm_up (qm_up I3 118 13 2) 118 14 fp33) 134 r.toInt.toNat v38, h.2.2.1, h.2.2.2))) rfl ?_
            refine hp_inv (o := 118) (r := []) (as := [.ref 118, .int 1]) rfl rfl (hH.1 118 (17, 105) rfl) rfl rfl rfl ?_
            refine qm_Rp.go 1 (c' := (1, [.ref 118, .int 1], [.ref 118], (h.1, qm_up (qm_up (qm_up I3 118 13 2) 118 14 fp33) 134 r.toInt.toNat v38, h.2.2.1, h.2.2.2))) rfl ?_
            refine hp_geti (v := 2) rfl (hH.1 118 (17, 105) rfl) rfl (show (qm_up (qm_up (qm_up I3 118 13 2) 118 14 fp33) 134 r.toInt.toNat v38) 118 13 = _ from ((hk_ot rfl).trans ((hk_neq (by decide)).trans (hk_same)))) ?_
            refine qm_Rp.go 1 (c' := (7, [.ref 118, .int 1], [], (h.1, qm_up (qm_up (qm_up I3 118 13 2) 118 14 fp33) 134 r.toInt.toNat v38, h.2.2.1, h.2.2.2))) rfl ?_
            refine qm_Rp.rt (v := none) (h' := (h.1, qm_up (qm_up (qm_up I3 118 13 2) 118 14 fp33) 134 r.toInt.toNat v38, h.2.2.1, h.2.2.2)) rfl ?_
            refine qm_Rp.go 0 (c' := (20, [.ref 118, .int 4], [], (h.1, qm_up (qm_up (qm_up I3 118 13 2) 118 14 fp33) 134 r.toInt.toNat v38, h.2.2.1, h.2.2.2))) rfl ?_
            refine qm_Rp.rt (v := none) (h' := (h.1, qm_up (qm_up (qm_up I3 118 13 2) 118 14 fp33) 134 r.toInt.toNat v38, h.2.2.1, h.2.2.2)) rfl ?_
            refine qm_Rp.go 0 (c' := (184, [.ref 118, .int r, .int tk, .int 0, .int 1], [], (h.1, qm_up (qm_up (qm_up I3 118 13 2) 118 14 fp33) 134 r.toInt.toNat v38, h.2.2.1, h.2.2.2))) rfl ?_
            refine qm_Rp.rt (v := none) (h' := (h.1, qm_up (qm_up (qm_up I3 118 13 2) 118 14 fp33) 134 r.toInt.toNat v38, h.2.2.1, h.2.2.2)) rfl ?_
            exact k1 (qm_up (qm_up (qm_up I3 118 13 2) 118 14 fp33) 134 r.toInt.toNat v38) 2 fp33 (fun o ho i => ((hk_mod ho rfl).trans ((hk_mod ho rfl).trans ((hk_mod ho rfl).trans ((e_I3 o (hk_ms rfl ho) i).trans ((e o (hk_ms rfl ho) i).trans rfl)))))) (fun i hi => ((hk_ot rfl).trans ((hk_neq (fun z => by subst z; cases hi)).trans ((hk_neq (fun z => by subst z; cases hi)).trans ((e8_I3 i (hk_ms rfl hi)).trans ((e8 i (hk_ms rfl hi)).trans rfl)))))) (show (qm_up (qm_up (qm_up I3 118 13 2) 118 14 fp33) 134 r.toInt.toNat v38) 118 13 = _ from ((hk_ot rfl).trans ((hk_neq (by decide)).trans (hk_same)))) (show (qm_up (qm_up (qm_up I3 118 13 2) 118 14 fp33) 134 r.toInt.toNat v38) 118 14 = _ from ((hk_ot rfl).trans (hk_same))) rf37
          · have t0_t34 := q_t0 e_t34 t0_t4
            have kq41 : tK B n t4.toInt.toNat = 9 ∨ tK B n t4.toInt.toNat = 10 := rTk_P (P := fun x => x ≠ 29 ∧ x = 30) (Q := fun d => d = 9 ∨ d = 10) ht_kv11 (by decide +kernel) ⟨z14, z16⟩
            have kq42 : tK B n t4.toInt.toNat ≠ 35 ∧ tK B n t4.toInt.toNat ≠ 6 ∧ tK B n t4.toInt.toNat ≠ 7 := rTk_P (P := fun x => x ≠ 29 ∧ x = 30) (Q := fun d => d ≠ 35 ∧ d ≠ 6 ∧ d ≠ 7) ht_kv11 (by decide +kernel) ⟨z14, z16⟩
            have hF40 := fS_o9 (m2 := t34.toInt.toNat) hF9 kq41 (q_m4 t0_t4 x4_t34) (q_nf kq42) rfl rfl (q_m t0_t4 e_t34)
            refine qm_Rp.go 1 (c' := (113, [.ref 118, .int r, .int tk, .int 0, .int 1], [], (h.1, qm_up I3 118 11 t34, h.2.2.1, h.2.2.2))) rfl ?_
            exact ih g hg (qm_up I3 118 11 t34) t34 0 (fun o ho i => ((hk_mod ho rfl).trans ((e_I3 o (hk_ms rfl ho) i).trans ((e o (hk_ms rfl ho) i).trans rfl)))) (fun i hi => ((hk_neq (fun z => by subst z; cases hi)).trans ((e8_I3 i (hk_ms rfl hi)).trans ((e8 i (hk_ms rfl hi)).trans rfl)))) (show (qm_up I3 118 11 t34) 118 11 = _ from (hk_same)) (show (qm_up I3 118 11 t34) 118 12 = _ from ((hk_neq (by decide)).trans o_I3)) (show (qm_up I3 118 11 t34) 118 13 = _ from ((hk_neq (by decide)).trans f_I3)) t0_t34 hF40 ⟨by decide, by decide⟩
      · refine qm_Rp.go 2 (c' := (25, [.ref 118, .int 29], [.int 1], (h.1, I3, h.2.2.1, h.2.2.2))) rfl ?_
        refine qm_Rp.rt (v := (some (.int 1))) (h' := (h.1, I3, h.2.2.1, h.2.2.2)) rfl ?_
        refine qm_Rp.go 8 (c' := (162, [.ref 118, .int r, .int tk, .int 1, .int 1], [], (h.1, I3, h.2.2.1, h.2.2.2))) rfl ?_
        refine qm_Rp.go 1 (c' := (163, [.ref 118, .int r, .int tk, .int 1, .int 1], [.ref 118], (h.1, I3, h.2.2.1, h.2.2.2))) rfl ?_
        refine hp_inv (o := 118) (r := []) (as := [.ref 118]) rfl rfl (hH.1 118 (17, 105) rfl) rfl rfl rfl (px_go (h := (h.1, I3, h.2.2.1, h.2.2.2)) hH q_t4 f_I3 htb_kv11 (fun fp43 q_fp43 x4_fp43 => ?_) (fun t44 e_t44 x4_t44 => ?_))
        · have ex_fp43 : fp43 = pv12 := (q_fp43.symm.trans (show (I3) 122 t4.toInt.toNat = _ from ((e_I3 122 rfl t4.toInt.toNat).trans ((e 122 rfl t4.toInt.toNat).trans q_pv12))))
          have kq45 : tK B n t4.toInt.toNat ≠ 37 := rTk_P (P := fun x => x = 29) (Q := fun d => d ≠ 37) ht_kv11 (by decide +kernel) z14
          have kq46 : tK B n t4.toInt.toNat = 9 ∨ tK B n t4.toInt.toNat = 10 := rTk_P (P := fun x => x = 29) (Q := fun d => d = 9 ∨ d = 10) ht_kv11 (by decide +kernel) z14
          have rf47 : rfin B n 2 fp43 := r2_go hF9 kq45 (fo_9d ⟨rfl, Int.le_refl _, (by decide), kq46⟩) (by decide) x4_fp43 rfl ((congrArg Int32.toInt ex_fp43).trans hp_kv11)
          refine qm_Rp.go 1 (c' := (113, [.ref 118, .int r, .int tk, .int 1, .int 1], [], (h.1, qm_up (qm_up I3 118 13 2) 118 14 fp43, h.2.2.1, h.2.2.2))) rfl ?_
          refine qm_Rp.go 3 (c' := (119, [.ref 118, .int r, .int tk, .int 1, .int 1], [.ref 118], (h.1, qm_up (qm_up I3 118 13 2) 118 14 fp43, h.2.2.1, h.2.2.2))) rfl ?_
          refine hp_geti (v := 2) rfl (hH.1 118 (17, 105) rfl) rfl (show (qm_up (qm_up I3 118 13 2) 118 14 fp43) 118 13 = _ from ((hk_neq (by decide)).trans (hk_same))) ?_
          refine qm_Rp.go 2 (c' := (170, [.ref 118, .int r, .int tk, .int 1, .int 1], [.ref 118], (h.1, qm_up (qm_up I3 118 13 2) 118 14 fp43, h.2.2.1, h.2.2.2))) rfl ?_
          refine hp_getr rfl (hH.1 118 (17, 105) rfl) rfl (hH.2 118 29 (some 134) rfl) ?_
          refine qm_Rp.go 2 (c' := (175, [.ref 118, .int r, .int tk, .int 1, .int 1], [.ref 118, .int r, .ref 134], (h.1, qm_up (qm_up I3 118 13 2) 118 14 fp43, h.2.2.1, h.2.2.2))) rfl ?_
          obtain ⟨v48, q_v48⟩ : ∃ v_, I3 118 30 = v_ := ⟨_, rfl⟩
          refine hp_geti (v := v48) rfl (hH.1 118 (17, 105) rfl) rfl (show (qm_up (qm_up I3 118 13 2) 118 14 fp43) 118 30 = _ from ((hk_neq (by decide)).trans ((hk_neq (by decide)).trans q_v48))) ?_
          refine qm_Rp.go 0 (c' := (178, [.ref 118, .int r, .int tk, .int 1, .int 1], [.int v48, .int r, .ref 134], (h.1, qm_up (qm_up I3 118 13 2) 118 14 fp43, h.2.2.1, h.2.2.2))) rfl ?_
          refine hp_ias rfl (hH.1 134 (0, 32) rfl) (fun ia_48 ib_48 => ?_)
          refine qm_Rp.go 0 (c' := (179, [.ref 118, .int r, .int tk, .int 1, .int 1], [], (h.1, qm_up (qm_up (qm_up I3 118 13 2) 118 14 fp43) 134 r.toInt.toNat v48, h.2.2.1, h.2.2.2))) rfl ?_
          refine qm_Rp.go 2 (c' := (181, [.ref 118, .int r, .int tk, .int 1, .int 1], [.int 4, .ref 118], (h.1, qm_up (qm_up (qm_up I3 118 13 2) 118 14 fp43) 134 r.toInt.toNat v48, h.2.2.1, h.2.2.2))) rfl ?_
          refine hp_inv (o := 118) (r := []) (as := [.ref 118, .int 4]) rfl rfl (hH.1 118 (17, 105) rfl) rfl rfl rfl ?_
          refine qm_Rp.go 2 (c' := (2, [.ref 118, .int 4], [.int 4, .ref 118], (h.1, qm_up (qm_up (qm_up I3 118 13 2) 118 14 fp43) 134 r.toInt.toNat v48, h.2.2.1, h.2.2.2))) rfl ?_
          refine hp_inv (o := 118) (r := []) (as := [.ref 118, .int 4]) rfl rfl (hH.1 118 (17, 105) rfl) rfl rfl rfl ?_
          refine qm_Rp.go 1 (c' := (1, [.ref 118, .int 4], [.ref 118], (h.1, qm_up (qm_up (qm_up I3 118 13 2) 118 14 fp43) 134 r.toInt.toNat v48, h.2.2.1, h.2.2.2))) rfl ?_
          refine hp_geti (v := 2) rfl (hH.1 118 (17, 105) rfl) rfl (show (qm_up (qm_up (qm_up I3 118 13 2) 118 14 fp43) 134 r.toInt.toNat v48) 118 13 = _ from ((hk_ot rfl).trans ((hk_neq (by decide)).trans (hk_same)))) ?_
          refine qm_Rp.go 2 (c' := (25, [.ref 118, .int 4], [.int 0], (h.1, qm_up (qm_up (qm_up I3 118 13 2) 118 14 fp43) 134 r.toInt.toNat v48, h.2.2.1, h.2.2.2))) rfl ?_
          refine qm_Rp.rt (v := (some (.int 0))) (h' := (h.1, qm_up (qm_up (qm_up I3 118 13 2) 118 14 fp43) 134 r.toInt.toNat v48, h.2.2.1, h.2.2.2)) rfl ?_
          refine qm_Rp.go 3 (c' := (17, [.ref 118, .int 4], [.int 1, .ref 118], (h.1, qm_up (qm_up (qm_up I3 118 13 2) 118 14 fp43) 134 r.toInt.toNat v48, h.2.2.1, h.2.2.2))) rfl ?_
          refine hp_inv (o := 118) (r := []) (as := [.ref 118, .int 1]) rfl rfl (hH.1 118 (17, 105) rfl) rfl rfl rfl ?_
          refine qm_Rp.go 1 (c' := (1, [.ref 118, .int 1], [.ref 118], (h.1, qm_up (qm_up (qm_up I3 118 13 2) 118 14 fp43) 134 r.toInt.toNat v48, h.2.2.1, h.2.2.2))) rfl ?_
          refine hp_geti (v := 2) rfl (hH.1 118 (17, 105) rfl) rfl (show (qm_up (qm_up (qm_up I3 118 13 2) 118 14 fp43) 134 r.toInt.toNat v48) 118 13 = _ from ((hk_ot rfl).trans ((hk_neq (by decide)).trans (hk_same)))) ?_
          refine qm_Rp.go 1 (c' := (7, [.ref 118, .int 1], [], (h.1, qm_up (qm_up (qm_up I3 118 13 2) 118 14 fp43) 134 r.toInt.toNat v48, h.2.2.1, h.2.2.2))) rfl ?_
          refine qm_Rp.rt (v := none) (h' := (h.1, qm_up (qm_up (qm_up I3 118 13 2) 118 14 fp43) 134 r.toInt.toNat v48, h.2.2.1, h.2.2.2)) rfl ?_
          refine qm_Rp.go 0 (c' := (20, [.ref 118, .int 4], [], (h.1, qm_up (qm_up (qm_up I3 118 13 2) 118 14 fp43) 134 r.toInt.toNat v48, h.2.2.1, h.2.2.2))) rfl ?_
          refine qm_Rp.rt (v := none) (h' := (h.1, qm_up (qm_up (qm_up I3 118 13 2) 118 14 fp43) 134 r.toInt.toNat v48, h.2.2.1, h.2.2.2)) rfl ?_
          refine qm_Rp.go 0 (c' := (184, [.ref 118, .int r, .int tk, .int 1, .int 1], [], (h.1, qm_up (qm_up (qm_up I3 118 13 2) 118 14 fp43) 134 r.toInt.toNat v48, h.2.2.1, h.2.2.2))) rfl ?_
          refine qm_Rp.rt (v := none) (h' := (h.1, qm_up (qm_up (qm_up I3 118 13 2) 118 14 fp43) 134 r.toInt.toNat v48, h.2.2.1, h.2.2.2)) rfl ?_
          exact k1 (qm_up (qm_up (qm_up I3 118 13 2) 118 14 fp43) 134 r.toInt.toNat v48) 2 fp43 (fun o ho i => ((hk_mod ho rfl).trans ((hk_mod ho rfl).trans ((hk_mod ho rfl).trans ((e_I3 o (hk_ms rfl ho) i).trans ((e o (hk_ms rfl ho) i).trans rfl)))))) (fun i hi => ((hk_ot rfl).trans ((hk_neq (fun z => by subst z; cases hi)).trans ((hk_neq (fun z => by subst z; cases hi)).trans ((e8_I3 i (hk_ms rfl hi)).trans ((e8 i (hk_ms rfl hi)).trans rfl)))))) (show (qm_up (qm_up (qm_up I3 118 13 2) 118 14 fp43) 134 r.toInt.toNat v48) 118 13 = _ from ((hk_ot rfl).trans ((hk_neq (by decide)).trans (hk_same)))) (show (qm_up (qm_up (qm_up I3 118 13 2) 118 14 fp43) 134 r.toInt.toNat v48) 118 14 = _ from ((hk_ot rfl).trans (hk_same))) rf47
        · have t0_t44 := q_t0 e_t44 t0_t4
          have kq51 : tK B n t4.toInt.toNat = 9 ∨ tK B n t4.toInt.toNat = 10 := rTk_P (P := fun x => x = 29) (Q := fun d => d = 9 ∨ d = 10) ht_kv11 (by decide +kernel) z14
          have kq52 : tK B n t4.toInt.toNat ≠ 35 ∧ tK B n t4.toInt.toNat ≠ 6 ∧ tK B n t4.toInt.toNat ≠ 7 := rTk_P (P := fun x => x = 29) (Q := fun d => d ≠ 35 ∧ d ≠ 6 ∧ d ≠ 7) ht_kv11 (by decide +kernel) z14
          have hF50 := fS_o9 (m2 := t44.toInt.toNat) hF9 kq51 (q_m4 t0_t4 x4_t44) (q_nf kq52) rfl rfl (q_m t0_t4 e_t44)
          refine qm_Rp.go 1 (c' := (113, [.ref 118, .int r, .int tk, .int 1, .int 1], [], (h.1, qm_up I3 118 11 t44, h.2.2.1, h.2.2.2))) rfl ?_
          exact ih g hg (qm_up I3 118 11 t44) t44 1 (fun o ho i => ((hk_mod ho rfl).trans ((e_I3 o (hk_ms rfl ho) i).trans ((e o (hk_ms rfl ho) i).trans rfl)))) (fun i hi => ((hk_neq (fun z => by subst z; cases hi)).trans ((e8_I3 i (hk_ms rfl hi)).trans ((e8 i (hk_ms rfl hi)).trans rfl)))) (show (qm_up I3 118 11 t44) 118 11 = _ from (hk_same)) (show (qm_up I3 118 11 t44) 118 12 = _ from ((hk_neq (by decide)).trans o_I3)) (show (qm_up I3 118 11 t44) 118 13 = _ from ((hk_neq (by decide)).trans f_I3)) t0_t44 hF50 ⟨by decide, by decide⟩
    · have e_I5 : (∀ o, [118, 135, 136, 137, 138, 139, 140, 141, 142, 143].contains o = false → ∀ i, I5 o i = (I) o i) := e_I5
      have e8_I5 : (∀ i, [11, 12, 13, 14, 30, 37, 41].contains i = false → I5 118 i = (I) 118 i) := e8_I5
      have fb_f6 := rf10.1
      refine qm_Rp.go 2 (c' := (133, [.ref 118, .int r, .int tk, .int w, .int 1], [.int 29, .ref 118], (h.1, I5, h.2.2.1, h.2.2.2))) rfl ?_
      refine hp_inv (o := 118) (r := []) (as := [.ref 118, .int 29]) rfl rfl (hH.1 118 (17, 105) rfl) rfl rfl rfl ?_
      refine qm_Rp.go 1 (c' := (1, [.ref 118, .int 29], [.ref 118], (h.1, I5, h.2.2.1, h.2.2.2))) rfl ?_
      refine hp_geti (v := f6) rfl (hH.1 118 (17, 105) rfl) rfl q_f6 ?_
      refine qm_Rp.go 0 (c' := (4, [.ref 118, .int 29], [.int f6], (h.1, I5, h.2.2.1, h.2.2.2))) rfl ?_
      refine hp_zne (ix := f6.toInt) rfl rfl (fun z53 => ?_) (fun z53 => by exfalso; omega)
      refine qm_Rp.go 1 (c' := (25, [.ref 118, .int 29], [.int 0], (h.1, I5, h.2.2.1, h.2.2.2))) rfl ?_
      refine qm_Rp.rt (v := (some (.int 0))) (h' := (h.1, I5, h.2.2.1, h.2.2.2)) rfl ?_
      refine qm_Rp.go 5 (c' := (144, [.ref 118, .int r, .int tk, .int 0, .int 1], [.int 30, .ref 118], (h.1, I5, h.2.2.1, h.2.2.2))) rfl ?_
      refine hp_inv (o := 118) (r := []) (as := [.ref 118, .int 30]) rfl rfl (hH.1 118 (17, 105) rfl) rfl rfl rfl ?_
      refine qm_Rp.go 1 (c' := (1, [.ref 118, .int 30], [.ref 118], (h.1, I5, h.2.2.1, h.2.2.2))) rfl ?_
      refine hp_geti (v := f6) rfl (hH.1 118 (17, 105) rfl) rfl q_f6 ?_
      refine qm_Rp.go 0 (c' := (4, [.ref 118, .int 30], [.int f6], (h.1, I5, h.2.2.1, h.2.2.2))) rfl ?_
      refine hp_zne (ix := f6.toInt) rfl rfl (fun z54 => ?_) (fun z54 => by exfalso; omega)
      refine qm_Rp.go 1 (c' := (25, [.ref 118, .int 30], [.int 0], (h.1, I5, h.2.2.1, h.2.2.2))) rfl ?_
      refine qm_Rp.rt (v := (some (.int 0))) (h' := (h.1, I5, h.2.2.1, h.2.2.2)) rfl ?_
      refine qm_Rp.go 5 (c' := (113, [.ref 118, .int r, .int tk, .int 0, .int 0], [], (h.1, I5, h.2.2.1, h.2.2.2))) rfl ?_
      refine qm_Rp.go 3 (c' := (170, [.ref 118, .int r, .int tk, .int 0, .int 0], [.ref 118], (h.1, I5, h.2.2.1, h.2.2.2))) rfl ?_
      refine hp_getr rfl (hH.1 118 (17, 105) rfl) rfl (hH.2 118 29 (some 134) rfl) ?_
      refine qm_Rp.go 2 (c' := (175, [.ref 118, .int r, .int tk, .int 0, .int 0], [.ref 118, .int r, .ref 134], (h.1, I5, h.2.2.1, h.2.2.2))) rfl ?_
      obtain ⟨v55, q_v55⟩ : ∃ v_, I5 118 30 = v_ := ⟨_, rfl⟩
      refine hp_geti (v := v55) rfl (hH.1 118 (17, 105) rfl) rfl q_v55 ?_
      refine qm_Rp.go 0 (c' := (178, [.ref 118, .int r, .int tk, .int 0, .int 0], [.int v55, .int r, .ref 134], (h.1, I5, h.2.2.1, h.2.2.2))) rfl ?_
      refine hp_ias rfl (hH.1 134 (0, 32) rfl) (fun ia_55 ib_55 => ?_)
      refine qm_Rp.go 0 (c' := (179, [.ref 118, .int r, .int tk, .int 0, .int 0], [], (h.1, qm_up I5 134 r.toInt.toNat v55, h.2.2.1, h.2.2.2))) rfl ?_
      refine qm_Rp.go 2 (c' := (181, [.ref 118, .int r, .int tk, .int 0, .int 0], [.int 4, .ref 118], (h.1, qm_up I5 134 r.toInt.toNat v55, h.2.2.1, h.2.2.2))) rfl ?_
      refine hp_inv (o := 118) (r := []) (as := [.ref 118, .int 4]) rfl rfl (hH.1 118 (17, 105) rfl) rfl rfl rfl ?_
      refine qm_Rp.go 2 (c' := (2, [.ref 118, .int 4], [.int 4, .ref 118], (h.1, qm_up I5 134 r.toInt.toNat v55, h.2.2.1, h.2.2.2))) rfl ?_
      refine hp_inv (o := 118) (r := []) (as := [.ref 118, .int 4]) rfl rfl (hH.1 118 (17, 105) rfl) rfl rfl rfl ?_
      refine qm_Rp.go 1 (c' := (1, [.ref 118, .int 4], [.ref 118], (h.1, qm_up I5 134 r.toInt.toNat v55, h.2.2.1, h.2.2.2))) rfl ?_
      refine hp_geti (v := f6) rfl (hH.1 118 (17, 105) rfl) rfl (show (qm_up I5 134 r.toInt.toNat v55) 118 13 = _ from ((hk_ot rfl).trans q_f6)) ?_
      refine qm_Rp.go 0 (c' := (4, [.ref 118, .int 4], [.int f6], (h.1, qm_up I5 134 r.toInt.toNat v55, h.2.2.1, h.2.2.2))) rfl ?_
      refine hp_zne (ix := f6.toInt) rfl rfl (fun z57 => ?_) (fun z57 => by exfalso; omega)
      refine qm_Rp.go 1 (c' := (25, [.ref 118, .int 4], [.int 0], (h.1, qm_up I5 134 r.toInt.toNat v55, h.2.2.1, h.2.2.2))) rfl ?_
      refine qm_Rp.rt (v := (some (.int 0))) (h' := (h.1, qm_up I5 134 r.toInt.toNat v55, h.2.2.1, h.2.2.2)) rfl ?_
      refine qm_Rp.go 3 (c' := (17, [.ref 118, .int 4], [.int 1, .ref 118], (h.1, qm_up I5 134 r.toInt.toNat v55, h.2.2.1, h.2.2.2))) rfl ?_
      refine hp_inv (o := 118) (r := []) (as := [.ref 118, .int 1]) rfl rfl (hH.1 118 (17, 105) rfl) rfl rfl rfl ?_
      refine qm_Rp.go 1 (c' := (1, [.ref 118, .int 1], [.ref 118], (h.1, qm_up I5 134 r.toInt.toNat v55, h.2.2.1, h.2.2.2))) rfl ?_
      refine hp_geti (v := f6) rfl (hH.1 118 (17, 105) rfl) rfl (show (qm_up I5 134 r.toInt.toNat v55) 118 13 = _ from ((hk_ot rfl).trans q_f6)) ?_
      refine qm_Rp.go 0 (c' := (4, [.ref 118, .int 1], [.int f6], (h.1, qm_up I5 134 r.toInt.toNat v55, h.2.2.1, h.2.2.2))) rfl ?_
      refine hp_zle (ix := f6.toInt) rfl rfl (fun z58 => by exfalso; omega) (fun z58 => ?_)
      refine qm_Rp.go 0 (c' := (7, [.ref 118, .int 1], [], (h.1, qm_up I5 134 r.toInt.toNat v55, h.2.2.1, h.2.2.2))) rfl ?_
      refine qm_Rp.rt (v := none) (h' := (h.1, qm_up I5 134 r.toInt.toNat v55, h.2.2.1, h.2.2.2)) rfl ?_
      refine qm_Rp.go 0 (c' := (20, [.ref 118, .int 4], [], (h.1, qm_up I5 134 r.toInt.toNat v55, h.2.2.1, h.2.2.2))) rfl ?_
      refine qm_Rp.rt (v := none) (h' := (h.1, qm_up I5 134 r.toInt.toNat v55, h.2.2.1, h.2.2.2)) rfl ?_
      refine qm_Rp.go 0 (c' := (184, [.ref 118, .int r, .int tk, .int 0, .int 0], [], (h.1, qm_up I5 134 r.toInt.toNat v55, h.2.2.1, h.2.2.2))) rfl ?_
      refine qm_Rp.rt (v := none) (h' := (h.1, qm_up I5 134 r.toInt.toNat v55, h.2.2.1, h.2.2.2)) rfl ?_
      exact k1 (qm_up I5 134 r.toInt.toNat v55) f6 fp7 (fun o ho i => ((hk_mod ho rfl).trans ((e_I5 o (hk_ms rfl ho) i).trans ((e o (hk_ms rfl ho) i).trans rfl)))) (fun i hi => ((hk_ot rfl).trans ((e8_I5 i (hk_ms rfl hi)).trans ((e8 i (hk_ms rfl hi)).trans rfl)))) (show (qm_up I5 134 r.toInt.toNat v55) 118 13 = _ from ((hk_ot rfl).trans q_f6)) (show (qm_up I5 134 r.toInt.toNat v55) 118 14 = _ from ((hk_ot rfl).trans q_fp7)) rf10
set_option maxHeartbeats 20000000 in
theorem px_ru {X : Option (Nat × (Nat → Int32))} {Z : Option Value → qm_H → Prop} {h : qm_H} {fu : Nat} (hH : hk_H h) {B : Nat → Int32} {n : Nat} (hA : rAll B n h.2.1 h.2.2.1) {td td0 dp rt nm lf lp b li tr be lt pr pl : Int} {T : Nat → Int64} {r t ws wp nv : Int32} (k0 : ∀ (I : Nat → Nat → Int32) (J : Nat → Nat → Int64) (t ws wp nv : Int32) (lf2 lp2 nm2 pr2 pl2 : Int) (T2 : Nat → Int64), (∀ o, [118, 133, 134, 135, 136, 137, 138, 139, 140, 141, 142, 143].contains o = false → ∀ i, I o i = h.2.1 o i) → (∀ i, [11, 12, 13, 14, 15, 16, 20, 30, 37, 41].contains i = false → I 118 i = h.2.1 118 i) → (∀ o, [126].contains o = false → ∀ i, J o i = h.2.2.1 o i) → I 118 11 = t → I 118 12 = 0 → I 118 13 = 0 → I 118 15 = ws → I 118 16 = wp → I 118 20 = nv → 0 ≤ t.toInt → fS B n t.toInt.toNat = some (0, td, 0, 1, nm2, lf2, lp2, b, li, tr, be, lt, pr2, pl2, T2) → (ws.toInt = lf2 ∧ (lf2 ≠ 0 → wp.toInt = lp2) ∧ nv.toInt = nm2 ∧ (pr2 = f12 9 td 27 pr ∧ pl2 = f13 9 td 27 pl) ∧ (lf2 = 0 → lf = 0)) → (∀ y : Nat, (y : Int) < nm2 → J 126 y = T2 y) → Z none (h.1, I, J, h.2.2.2)) (k1 : ∀ (I : Nat → Nat → Int32) (J : Nat → Nat → Int64) (f fp : Int32), (∀ o, [118, 133, 134, 135, 136, 137, 138, 139, 140, 141, 142, 143].contains o = false → ∀ i, I o i = h.2.1 o i) → (∀ i, [11, 12, 13, 14, 15, 16, 20, 30, 37, 41].contains i = false → I 118 i = h.2.1 118 i) → (∀ o, [126].contains o = false → ∀ i, J o i = h.2.2.1 o i) → I 118 13 = f → I 118 14 = fp → rfin B n f fp → Z none (h.1, I, J, h.2.2.2)) (q_t : h.2.1 118 11 = t) (q_op : h.2.1 118 12 = 0) (q_f : h.2.1 118 13 = 0) (q_ws : h.2.1 118 15 = ws) (q_wp : h.2.1 118 16 = wp) (q_nv : h.2.1 118 20 = nv) (ht0 : 0 ≤ t.toInt) (hF : fS B n t.toInt.toNat = some (0, td0, 0, rt, nm, lf, lp, b, li, tr, be, lt, pr, pl, T)) (hk0 : tK B n t.toInt.toNat = td) (hkr : (td = 6 ∧ pr ≠ 8) ∨ (td = 7 ∧ pl ≠ 8)) (hl : ws.toInt = lf ∧ (lf ≠ 0 → wp.toInt = lp) ∧ nv.toInt = nm) (hT : ∀ y : Nat, (y : Int) < nm → h.2.2.1 126 y = T y) : qm_Rp fu X cd_262 (qm_ent 5 [.ref 118, .int r] h) Z := by
  refine qm_Rp.go 0 (c' := (0, [.ref 118, .int r, .float 0, .float 0, .float 0], [], h)) rfl ?_
  have kz0 : (0 : Int32).toInt = 0 := rfl
  have kz1 : (1 : Int32).toInt = 1 := rfl
  have kz2 : (2 : Int32).toInt = 2 := rfl
  have kz3 : (3 : Int32).toInt = 3 := rfl
  have kz4 : (4 : Int32).toInt = 4 := rfl
  have kz5 : (5 : Int32).toInt = 5 := rfl
  have kz6 : (6 : Int32).toInt = 6 := rfl
  have kz7 : (7 : Int32).toInt = 7 := rfl
  have kz8 : (8 : Int32).toInt = 8 := rfl
  have kz9 : (9 : Int32).toInt = 9 := rfl
  have kzm1 : ((-1) : Int32).toInt = (-1) := rfl
  have kzm2 : ((-2) : Int32).toInt = (-2) := rfl
  have kzm3 : ((-3) : Int32).toInt = (-3) := rfl
  obtain ⟨kv1, q_kv1⟩ : ∃ v_, h.2.1 121 t.toInt.toNat = v_ := ⟨_, rfl⟩
  obtain ⟨pv2, q_pv2⟩ : ∃ v_, h.2.1 122 t.toInt.toNat = v_ := ⟨_, rfl⟩
  obtain ⟨ht_kv1, hp_kv1, h4_kv1⟩ := rAll_at hA hF q_kv1 q_pv2
  have hkb_kv1 := rTk_b ht_kv1
  have htb_kv1 := q_le ht0 h4_kv1
  obtain ⟨g0, g1, ⟨g2, g2b, g2c⟩, g3, ⟨g4, g4b, g4c⟩, ⟨g5, g5b, g5c⟩, ⟨g6, g6b⟩, g7, g8, g9⟩ := fS_b _ _ _ _ _ _ _ _ _ _ _ _ _ _ _ _ hF
  have g1 : hid _ := g1
  have g2c : hid _ := g2c
  have g3 : hid _ := g3
  have g4c : hid _ := g4c
  have g5c : hid _ := g5c
  have g6 : hid _ := g6
  have g6b : hid _ := g6b
  have g7 : hid _ := g7
  refine qm_Rp.go 1 (c' := (1, [.ref 118, .int r, .float 0, .float 0, .float 0], [.ref 118], h)) rfl ?_
  refine hp_inv (o := 118) (r := []) (as := [.ref 118]) rfl rfl (hH.1 118 (17, 105) rfl) rfl rfl rfl (px_go (h := h) hH q_t q_f htb_kv1 (fun fp3 q_fp3 x4_fp3 => ?_) (fun t4 e_t4 x4_t4 => ?_))
  · have ex_fp3 : fp3 = pv2 := (q_fp3.symm.trans q_pv2)
    have rf5 : rfin B n 2 fp3 := r2_go hF (q_67n hk0 hkr) (fo_0c ⟨rfl, (q_67 hk0 hkr)⟩) (by decide) x4_fp3 rfl ((congrArg Int32.toInt ex_fp3).trans hp_kv1)
    refine qm_Rp.go 1 (c' := (5, [.ref 118, .int r, .float 0, .float 0, .float 0], [.ref 118], (h.1, qm_up (qm_up h.2.1 118 13 2) 118 14 fp3, h.2.2.1, h.2.2.2))) rfl ?_
    refine hp_geti (v := t) rfl (hH.1 118 (17, 105) rfl) rfl (show (qm_up (qm_up h.2.1 118 13 2) 118 14 fp3) 118 11 = _ from ((hk_neq (by decide)).trans ((hk_neq (by decide)).trans q_t))) ?_
    refine qm_Rp.go 2 (c' := (10, [.ref 118, .int r, .int t, .float 0, .float 0], [.ref 118], (h.1, qm_up (qm_up h.2.1 118 13 2) 118 14 fp3, h.2.2.1, h.2.2.2))) rfl ?_
    refine qm_Rp.go 1 (c' := (11, [.ref 118, .int r, .int t, .float 0, .float 0], [.int 1, .ref 118], (h.1, qm_up (qm_up h.2.1 118 13 2) 118 14 fp3, h.2.2.1, h.2.2.2))) rfl ?_
    refine hp_inv (o := 118) (r := []) (as := [.ref 118, .int 1]) rfl rfl (hH.1 118 (17, 105) rfl) rfl rfl rfl ?_
    refine qm_Rp.go 2 (c' := (2, [.ref 118, .int 1], [.int 1, .ref 118], (h.1, qm_up (qm_up h.2.1 118 13 2) 118 14 fp3, h.2.2.1, h.2.2.2))) rfl ?_
    refine hp_inv (o := 118) (r := []) (as := [.ref 118, .int 1]) rfl rfl (hH.1 118 (17, 105) rfl) rfl rfl rfl ?_
    refine qm_Rp.go 1 (c' := (1, [.ref 118, .int 1], [.ref 118], (h.1, qm_up (qm_up h.2.1 118 13 2) 118 14 fp3, h.2.2.1, h.2.2.2))) rfl ?_
    refine hp_geti (v := 2) rfl (hH.1 118 (17, 105) rfl) rfl (show (qm_up (qm_up h.2.1 118 13 2) 118 14 fp3) 118 13 = _ from ((hk_neq (by decide)).trans (hk_same))) ?_
    refine qm_Rp.go 2 (c' := (25, [.ref 118, .int 1], [.int 0], (h.1, qm_up (qm_up h.2.1 118 13 2) 118 14 fp3, h.2.2.1, h.2.2.2))) rfl ?_
    refine qm_Rp.rt (v := (some (.int 0))) (h' := (h.1, qm_up (qm_up h.2.1 118 13 2) 118 14 fp3, h.2.2.1, h.2.2.2)) rfl ?_
    refine qm_Rp.go 3 (c' := (17, [.ref 118, .int 1], [.int 1, .ref 118], (h.1, qm_up (qm_up h.2.1 118 13 2) 118 14 fp3, h.2.2.1, h.2.2.2))) rfl ?_
    refine hp_inv (o := 118) (r := []) (as := [.ref 118, .int 1]) rfl rfl (hH.1 118 (17, 105) rfl) rfl rfl rfl ?_
    refine qm_Rp.go 1 (c' := (1, [.ref 118, .int 1], [.ref 118], (h.1, qm_up (qm_up h.2.1 118 13 2) 118 14 fp3, h.2.2.1, h.2.2.2))) rfl ?_
    refine hp_geti (v := 2) rfl (hH.1 118 (17, 105) rfl) rfl (show (qm_up (qm_up h.2.1 118 13 2) 118 14 fp3) 118 13 = _ from ((hk_neq (by decide)).trans (hk_same))) ?_
    refine qm_Rp.go 1 (c' := (7, [.ref 118, .int 1], [], (h.1, qm_up (qm_up h.2.1 118 13 2) 118 14 fp3, h.2.2.1, h.2.2.2))) rfl ?_
    refine qm_Rp.rt (v := none) (h' := (h.1, qm_up (qm_up h.2.1 118 13 2) 118 14 fp3, h.2.2.1, h.2.2.2)) rfl ?_
    refine qm_Rp.go 0 (c' := (20, [.ref 118, .int 1], [], (h.1, qm_up (qm_up h.2.1 118 13 2) 118 14 fp3, h.2.2.1, h.2.2.2))) rfl ?_
    refine qm_Rp.rt (v := none) (h' := (h.1, qm_up (qm_up h.2.1 118 13 2) 118 14 fp3, h.2.2.1, h.2.2.2)) rfl ?_
    refine qm_Rp.go 2 (c' := (16, [.ref 118, .int r, .int t, .int 0, .float 0], [], (h.1, qm_up (qm_up h.2.1 118 13 2) 118 14 fp3, h.2.2.1, h.2.2.2))) rfl ?_
    refine qm_Rp.go 2 (c' := (18, [.ref 118, .int r, .int t, .int 0, .float 0], [.ref 118, .int 0], (h.1, qm_up (qm_up h.2.1 118 13 2) 118 14 fp3, h.2.2.1, h.2.2.2))) rfl ?_
    refine hp_geti (v := nv) rfl (hH.1 118 (17, 105) rfl) rfl (show (qm_up (qm_up h.2.1 118 13 2) 118 14 fp3) 118 20 = _ from ((hk_neq (by decide)).trans ((hk_neq (by decide)).trans q_nv))) ?_
    refine qm_Rp.go 0 (c' := (21, [.ref 118, .int r, .int t, .int 0, .float 0], [.int nv, .int 0], (h.1, qm_up (qm_up h.2.1 118 13 2) 118 14 fp3, h.2.2.1, h.2.2.2))) rfl ?_
    refine hp_cge (ix := 0) (iy := nv.toInt) rfl rfl rfl (fun z6 => ?_) (fun z6 => ?_)
    · refine qm_Rp.go 1 (c' := (60, [.ref 118, .int r, .int t, .int 0, .float 0], [.ref 118], (h.1, qm_up (qm_up h.2.1 118 13 2) 118 14 fp3, h.2.2.1, h.2.2.2))) rfl ?_
      refine hp_geti (v := 2) rfl (hH.1 118 (17, 105) rfl) rfl (show (qm_up (qm_up h.2.1 118 13 2) 118 14 fp3) 118 13 = _ from ((hk_neq (by decide)).trans (hk_same))) ?_
      refine qm_Rp.go 1 (c' := (66, [.ref 118, .int r, .int t, .int 0, .float 0], [], (h.1, qm_up (qm_up h.2.1 118 13 2) 118 14 fp3, h.2.2.1, h.2.2.2))) rfl ?_
      refine qm_Rp.rt (v := none) (h' := (h.1, qm_up (qm_up h.2.1 118 13 2) 118 14 fp3, h.2.2.1, h.2.2.2)) rfl ?_
      exact k1 (qm_up (qm_up h.2.1 118 13 2) 118 14 fp3) (h.2.2.1) 2 fp3 (fun o ho i => ((hk_mod ho rfl).trans ((hk_mod ho rfl).trans rfl))) (fun i hi => ((hk_neq (fun z => by subst z; cases hi)).trans ((hk_neq (fun z => by subst z; cases hi)).trans rfl))) (fun o ho i => rfl) (show (qm_up (qm_up h.2.1 118 13 2) 118 14 fp3) 118 13 = _ from ((hk_neq (by decide)).trans (hk_same))) (show (qm_up (qm_up h.2.1 118 13 2) 118 14 fp3) 118 14 = _ from (hk_same)) rf5
    · refine qm_Rp.go 1 (c' := (25, [.ref 118, .int r, .int t, .int 0, .float 0], [.ref 118], (h.1, qm_up (qm_up h.2.1 118 13 2) 118 14 fp3, h.2.2.1, h.2.2.2))) rfl ?_
      refine hp_geti (v := 2) rfl (hH.1 118 (17, 105) rfl) rfl (show (qm_up (qm_up h.2.1 118 13 2) 118 14 fp3) 118 13 = _ from ((hk_neq (by decide)).trans (hk_same))) ?_
      refine qm_Rp.go 2 (c' := (60, [.ref 118, .int r, .int t, .int 0, .float 0], [.ref 118], (h.1, qm_up (qm_up h.2.1 118 13 2) 118 14 fp3, h.2.2.1, h.2.2.2))) rfl ?_
      refine hp_geti (v := 2) rfl (hH.1 118 (17, 105) rfl) rfl (show (qm_up (qm_up h.2.1 118 13 2) 118 14 fp3) 118 13 = _ from ((hk_neq (by decide)).trans (hk_same))) ?_
      refine qm_Rp.go 1 (c' := (66, [.ref 118, .int r, .int t, .int 0, .float 0], [], (h.1, qm_up (qm_up h.2.1 118 13 2) 118 14 fp3, h.2.2.1, h.2.2.2))) rfl ?_
      refine qm_Rp.rt (v := none) (h' := (h.1, qm_up (qm_up h.2.1 118 13 2) 118 14 fp3, h.2.2.1, h.2.2.2)) rfl ?_
      exact k1 (qm_up (qm_up h.2.1 118 13 2) 118 14 fp3) (h.2.2.1) 2 fp3 (fun o ho i => ((hk_mod ho rfl).trans ((hk_mod ho rfl).trans rfl))) (fun i hi => ((hk_neq (fun z => by subst z; cases hi)).trans ((hk_neq (fun z => by subst z; cases hi)).trans rfl))) (fun o ho i => rfl) (show (qm_up (qm_up h.2.1 118 13 2) 118 14 fp3) 118 13 = _ from ((hk_neq (by decide)).trans (hk_same))) (show (qm_up (qm_up h.2.1 118 13 2) 118 14 fp3) 118 14 = _ from (hk_same)) rf5
  · have t0_t4 := q_t0 e_t4 ht0
    have hF7 := fS_t0 (m2 := t4.toInt.toNat) hF (q_67 hk0 hkr) (q_m4 ht0 x4_t4) (q_nf67 hk0 hkr) (q_m ht0 e_t4)
    rw [hk0] at hF7
    obtain ⟨kv8, q_kv8⟩ : ∃ v_, h.2.1 121 t4.toInt.toNat = v_ := ⟨_, rfl⟩
    obtain ⟨pv9, q_pv9⟩ : ∃ v_, h.2.1 122 t4.toInt.toNat = v_ := ⟨_, rfl⟩
    obtain ⟨ht_kv8, hp_kv8, h4_kv8⟩ := rAll_at hA hF7 q_kv8 q_pv9
    have hkb_kv8 := rTk_b ht_kv8
    have htb_kv8 := q_le t0_t4 h4_kv8
    refine qm_Rp.go 1 (c' := (5, [.ref 118, .int r, .float 0, .float 0, .float 0], [.ref 118], (h.1, qm_up h.2.1 118 11 t4, h.2.2.1, h.2.2.2))) rfl ?_
    refine hp_geti (v := t4) rfl (hH.1 118 (17, 105) rfl) rfl (show (qm_up h.2.1 118 11 t4) 118 11 = _ from (hk_same)) ?_
    refine qm_Rp.go 2 (c' := (10, [.ref 118, .int r, .int t4, .float 0, .float 0], [.ref 118], (h.1, qm_up h.2.1 118 11 t4, h.2.2.1, h.2.2.2))) rfl ?_
    refine qm_Rp.go 1 (c' := (11, [.ref 118, .int r, .int t4, .float 0, .float 0], [.int 1, .ref 118], (h.1, qm_up h.2.1 118 11 t4, h.2.2.1, h.2.2.2))) rfl ?_
    refine hp_inv (o := 118) (r := []) (as := [.ref 118, .int 1]) rfl rfl (hH.1 118 (17, 105) rfl) rfl rfl rfl ?_
    refine qm_Rp.go 2 (c' := (2, [.ref 118, .int 1], [.int 1, .ref 118], (h.1, qm_up h.2.1 118 11 t4, h.2.2.1, h.2.2.2))) rfl ?_
    refine hp_inv (o := 118) (r := []) (as := [.ref 118, .int 1]) rfl rfl (hH.1 118 (17, 105) rfl) rfl rfl rfl ?_
    refine qm_Rp.go 1 (c' := (1, [.ref 118, .int 1], [.ref 118], (h.1, qm_up h.2.1 118 11 t4, h.2.2.1, h.2.2.2))) rfl ?_
    refine hp_geti (v := 0) rfl (hH.1 118 (17, 105) rfl) rfl (show (qm_up h.2.1 118 11 t4) 118 13 = _ from ((hk_neq (by decide)).trans q_f)) ?_
    refine qm_Rp.go 2 (c' := (8, [.ref 118, .int 1], [.ref 118], (h.1, qm_up h.2.1 118 11 t4, h.2.2.1, h.2.2.2))) rfl ?_
    refine hp_getr rfl (hH.1 118 (17, 105) rfl) rfl (hH.2 118 5 (some 121) rfl) ?_
    refine qm_Rp.go 1 (c' := (12, [.ref 118, .int 1], [.ref 118, .ref 121], (h.1, qm_up h.2.1 118 11 t4, h.2.2.1, h.2.2.2))) rfl ?_
    refine hp_geti (v := t4) rfl (hH.1 118 (17, 105) rfl) rfl (show (qm_up h.2.1 118 11 t4) 118 11 = _ from (hk_same)) ?_
    refine qm_Rp.go 0 (c' := (15, [.ref 118, .int 1], [.int t4, .ref 121], (h.1, qm_up h.2.1 118 11 t4, h.2.2.1, h.2.2.2))) rfl ?_
    refine hp_ial (v := kv8) rfl (hH.1 121 (0, 403) rfl) (show (qm_up h.2.1 118 11 t4) 121 t4.toInt.toNat = _ from ((hk_ot rfl).trans q_kv8)) (fun ia_9 ib_9 => ?_)
    refine qm_Rp.go 1 (c' := (17, [.ref 118, .int 1], [.int 1, .int kv8], (h.1, qm_up h.2.1 118 11 t4, h.2.2.1, h.2.2.2))) rfl ?_
    refine hp_cne (ix := kv8.toInt) (iy := 1) rfl rfl rfl (fun (z11 : hid (kv8.toInt ≠ 1)) => ?_) (fun z11 => ?_)
    · refine qm_Rp.go 1 (c' := (25, [.ref 118, .int 1], [.int 0], (h.1, qm_up h.2.1 118 11 t4, h.2.2.1, h.2.2.2))) rfl ?_
      refine qm_Rp.rt (v := (some (.int 0))) (h' := (h.1, qm_up h.2.1 118 11 t4, h.2.2.1, h.2.2.2)) rfl ?_
      refine qm_Rp.go 3 (c' := (17, [.ref 118, .int 1], [.int 1, .ref 118], (h.1, qm_up h.2.1 118 11 t4, h.2.2.1, h.2.2.2))) rfl ?_
      refine hp_inv (o := 118) (r := []) (as := [.ref 118, .int 1]) rfl rfl (hH.1 118 (17, 105) rfl) rfl rfl rfl ?_
      refine qm_Rp.go 1 (c' := (1, [.ref 118, .int 1], [.ref 118], (h.1, qm_up h.2.1 118 11 t4, h.2.2.1, h.2.2.2))) rfl ?_
      refine hp_geti (v := 0) rfl (hH.1 118 (17, 105) rfl) rfl (show (qm_up h.2.1 118 11 t4) 118 13 = _ from ((hk_neq (by decide)).trans q_f)) ?_
      refine qm_Rp.go 3 (c' := (10, [.ref 118, .int 1], [.int 1, .ref 118], (h.1, qm_up h.2.1 118 11 t4, h.2.2.1, h.2.2.2))) rfl ?_
      refine hp_puti rfl (hH.1 118 (17, 105) rfl) rfl ?_
      refine qm_Rp.go 2 (c' := (15, [.ref 118, .int 1], [.ref 118, .ref 118], (h.1, qm_up (qm_up h.2.1 118 11 t4) 118 13 1, h.2.2.1, h.2.2.2))) rfl ?_
      refine hp_getr rfl (hH.1 118 (17, 105) rfl) rfl (hH.2 118 6 (some 122) rfl) ?_
      refine qm_Rp.go 1 (c' := (19, [.ref 118, .int 1], [.ref 118, .ref 122, .ref 118], (h.1, qm_up (qm_up h.2.1 118 11 t4) 118 13 1, h.2.2.1, h.2.2.2))) rfl ?_
      refine hp_geti (v := t4) rfl (hH.1 118 (17, 105) rfl) rfl (show (qm_up (qm_up h.2.1 118 11 t4) 118 13 1) 118 11 = _ from ((hk_neq (by decide)).trans (hk_same))) ?_
      refine qm_Rp.go 0 (c' := (22, [.ref 118, .int 1], [.int t4, .ref 122, .ref 118], (h.1, qm_up (qm_up h.2.1 118 11 t4) 118 13 1, h.2.2.1, h.2.2.2))) rfl ?_
      refine hp_ial (v := pv9) rfl (hH.1 122 (0, 403) rfl) (show (qm_up (qm_up h.2.1 118 11 t4) 118 13 1) 122 t4.toInt.toNat = _ from ((hk_ot rfl).trans ((hk_ot rfl).trans q_pv9))) (fun ia_11 ib_11 => ?_)
      refine qm_Rp.go 0 (c' := (23, [.ref 118, .int 1], [.int pv9, .ref 118], (h.1, qm_up (qm_up h.2.1 118 11 t4) 118 13 1, h.2.2.1, h.2.2.2))) rfl ?_
      refine hp_puti rfl (hH.1 118 (17, 105) rfl) rfl ?_
      refine qm_Rp.go 0 (c' := (26, [.ref 118, .int 1], [], (h.1, qm_up (qm_up (qm_up h.2.1 118 11 t4) 118 13 1) 118 14 pv9, h.2.2.1, h.2.2.2))) rfl ?_
      refine qm_Rp.rt (v := none) (h' := (h.1, qm_up (qm_up (qm_up h.2.1 118 11 t4) 118 13 1) 118 14 pv9, h.2.2.1, h.2.2.2)) rfl ?_
      refine qm_Rp.go 0 (c' := (20, [.ref 118, .int 1], [], (h.1, qm_up (qm_up (qm_up h.2.1 118 11 t4) 118 13 1) 118 14 pv9, h.2.2.1, h.2.2.2))) rfl ?_
      refine qm_Rp.rt (v := none) (h' := (h.1, qm_up (qm_up (qm_up h.2.1 118 11 t4) 118 13 1) 118 14 pv9, h.2.2.1, h.2.2.2)) rfl ?_
      refine qm_Rp.go 2 (c' := (16, [.ref 118, .int r, .int t4, .int 0, .float 0], [], (h.1, qm_up (qm_up (qm_up h.2.1 118 11 t4) 118 13 1) 118 14 pv9, h.2.2.1, h.2.2.2))) rfl ?_
      refine qm_Rp.go 2 (c' := (18, [.ref 118, .int r, .int t4, .int 0, .float 0], [.ref 118, .int 0], (h.1, qm_up (qm_up (qm_up h.2.1 118 11 t4) 118 13 1) 118 14 pv9, h.2.2.1, h.2.2.2))) rfl ?_
      refine hp_geti (v := nv) rfl (hH.1 118 (17, 105) rfl) rfl (show (qm_up (qm_up (qm_up h.2.1 118 11 t4) 118 13 1) 118 14 pv9) 118 20 = _ from ((hk_neq (by decide)).trans ((hk_neq (by decide)).trans ((hk_neq (by decide)).trans q_nv)))) ?_
      refine qm_Rp.go 0 (c' := (21, [.ref 118, .int r, .int t4, .int 0, .float 0], [.int nv, .int 0], (h.1, qm_up (qm_up (qm_up h.2.1 118 11 t4) 118 13 1) 118 14 pv9, h.2.2.1, h.2.2.2))) rfl ?_
      refine hp_cge (ix := 0) (iy := nv.toInt) rfl rfl rfl (fun z13 => ?_) (fun z13 => ?_)
      · refine qm_Rp.go 1 (c' := (60, [.ref 118, .int r, .int t4, .int 0, .float 0], [.ref 118], (h.1, qm_up (qm_up (qm_up h.2.1 118 11 t4) 118 13 1) 118 14 pv9, h.2.2.1, h.2.2.2))) rfl ?_
        refine hp_geti (v := 1) rfl (hH.1 118 (17, 105) rfl) rfl (show (qm_up (qm_up (qm_up h.2.1 118 11 t4) 118 13 1) 118 14 pv9) 118 13 = _ from ((hk_neq (by decide)).trans (hk_same))) ?_
        refine qm_Rp.go 1 (c' := (66, [.ref 118, .int r, .int t4, .int 0, .float 0], [], (h.1, qm_up (qm_up (qm_up h.2.1 118 11 t4) 118 13 1) 118 14 pv9, h.2.2.1, h.2.2.2))) rfl ?_
        refine qm_Rp.rt (v := none) (h' := (h.1, qm_up (qm_up (qm_up h.2.1 118 11 t4) 118 13 1) 118 14 pv9, h.2.2.1, h.2.2.2)) rfl ?_
        have kq15 : tK B n t4.toInt.toNat ≠ 26 := rTk_P (P := fun x => x ≠ 1) (Q := fun d => d ≠ 26) ht_kv8 (by decide +kernel) z11
        have rf14 : rfin B n 1 pv9 := r_5n hF7 rfl kq15 rfl hp_kv8
        exact k1 (qm_up (qm_up (qm_up h.2.1 118 11 t4) 118 13 1) 118 14 pv9) (h.2.2.1) 1 pv9 (fun o ho i => ((hk_mod ho rfl).trans ((hk_mod ho rfl).trans ((hk_mod ho rfl).trans rfl)))) (fun i hi => ((hk_neq (fun z => by subst z; cases hi)).trans ((hk_neq (fun z => by subst z; cases hi)).trans ((hk_neq (fun z => by subst z; cases hi)).trans rfl)))) (fun o ho i => rfl) (show (qm_up (qm_up (qm_up h.2.1 118 11 t4) 118 13 1) 118 14 pv9) 118 13 = _ from ((hk_neq (by decide)).trans (hk_same))) (show (qm_up (qm_up (qm_up h.2.1 118 11 t4) 118 13 1) 118 14 pv9) 118 14 = _ from (hk_same)) rf14
      · refine qm_Rp.go 1 (c' := (25, [.ref 118, .int r, .int t4, .int 0, .float 0], [.ref 118], (h.1, qm_up (qm_up (qm_up h.2.1 118 11 t4) 118 13 1) 118 14 pv9, h.2.2.1, h.2.2.2))) rfl ?_
        refine hp_geti (v := 1) rfl (hH.1 118 (17, 105) rfl) rfl (show (qm_up (qm_up (qm_up h.2.1 118 11 t4) 118 13 1) 118 14 pv9) 118 13 = _ from ((hk_neq (by decide)).trans (hk_same))) ?_
        refine qm_Rp.go 2 (c' := (60, [.ref 118, .int r, .int t4, .int 0, .float 0], [.ref 118], (h.1, qm_up (qm_up (qm_up h.2.1 118 11 t4) 118 13 1) 118 14 pv9, h.2.2.1, h.2.2.2))) rfl ?_
        refine hp_geti (v := 1) rfl (hH.1 118 (17, 105) rfl) rfl (show (qm_up (qm_up (qm_up h.2.1 118 11 t4) 118 13 1) 118 14 pv9) 118 13 = _ from ((hk_neq (by decide)).trans (hk_same))) ?_
        refine qm_Rp.go 1 (c' := (66, [.ref 118, .int r, .int t4, .int 0, .float 0], [], (h.1, qm_up (qm_up (qm_up h.2.1 118 11 t4) 118 13 1) 118 14 pv9, h.2.2.1, h.2.2.2))) rfl ?_
        refine qm_Rp.rt (v := none) (h' := (h.1, qm_up (qm_up (qm_up h.2.1 118 11 t4) 118 13 1) 118 14 pv9, h.2.2.1, h.2.2.2)) rfl ?_
        have kq17 : tK B n t4.toInt.toNat ≠ 26 := rTk_P (P := fun x => x ≠ 1) (Q := fun d => d ≠ 26) ht_kv8 (by decide +kernel) z11
        have rf16 : rfin B n 1 pv9 := r_5n hF7 rfl kq17 rfl hp_kv8
        exact k1 (qm_up (qm_up (qm_up h.2.1 118 11 t4) 118 13 1) 118 14 pv9) (h.2.2.1) 1 pv9 (fun o ho i => ((hk_mod ho rfl).trans ((hk_mod ho rfl).trans ((hk_mod ho rfl).trans rfl)))) (fun i hi => ((hk_neq (fun z => by subst z; cases hi)).trans ((hk_neq (fun z => by subst z; cases hi)).trans ((hk_neq (fun z => by subst z; cases hi)).trans rfl)))) (fun o ho i => rfl) (show (qm_up (qm_up (qm_up h.2.1 118 11 t4) 118 13 1) 118 14 pv9) 118 13 = _ from ((hk_neq (by decide)).trans (hk_same))) (show (qm_up (qm_up (qm_up h.2.1 118 11 t4) 118 13 1) 118 14 pv9) 118 14 = _ from (hk_same)) rf16
    · refine qm_Rp.go 2 (c' := (25, [.ref 118, .int 1], [.int 1], (h.1, qm_up h.2.1 118 11 t4, h.2.2.1, h.2.2.2))) rfl ?_
      refine qm_Rp.rt (v := (some (.int 1))) (h' := (h.1, qm_up h.2.1 118 11 t4, h.2.2.1, h.2.2.2)) rfl ?_
      refine qm_Rp.go 2 (c' := (9, [.ref 118, .int 1], [.ref 118], (h.1, qm_up h.2.1 118 11 t4, h.2.2.1, h.2.2.2))) rfl ?_
      refine hp_inv (o := 118) (r := []) (as := [.ref 118]) rfl rfl (hH.1 118 (17, 105) rfl) rfl rfl rfl (px_go (h := (h.1, qm_up h.2.1 118 11 t4, h.2.2.1, h.2.2.2)) hH (show (qm_up h.2.1 118 11 t4) 118 11 = _ from (hk_same)) (show (qm_up h.2.1 118 11 t4) 118 13 = _ from ((hk_neq (by decide)).trans q_f)) htb_kv8 (fun fp18 q_fp18 x4_fp18 => ?_) (fun t19 e_t19 x4_t19 => ?_))
      · have ex_fp18 : fp18 = pv9 := (q_fp18.symm.trans (show (qm_up h.2.1 118 11 t4) 122 t4.toInt.toNat = _ from ((hk_ot rfl).trans q_pv9)))
        have kq20 : tK B n t4.toInt.toNat ≠ 37 := rTk_P (P := fun x => x = 1) (Q := fun d => d ≠ 37) ht_kv8 (by decide +kernel) z11
        have kq21 : tK B n t4.toInt.toNat = 26 := rTk_P (P := fun x => x = 1) (Q := fun d => d = 26) ht_kv8 (by decide +kernel) z11
        have rf22 : rfin B n 2 fp18 := r2_go hF7 kq20 (fo_5a ⟨rfl, kq21⟩) (by decide) x4_fp18 rfl ((congrArg Int32.toInt ex_fp18).trans hp_kv8)
        refine qm_Rp.go 1 (c' := (20, [.ref 118, .int 1], [], (h.1, qm_up (qm_up (qm_up h.2.1 118 11 t4) 118 13 2) 118 14 fp18, h.2.2.1, h.2.2.2))) rfl ?_
        refine qm_Rp.rt (v := none) (h' := (h.1, qm_up (qm_up (qm_up h.2.1 118 11 t4) 118 13 2) 118 14 fp18, h.2.2.1, h.2.2.2)) rfl ?_
        refine qm_Rp.go 2 (c' := (16, [.ref 118, .int r, .int t4, .int 0, .float 0], [], (h.1, qm_up (qm_up (qm_up h.2.1 118 11 t4) 118 13 2) 118 14 fp18, h.2.2.1, h.2.2.2))) rfl ?_
        refine qm_Rp.go 2 (c' := (18, [.ref 118, .int r, .int t4, .int 0, .float 0], [.ref 118, .int 0], (h.1, qm_up (qm_up (qm_up h.2.1 118 11 t4) 118 13 2) 118 14 fp18, h.2.2.1, h.2.2.2))) rfl ?_
        refine hp_geti (v := nv) rfl (hH.1 118 (17, 105) rfl) rfl (show (qm_up (qm_up (qm_up h.2.1 118 11 t4) 118 13 2) 118 14 fp18) 118 20 = _ from ((hk_neq (by decide)).trans ((hk_neq (by decide)).trans ((hk_neq (by decide)).trans q_nv)))) ?_
        refine qm_Rp.go 0 (c' := (21, [.ref 118, .int r, .int t4, .int 0, .float 0], [.int nv, .int 0], (h.1, qm_up (qm_up (qm_up h.2.1 118 11 t4) 118 13 2) 118 14 fp18, h.2.2.1, h.2.2.2))) rfl ?_
        refine hp_cge (ix := 0) (iy := nv.toInt) rfl rfl rfl (fun z23 => ?_) (fun z23 => ?_)
        · refine qm_Rp.go 1 (c' := (60, [.ref 118, .int r, .int t4, .int 0, .float 0], [.ref 118], (h.1, qm_up (qm_up (qm_up h.2.1 118 11 t4) 118 13 2) 118 14 fp18, h.2.2.1, h.2.2.2))) rfl ?_
          refine hp_geti (v := 2) rfl (hH.1 118 (17, 105) rfl) rfl (show (qm_up (qm_up (qm_up h.2.1 118 11 t4) 118 13 2) 118 14 fp18) 118 13 = _ from ((hk_neq (by decide)).trans (hk_same))) ?_
          refine qm_Rp.go 1 (c' := (66, [.ref 118, .int r, .int t4, .int 0, .float 0], [], (h.1, qm_up (qm_up (qm_up h.2.1 118 11 t4) 118 13 2) 118 14 fp18, h.2.2.1, h.2.2.2))) rfl ?_
          refine qm_Rp.rt (v := none) (h' := (h.1, qm_up (qm_up (qm_up h.2.1 118 11 t4) 118 13 2) 118 14 fp18, h.2.2.1, h.2.2.2)) rfl ?_
          exact k1 (qm_up (qm_up (qm_up h.2.1 118 11 t4) 118 13 2) 118 14 fp18) (h.2.2.1) 2 fp18 (fun o ho i => ((hk_mod ho rfl).trans ((hk_mod ho rfl).trans ((hk_mod ho rfl).trans rfl)))) (fun i hi => ((hk_neq (fun z => by subst z; cases hi)).trans ((hk_neq (fun z => by subst z; cases hi)).trans ((hk_neq (fun z => by subst z; cases hi)).trans rfl)))) (fun o ho i => rfl) (show (qm_up (qm_up (qm_up h.2.1 118 11 t4) 118 13 2) 118 14 fp18) 118 13 = _ from ((hk_neq (by decide)).trans (hk_same))) (show (qm_up (qm_up (qm_up h.2.1 118 11 t4) 118 13 2) 118 14 fp18) 118 14 = _ from (hk_same)) rf22
        · refine qm_Rp.go 1 (c' := (25, [.ref 118, .int r, .int t4, .int 0, .float 0], [.ref 118], (h.1, qm_up (qm_up (qm_up h.2.1 118 11 t4) 118 13 2) 118 14 fp18, h.2.2.1, h.2.2.2))) rfl ?_
          refine hp_geti (v := 2) rfl (hH.1 118 (17, 105) rfl) rfl (show (qm_up (qm_up (qm_up h.2.1 118 11 t4) 118 13 2) 118 14 fp18) 118 13 = _ from ((hk_neq (by decide)).trans (hk_same))) ?_
          refine qm_Rp.go 2 (c' := (60, [.ref 118, .int r, .int t4, .int 0, .float 0], [.ref 118], (h.1, qm_up (qm_up (qm_up h.2.1 118 11 t4) 118 13 2) 118 14 fp18, h.2.2.1, h.2.2.2))) rfl ?_
          refine hp_geti (v := 2) rfl (hH.1 118 (17, 105) rfl) rfl (show (qm_up (qm_up (qm_up h.2.1 118 11 t4) 118 13 2) 118 14 fp18) 118 13 = _ from ((hk_neq (by decide)).trans (hk_same))) ?_
          refine qm_Rp.go 1 (c' := (66, [.ref 118, .int r, .int t4, .int 0, .float 0], [], (h.1, qm_up (qm_up (qm_up h.2.1 118 11 t4) 118 13 2) 118 14 fp18, h.2.2.1, h.2.2.2))) rfl ?_
          refine qm_Rp.rt (v := none) (h' := (h.1, qm_up (qm_up (qm_up h.2.1 118 11 t4) 118 13 2) 118 14 fp18, h.2.2.1, h.2.2.2)) rfl ?_
          exact k1 (qm_up (qm_up (qm_up h.2.1 118 11 t4) 118 13 2) 118 14 fp18) (h.2.2.1) 2 fp18 (fun o ho i => ((hk_mod ho rfl).trans ((hk_mod ho rfl).trans ((hk_mod ho rfl).trans rfl)))) (fun i hi => ((hk_neq (fun z => by subst z; cases hi)).trans ((hk_neq (fun z => by subst z; cases hi)).trans ((hk_neq (fun z => by subst z; cases hi)).trans rfl)))) (fun o ho i => rfl) (show (qm_up (qm_up (qm_up h.2.1 118 11 t4) 118 13 2) 118 14 fp18) 118 13 = _ from ((hk_neq (by decide)).trans (hk_same))) (show (qm_up (qm_up (qm_up h.2.1 118 11 t4) 118 13 2) 118 14 fp18) 118 14 = _ from (hk_same)) rf22
      · have t0_t19 := q_t0 e_t19 t0_t4
        have kq25 : tK B n t4.toInt.toNat = 26 := rTk_P (P := fun x => x = 1) (Q := fun d => d = 26) ht_kv8 (by decide +kernel) z11
        have kq26 : tK B n t4.toInt.toNat ≠ 35 ∧ tK B n t4.toInt.toNat ≠ 6 ∧ tK B n t4.toInt.toNat ≠ 7 := rTk_P (P := fun x => x = 1) (Q := fun d => d ≠ 35 ∧ d ≠ 6 ∧ d ≠ 7) ht_kv8 (by decide +kernel) z11
        have hF24 := fS_t5 (m2 := t19.toInt.toNat) hF7 kq25 (q_m4 t0_t4 x4_t19) (q_nf kq26) (q_m t0_t4 e_t19)
        have kq27 : tK B n t4.toInt.toNat = 26 := rTk_P (P := fun x => x = 1) (Q := fun d => d = 26) ht_kv8 (by decide +kernel) z11
        obtain ⟨kv28, q_kv28⟩ : ∃ v_, h.2.1 121 t19.toInt.toNat = v_ := ⟨_, rfl⟩
        obtain ⟨pv29, q_pv29⟩ : ∃ v_, h.2.1 122 t19.toInt.toNat = v_ := ⟨_, rfl⟩
        obtain ⟨ht_kv28, hp_kv28, h4_kv28⟩ := rAll_at hA hF24 q_kv28 q_pv29
        have hkb_kv28 := rTk_b ht_kv28
        have htb_kv28 := q_le t0_t19 h4_kv28
        refine qm_Rp.go 1 (c' := (20, [.ref 118, .int 1], [], (h.1, qm_up (qm_up h.2.1 118 11 t4) 118 11 t19, h.2.2.1, h.2.2.2))) rfl ?_
        refine qm_Rp.rt (v := none) (h' := (h.1, qm_up (qm_up h.2.1 118 11 t4) 118 11 t19, h.2.2.1, h.2.2.2)) rfl ?_
        refine qm_Rp.go 2 (c' := (16, [.ref 118, .int r, .int t4, .int 0, .float 0], [], (h.1, qm_up (qm_up h.2.1 118 11 t4) 118 11 t19, h.2.2.1, h.2.2.2))) rfl ?_
        obtain ⟨x6, q_x6⟩ : ∃ v_, h.2.2.1 124 t4.toInt.toNat = v_ := ⟨_, rfl⟩
        have hx6 : tM B n t4.toInt.toNat = x6 := rAll_n hA hF7 q_x6 kq27
        have hlp6 := fS_lp _ _ _ _ _ _ _ _ _ _ _ _ _ _ _ _ hF7
        have hft6 : ftw (h.2.2.1 126) x6 nv.toInt.toNat = ftw T (tM B n t4.toInt.toNat) nm.toNat := by rw [hx6, show nm.toNat = nv.toInt.toNat by omega]; exact ftw_s (fun y hy => hT y (by omega))
        refine px_nm (h := (h.1, qm_up (qm_up h.2.1 118 11 t4) 118 11 t19, h.2.2.1, h.2.2.2)) hH (fu0 := fu) (lf := lf) (lp := lp) (x := x6) (p := pv9) (show (qm_up (qm_up h.2.1 118 11 t4) 118 11 t19) 118 20 = _ from ((hk_neq (by decide)).trans ((hk_neq (by decide)).trans q_nv))) (show (qm_up (qm_up h.2.1 118 11 t4) 118 11 t19) 118 13 = _ from ((hk_neq (by decide)).trans ((hk_neq (by decide)).trans q_f))) (show (qm_up (qm_up h.2.1 118 11 t4) 118 11 t19) 122 t4.toInt.toNat = pv9 from (show (qm_up (qm_up h.2.1 118 11 t4) 118 11 t19) 122 t4.toInt.toNat = _ from ((hk_ot rfl).trans ((hk_ot rfl).trans q_pv9)))) q_x6 g7 (fun z => by have := hlp6 z; omega) (by omega) (fun g6 hg6 I6 ws6 wp6 l36 e_I6 e8_I6 q_ws6 q_wp6 hws6 hwp6 => ?_) fu (qm_up (qm_up h.2.1 118 11 t4) 118 11 t19) ws wp 0 (Nat.le_refl _) (fun _ _ _ => rfl) (fun _ _ => rfl) (show (qm_up (qm_up h.2.1 118 11 t4) 118 11 t19) 118 15 = _ from ((hk_neq (by decide)).trans ((hk_neq (by decide)).trans q_ws))) (show (qm_up (qm_up h.2.1 118 11 t4) 118 11 t19) 118 16 = _ from ((hk_neq (by decide)).trans ((hk_neq (by decide)).trans q_wp))) (by omega) (by rw [show (0 : Int32).toInt.toNat = 0 from rfl, if_neg (fun z => Bool.false_ne_true z.2)]; omega) (fun z9 => by rw [show (0 : Int32).toInt.toNat = 0 from rfl, if_neg (fun z => Bool.false_ne_true z.2)]; omega)
        have e_I6 : (∀ o, [118].contains o = false → ∀ i, I6 o i = (qm_up (qm_up h.2.1 118 11 t4) 118 11 t19) o i) := e_I6
        have e8_I6 : (∀ i, [15, 16].contains i = false → I6 118 i = (qm_up (qm_up h.2.1 118 11 t4) 118 11 t19) 118 i) := e8_I6
        rw [hft6] at hws6 hwp6
        have hf56 := f5_t (aw := 5) (td := td) (v := tV B n t4.toInt.toNat) (w := ftw T (tM B n t4.toInt.toNat) nm.toNat) (lf := lf) (lp := lp) (p := (tS B n t4.toInt.toNat : Int)) rfl
        refine qm_Rp.go 1 (c' := (60, [.ref 118, .int r, .int t4, l36, .float 0], [.ref 118], (h.1, I6, h.2.2.1, h.2.2.2))) rfl ?_
        refine hp_geti (v := 0) rfl (hH.1 118 (17, 105) rfl) rfl (show (I6) 118 13 = _ from ((e8_I6 13 rfl).trans ((hk_neq (by decide)).trans ((hk_neq (by decide)).trans q_f)))) ?_
        refine qm_Rp.go 2 (c' := (68, [.ref 118, .int r, .int t4, l36, .float 0], [.ref 118], (h.1, I6, h.2.2.1, h.2.2.2))) rfl ?_
        refine hp_getr rfl (hH.1 118 (17, 105) rfl) rfl (hH.2 118 21 (some 126) rfl) ?_
        refine qm_Rp.go 1 (c' := (72, [.ref 118, .int r, .int t4, l36, .float 0], [.ref 118, .ref 126], (h.1, I6, h.2.2.1, h.2.2.2))) rfl ?_
        refine hp_geti (v := nv) rfl (hH.1 118 (17, 105) rfl) rfl (show (I6) 118 20 = _ from ((e8_I6 20 rfl).trans ((hk_neq (by decide)).trans ((hk_neq (by decide)).trans q_nv)))) ?_
        refine qm_Rp.go 1 (c' := (76, [.ref 118, .int r, .int t4, l36, .float 0], [.ref 118, .int nv, .ref 126], (h.1, I6, h.2.2.1, h.2.2.2))) rfl ?_
        refine hp_getr rfl (hH.1 118 (17, 105) rfl) rfl (hH.2 118 8 (some 124) rfl) ?_
        refine qm_Rp.go 1 (c' := (80, [.ref 118, .int r, .int t4, l36, .float 0], [.int t4, .ref 124, .int nv, .ref 126], (h.1, I6, h.2.2.1, h.2.2.2))) rfl ?_
        refine hp_lal (v := x6) rfl (hH.1 124 (3, 403) rfl) (show (h.2.2.1) 124 t4.toInt.toNat = _ from q_x6) (fun ia_29 ib_29 => ?_)
        refine qm_Rp.go 0 (c' := (81, [.ref 118, .int r, .int t4, l36, .float 0], [.long x6, .int nv, .ref 126], (h.1, I6, h.2.2.1, h.2.2.2))) rfl ?_
        refine hp_las rfl (hH.1 126 (3, 16) rfl) (fun ia_30 ib_30 => ?_)
        refine qm_Rp.go 2 (c' := (84, [.ref 118, .int r, .int t4, l36, .float 0], [.ref 118, .ref 118], (h.1, I6, qm_up h.2.2.1 126 nv.toInt.toNat x6, h.2.2.2))) rfl ?_
        refine hp_geti (v := nv) rfl (hH.1 118 (17, 105) rfl) rfl (show (I6) 118 20 = _ from ((e8_I6 20 rfl).trans ((hk_neq (by decide)).trans ((hk_neq (by decide)).trans q_nv)))) ?_
        refine qm_Rp.go 2 (c' := (89, [.ref 118, .int r, .int t4, l36, .float 0], [.int (nv + 1), .ref 118], (h.1, I6, qm_up h.2.2.1 126 nv.toInt.toNat x6, h.2.2.2))) rfl ?_
        obtain ⟨v32, q_v32, e_v32⟩ := hk_add (x := nv) (y := 1) (a := nv.toInt) (b := 1) rfl rfl (by omega) (by omega)
        rw [q_v32]
        refine hp_puti rfl (hH.1 118 (17, 105) rfl) rfl ?_
        refine qm_Rp.go 1 (c' := (93, [.ref 118, .int r, .int t4, l36, .float 0], [.ref 118], (h.1, qm_up I6 118 20 v32, qm_up h.2.2.1 126 nv.toInt.toNat x6, h.2.2.2))) rfl ?_
        refine hp_getr rfl (hH.1 118 (17, 105) rfl) rfl (hH.2 118 28 (some 133) rfl) ?_
        refine qm_Rp.go 2 (c' := (98, [.ref 118, .int r, .int t4, l36, .float 0], [.ref 118, .int r, .ref 133], (h.1, qm_up I6 118 20 v32, qm_up h.2.2.1 126 nv.toInt.toNat x6, h.2.2.2))) rfl ?_
        obtain ⟨v33, q_v33⟩ : ∃ v_, h.2.1 118 30 = v_ := ⟨_, rfl⟩
        refine hp_geti (v := v33) rfl (hH.1 118 (17, 105) rfl) rfl (show (qm_up I6 118 20 v32) 118 30 = _ from ((hk_neq (by decide)).trans ((e8_I6 30 rfl).trans ((hk_neq (by decide)).trans ((hk_neq (by decide)).trans q_v33))))) ?_
        refine qm_Rp.go 0 (c' := (101, [.ref 118, .int r, .int t4, l36, .float 0], [.int v33, .int r, .ref 133], (h.1, qm_up I6 118 20 v32, qm_up h.2.2.1 126 nv.toInt.toNat x6, h.2.2.2))) rfl ?_
        refine hp_ias rfl (hH.1 133 (0, 32) rfl) (fun ia_33 ib_33 => ?_)
        refine qm_Rp.go 1 (c' := (103, [.ref 118, .int r, .int t4, l36, .float 0], [.ref 118], (h.1, qm_up (qm_up I6 118 20 v32) 133 r.toInt.toNat v33, qm_up h.2.2.1 126 nv.toInt.toNat x6, h.2.2.2))) rfl ?_
        refine qm_Rp.go 1 (c' := (105, [.ref 118, .int r, .int t4, l36, .float 0], [.int 28, .ref 118], (h.1, qm_up (qm_up I6 118 20 v32) 133 r.toInt.toNat v33, qm_up h.2.2.1 126 nv.toInt.toNat x6, h.2.2.2))) rfl ?_
        refine hp_inv (o := 118) (r := []) (as := [.ref 118, .int 28]) rfl rfl (hH.1 118 (17, 105) rfl) rfl rfl rfl ?_
        refine qm_Rp.go 2 (c' := (2, [.ref 118, .int 28], [.int 28, .ref 118], (h.1, qm_up (qm_up I6 118 20 v32) 133 r.toInt.toNat v33, qm_up h.2.2.1 126 nv.toInt.toNat x6, h.2.2.2))) rfl ?_
        refine hp_inv (o := 118) (r := []) (as := [.ref 118, .int 28]) rfl rfl (hH.1 118 (17, 105) rfl) rfl rfl rfl ?_
        refine qm_Rp.go 1 (c' := (1, [.ref 118, .int 28], [.ref 118], (h.1, qm_up (qm_up I6 118 20 v32) 133 r.toInt.toNat v33, qm_up h.2.2.1 126 nv.toInt.toNat x6, h.2.2.2))) rfl ?_
        refine hp_geti (v := 0) rfl (hH.1 118 (17, 105) rfl) rfl (show (qm_up (qm_up I6 118 20 v32) 133 r.toInt.toNat v33) 118 13 = _ from ((hk_ot rfl).trans ((hk_neq (by decide)).trans ((e8_I6 13 rfl).trans ((hk_neq (by decide)).trans ((hk_neq (by decide)).trans q_f)))))) ?_
        refine qm_Rp.go 2 (c' := (8, [.ref 118, .int 28], [.ref 118], (h.1, qm_up (qm_up I6 118 20 v32) 133 r.toInt.toNat v33, qm_up h.2.2.1 126 nv.toInt.toNat x6, h.2.2.2))) rfl ?_
        refine hp_getr rfl (hH.1 118 (17, 105) rfl) rfl (hH.2 118 5 (some 121) rfl) ?_
        refine qm_Rp.go 1 (c' := (12, [.ref 118, .int 28], [.ref 118, .ref 121], (h.1, qm_up (qm_up I6 118 20 v32) 133 r.toInt.toNat v33, qm_up h.2.2.1 126 nv.toInt.toNat x6, h.2.2.2))) rfl ?_
        refine hp_geti (v := t19) rfl (hH.1 118 (17, 105) rfl) rfl (show (qm_up (qm_up I6 118 20 v32) 133 r.toInt.toNat v33) 118 11 = _ from ((hk_ot rfl).trans ((hk_neq (by decide)).trans ((e8_I6 11 rfl).trans (hk_same))))) ?_
        refine qm_Rp.go 0 (c' := (15, [.ref 118, .int 28], [.int t19, .ref 121], (h.1, qm_up (qm_up I6 118 20 v32) 133 r.toInt.toNat v33, qm_up h.2.2.1 126 nv.toInt.toNat x6, h.2.2.2))) rfl ?_
        refine hp_ial (v := kv28) rfl (hH.1 121 (0, 403) rfl) (show (qm_up (qm_up I6 118 20 v32) 133 r.toInt.toNat v33) 121 t19.toInt.toNat = _ from ((hk_ot rfl).trans ((hk_ot rfl).trans ((e_I6 121 rfl t19.toInt.toNat).trans ((hk_ot rfl).trans ((hk_ot rfl).trans q_kv28)))))) (fun ia_34 ib_34 => ?_)
        refine qm_Rp.go 1 (c' := (17, [.ref 118, .int 28], [.int 28, .int kv28], (h.1, qm_up (qm_up I6 118 20 v32) 133 r.toInt.toNat v33, qm_up h.2.2.1 126 nv.toInt.toNat x6, h.2.2.2))) rfl ?_
        refine hp_cne (ix := kv28.toInt) (iy := 28) rfl rfl rfl (fun (z36 : hid (kv28.toInt ≠ 28)) => ?_) (fun z36 => ?_)
        · refine qm_Rp.go 1 (c' := (25, [.ref 118, .int 28], [.int 0], (h.1, qm_up (qm_up I6 118 20 v32) 133 r.toInt.toNat v33, qm_up h.2.2.1 126 nv.toInt.toNat x6, h.2.2.2))) rfl ?_
          refine qm_Rp.rt (v := (some (.int 0))) (h' := (h.1, qm_up (qm_up I6 118 20 v32) 133 r.toInt.toNat v33, qm_up h.2.2.1 126 nv.toInt.toNat x6, h.2.2.2)) rfl ?_
          refine qm_Rp.go 3 (c' := (17, [.ref 118, .int 28], [.int 1, .ref 118], (h.1, qm_up (qm_up I6 118 20 v32) 133 r.toInt.toNat v33, qm_up h.2.2.1 126 nv.toInt.toNat x6, h.2.2.2))) rfl ?_
          refine hp_inv (o := 118) (r := []) (as := [.ref 118, .int 1]) rfl rfl (hH.1 118 (17, 105) rfl) rfl rfl rfl ?_
          refine qm_Rp.go 1 (c' := (1, [.ref 118, .int 1], [.ref 118], (h.1, qm_up (qm_up I6 118 20 v32) 133 r.toInt.toNat v33, qm_up h.2.2.1 126 nv.toInt.toNat x6, h.2.2.2))) rfl ?_
          refine hp_geti (v := 0) rfl (hH.1 118 (17, 105) rfl) rfl (show (qm_up (qm_up I6 118 20 v32) 133 r.toInt.toNat v33) 118 13 = _ from ((hk_ot rfl).trans ((hk_neq (by decide)).trans ((e8_I6 13 rfl).trans ((hk_neq (by decide)).trans ((hk_neq (by decide)).trans q_f)))))) ?_
          refine qm_Rp.go 3 (c' := (10, [.ref 118, .int 1], [.int 1, .ref 118], (h.1, qm_up (qm_up I6 118 20 v32) 133 r.toInt.toNat v33, qm_up h.2.2.1 126 nv.toInt.toNat x6, h.2.2.2))) rfl ?_
          refine hp_puti rfl (hH.1 118 (17, 105) rfl) rfl ?_
          refine qm_Rp.go 2 (c' := (15, [.ref 118, .int 1], [.ref 118, .ref 118], (h.1, qm_up (qm_up (qm_up I6 118 20 v32) 133 r.toInt.toNat v33) 118 13 1, qm_up h.2.2.1 126 nv.toInt.toNat x6, h.2.2.2))) rfl ?_
          refine hp_getr rfl (hH.1 118 (17, 105) rfl) rfl (hH.2 118 6 (some 122) rfl) ?_
          refine qm_Rp.go 1 (c' := (19, [.ref 118, .int 1], [.ref 118, .ref 122, .ref 118], (h.1, qm_up (qm_up (qm_up I6 118 20 v32) 133 r.toInt.toNat v33) 118 13 1, qm_up h.2.2.1 126 nv.toInt.toNat x6, h.2.2.2))) rfl ?_
          refine hp_geti (v := t19) rfl (hH.1 118 (17, 105) rfl) rfl (show (qm_up (qm_up (qm_up I6 118 20 v32) 133 r.toInt.toNat v33) 118 13 1) 118 11 = _ from ((hk_neq (by decide)).trans ((hk_ot rfl).trans ((hk_neq (by decide)).trans ((e8_I6 11 rfl).trans (hk_same)))))) ?_
          refine qm_Rp.go 0 (c' := (22, [.ref 118, .int 1], [.int t19, .ref 122, .ref 118], (h.1, qm_up (qm_up (qm_up I6 118 20 v32) 133 r.toInt.toNat v33) 118 13 1, qm_up h.2.2.1 126 nv.toInt.toNat x6, h.2.2.2))) rfl ?_
          refine hp_ial (v := pv29) rfl (hH.1 122 (0, 403) rfl) (show (qm_up (qm_up (qm_up I6 118 20 v32) 133 r.toInt.toNat v33) 118 13 1) 122 t19.toInt.toNat = _ from ((hk_ot rfl).trans ((hk_ot rfl).trans ((hk_ot rfl).trans ((e_I6 122 rfl t19.toInt.toNat).trans ((hk_ot rfl).trans ((hk_ot rfl).trans q_pv29))))))) (fun ia_36 ib_36 => ?_)
          refine qm_Rp.go 0 (c' := (23, [.ref 118, .int 1], [.int pv29, .ref 118], (h.1, qm_up (qm_up (qm_up I6 118 20 v32) 133 r.toInt.toNat v33) 118 13 1, qm_up h.2.2.1 126 nv.toInt.toNat x6, h.2.2.2))) rfl ?_
          refine hp_puti rfl (hH.1 118 (17, 105) rfl) rfl ?_
          refine qm_Rp.go 0 (c' := (26, [.ref 118, .int 1], [], (h.1, qm_up (qm_up (qm_up (qm_up I6 118 20 v32) 133 r.toInt.toNat v33) 118 13 1) 118 14 pv29, qm_up h.2.2.1 126 nv.toInt.toNat x6, h.2.2.2))) rfl ?_
          refine qm_Rp.rt (v := none) (h' := (h.1, qm_up (qm_up (qm_up (qm_up I6 118 20 v32) 133 r.toInt.toNat v33) 118 13 1) 118 14 pv29, qm_up h.2.2.1 126 nv.toInt.toNat x6, h.2.2.2)) rfl ?_
          refine qm_Rp.go 0 (c' := (20, [.ref 118, .int 28], [], (h.1, qm_up (qm_up (qm_up (qm_up I6 118 20 v32) 133 r.toInt.toNat v33) 118 13 1) 118 14 pv29, qm_up h.2.2.1 126 nv.toInt.toNat x6, h.2.2.2))) rfl ?_
          refine qm_Rp.rt (v := none) (h' := (h.1, qm_up (qm_up (qm_up (qm_up I6 118 20 v32) 133 r.toInt.toNat v33) 118 13 1) 118 14 pv29, qm_up h.2.2.1 126 nv.toInt.toNat x6, h.2.2.2)) rfl ?_
          refine qm_Rp.go 4 (c' := (113, [.ref 118, .int r, .int t4, .int 1, .int 1], [], (h.1, qm_up (qm_up (qm_up (qm_up I6 118 20 v32) 133 r.toInt.toNat v33) 118 13 1) 118 14 pv29, qm_up h.2.2.1 126 nv.toInt.toNat x6, h.2.2.2))) rfl ?_
          refine qm_Rp.go 3 (c' := (119, [.ref 118, .int r, .int t4, .int 1, .int 1], [.ref 118], (h.1, qm_up (qm_up (qm_up (qm_up I6 118 20 v32) 133 r.toInt.toNat v33) 118 13 1) 118 14 pv29, qm_up h.2.2.1 126 nv.toInt.toNat x6, h.2.2.2))) rfl ?_
          refine hp_geti (v := 1) rfl (hH.1 118 (17, 105) rfl) rfl (show (qm_up (qm_up (qm_up (qm_up I6 118 20 v32) 133 r.toInt.toNat v33) 118 13 1) 118 14 pv29) 118 13 = _ from ((hk_neq (by decide)).trans (hk_same))) ?_
          refine qm_Rp.go 2 (c' := (170, [.ref 118, .int r, .int t4, .int 1, .int 1], [.ref 118], (h.1, qm_up (qm_up (qm_up (qm_up I6 118 20 v32) 133 r.toInt.toNat v33) 118 13 1) 118 14 pv29, qm_up h.2.2.1 126 nv.toInt.toNat x6, h.2.2.2))) rfl ?_
          refine hp_getr rfl (hH.1 118 (17, 105) rfl) rfl (hH.2 118 29 (some 134) rfl) ?_
          refine qm_Rp.go 2 (c' := (175, [.ref 118, .int r, .int t4, .int 1, .int 1], [.ref 118, .int r, .ref 134], (h.1, qm_up (qm_up (qm_up (qm_up I6 118 20 v32) 133 r.toInt.toNat v33) 118 13 1) 118 14 pv29, qm_up h.2.2.1 126 nv.toInt.toNat x6, h.2.2.2))) rfl ?_
          refine hp_geti (v := v33) rfl (hH.1 118 (17, 105) rfl) rfl (show (qm_up (qm_up (qm_up (qm_up I6 118 20 v32) 133 r.toInt.toNat v33) 118 13 1) 118 14 pv29) 118 30 = _ from ((hk_neq (by decide)).trans ((hk_neq (by decide)).trans ((hk_ot rfl).trans ((hk_neq (by decide)).trans ((e8_I6 30 rfl).trans ((hk_neq (by decide)).trans ((hk_neq (by decide)).trans q_v33)))))))) ?_
          refine qm_Rp.go 0 (c' := (178, [.ref 118, .int r, .int t4, .int 1, .int 1], [.int v33, .int r, .ref 134], (h.1, qm_up (qm_up (qm_up (qm_up I6 118 20 v32) 133 r.toInt.toNat v33) 118 13 1) 118 14 pv29, qm_up h.2.2.1 126 nv.toInt.toNat x6, h.2.2.2))) rfl ?_
          refine hp_ias rfl (hH.1 134 (0, 32) rfl) (fun ia_37 ib_37 => ?_)
          refine qm_Rp.go 2 (c' := (181, [.ref 118, .int r, .int t4, .int 1, .int 1], [.int 4, .ref 118], (h.1, qm_up (qm_up (qm_up (qm_up (qm_up I6 118 20 v32) 133 r.toInt.toNat v33) 118 13 1) 118 14 pv29) 134 r.toInt.toNat v33, qm_up h.2.2.1 126 nv.toInt.toNat x6, h.2.2.2))) rfl ?_
          refine hp_inv (o := 118) (r := []) (as := [.ref 118, .int 4]) rfl rfl (hH.1 118 (17, 105) rfl) rfl rfl rfl ?_
          refine qm_Rp.go 2 (c' := (2, [.ref 118, .int 4], [.int 4, .ref 118], (h.1, qm_up (qm_up (qm_up (qm_up (qm_up I6 118 20 v32) 133 r.toInt.toNat v33) 118 13 1) 118 14 pv29) 134 r.toInt.toNat v33, qm_up h.2.2.1 126 nv.toInt.toNat x6, h.2.2.2))) rfl ?_
          refine hp_inv (o := 118) (r := []) (as := [.ref 118, .int 4]) rfl rfl (hH.1 118 (17, 105) rfl) rfl rfl rfl ?_
          refine qm_Rp.go 1 (c' := (1, [.ref 118, .int 4], [.ref 118], (h.1, qm_up (qm_up (qm_up (qm_up (qm_up I6 118 20 v32) 133 r.toInt.toNat v33) 118 13 1) 118 14 pv29) 134 r.toInt.toNat v33, qm_up h.2.2.1 126 nv.toInt.toNat x6, h.2.2.2))) rfl ?_
          refine hp_geti (v := 1) rfl (hH.1 118 (17, 105) rfl) rfl (show (qm_up (qm_up (qm_up (qm_up (qm_up I6 118 20 v32) 133 r.toInt.toNat v33) 118 13 1) 118 14 pv29) 134 r.toInt.toNat v33) 118 13 = _ from ((hk_ot rfl).trans ((hk_neq (by decide)).trans (hk_same)))) ?_
          refine qm_Rp.go 2 (c' := (25, [.ref 118, .int 4], [.int 0], (h.1, qm_up (qm_up (qm_up (qm_up (qm_up I6 118 20 v32) 133 r.toInt.toNat v33) 118 13 1) 118 14 pv29) 134 r.toInt.toNat v33, qm_up h.2.2.1 126 nv.toInt.toNat x6, h.2.2.2))) rfl ?_
          refine qm_Rp.rt (v := (some (.int 0))) (h' := (h.1, qm_up (qm_up (qm_up (qm_up (qm_up I6 118 20 v32) 133 r.toInt.toNat v33) 118 13 1) 118 14 pv29) 134 r.toInt.toNat v33, qm_up h.2.2.1 126 nv.toInt.toNat x6, h.2.2.2)) rfl ?_
          refine qm_Rp.go 3 (c' := (17, [.ref 118, .int 4], [.int 1, .ref 118], (h.1, qm_up (qm_up (qm_up (qm_up (qm_up I6 118 20 v32) 133 r.toInt.toNat v33) 118 13 1) 118 14 pv29) 134 r.toInt.toNat v33, qm_up h.2.2.1 126 nv.toInt.toNat x6, h.2.2.2))) rfl ?_
          refine hp_inv (o := 118) (r := []) (as := [.ref 118, .int 1]) rfl rfl (hH.1 118 (17, 105) rfl) rfl rfl rfl ?_
          refine qm_Rp.go 1 (c' := (1, [.ref 118, .int 1], [.ref 118], (h.1, qm_up (qm_up (qm_up (qm_up (qm_up I6 118 20 v32) 133 r.toInt.toNat v33) 118 13 1) 118 14 pv29) 134 r.toInt.toNat v33, qm_up h.2.2.1 126 nv.toInt.toNat x6, h.2.2.2))) rfl ?_
          refine hp_geti (v := 1) rfl (hH.1 118 (17, 105) rfl) rfl (show (qm_up (qm_up (qm_up (qm_up (qm_up I6 118 20 v32) 133 r.toInt.toNat v33) 118 13 1) 118 14 pv29) 134 r.toInt.toNat v33) 118 13 = _ from ((hk_ot rfl).trans ((hk_neq (by decide)).trans (hk_same)))) ?_
          refine qm_Rp.go 1 (c' := (7, [.ref 118, .int 1], [], (h.1, qm_up (qm_up (qm_up (qm_up (qm_up I6 118 20 v32) 133 r.toInt.toNat v33) 118 13 1) 118 14 pv29) 134 r.toInt.toNat v33, qm_up h.2.2.1 126 nv.toInt.toNat x6, h.2.2.2))) rfl ?_
          refine qm_Rp.rt (v := none) (h' := (h.1, qm_up (qm_up (qm_up (qm_up (qm_up I6 118 20 v32) 133 r.toInt.toNat v33) 118 13 1) 118 14 pv29) 134 r.toInt.toNat v33, qm_up h.2.2.1 126 nv.toInt.toNat x6, h.2.2.2)) rfl ?_
          refine qm_Rp.go 0 (c' := (20, [.ref 118, .int 4], [], (h.1, qm_up (qm_up (qm_up (qm_up (qm_up I6 118 20 v32) 133 r.toInt.toNat v33) 118 13 1) 118 14 pv29) 134 r.toInt.toNat v33, qm_up h.2.2.1 126 nv.toInt.toNat x6, h.2.2.2))) rfl ?_
          refine qm_Rp.rt (v := none) (h' := (h.1, qm_up (qm_up (qm_up (qm_up (qm_up I6 118 20 v32) 133 r.toInt.toNat v33) 118 13 1) 118 14 pv29) 134 r.toInt.toNat v33, qm_up h.2.2.1 126 nv.toInt.toNat x6, h.2.2.2)) rfl ?_
          refine qm_Rp.go 0 (c' := (184, [.ref 118, .int r, .int t4, .int 1, .int 1], [], (h.1, qm_up (qm_up (qm_up (qm_up (qm_up I6 118 20 v32) 133 r.toInt.toNat v33) 118 13 1) 118 14 pv29) 134 r.toInt.toNat v33, qm_up h.2.2.1 126 nv.toInt.toNat x6, h.2.2.2))) rfl ?_
          refine qm_Rp.rt (v := none) (h' := (h.1, qm_up (qm_up (qm_up (qm_up (qm_up I6 118 20 v32) 133 r.toInt.toNat v33) 118 13 1) 118 14 pv29) 134 r.toInt.toNat v33, qm_up h.2.2.1 126 nv.toInt.toNat x6, h.2.2.2)) rfl ?_
          have kq40 : tK B n t19.toInt.toNat ≠ 8 := rTk_P (P := fun x => x ≠ 28) (Q := fun d => d ≠ 8) ht_kv28 (by decide +kernel) z36
          have rf39 : rfin B n 1 pv29 := r_6n hF24 rfl kq40 rfl hp_kv28
          exact k1 (qm_up (qm_up (qm_up (qm_up (qm_up I6 118 20 v32) 133 r.toInt.toNat v33) 118 13 1) 118 14 pv29) 134 r.toInt.toNat v33) (qm_up h.2.2.1 126 nv.toInt.toNat x6) 1 pv29 (fun o ho i => ((hk_mod ho rfl).trans ((hk_mod ho rfl).trans ((hk_mod ho rfl).trans ((hk_mod ho rfl).trans ((hk_mod ho rfl).trans ((e_I6 o (hk_ms rfl ho) i).trans ((hk_mod ho rfl).trans ((hk_mod ho rfl).trans rfl))))))))) (fun i hi => ((hk_ot rfl).trans ((hk_neq (fun z => by subst z; cases hi)).trans ((hk_neq (fun z => by subst z; cases hi)).trans ((hk_ot rfl).trans ((hk_neq (fun z => by subst z; cases hi)).trans ((e8_I6 i (hk_ms rfl hi)).trans ((hk_neq (fun z => by subst z; cases hi)).trans ((hk_neq (fun z => by subst z; cases hi)).trans rfl))))))))) (fun o ho i => ((hj_mod ho rfl).trans rfl)) (show (qm_up (qm_up (qm_up (qm_up (qm_up I6 118 20 v32) 133 r.toInt.toNat v33) 118 13 1) 118 14 pv29) 134 r.toInt.toNat v33) 118 13 = _ from ((hk_ot rfl).trans ((hk_neq (by decide)).trans (hk_same)))) (show (qm_up (qm_up (qm_up (qm_up (qm_up I6 118 20 v32) 133 r.toInt.toNat v33) 118 13 1) 118 14 pv29) 134 r.toInt.toNat v33) 118 14 = _ from ((hk_ot rfl).trans (hk_same))) rf39
        · refine qm_Rp.go 2 (c' := (25, [.ref 118, .int 28], [.int 1], (h.1, qm_up (qm_up I6 118 20 v32) 133 r.toInt.toNat v33, qm_up h.2.2.1 126 nv.toInt.toNat x6, h.2.2.2))) rfl ?_
          refine qm_Rp.rt (v := (some (.int 1))) (h' := (h.1, qm_up (qm_up I6 118 20 v32) 133 r.toInt.toNat v33, qm_up h.2.2.1 126 nv.toInt.toNat x6, h.2.2.2)) rfl ?_
          refine qm_Rp.go 2 (c' := (9, [.ref 118, .int 28], [.ref 118], (h.1, qm_up (qm_up I6 118 20 v32) 133 r.toInt.toNat v33, qm_up h.2.2.1 126 nv.toInt.toNat x6, h.2.2.2))) rfl ?_
          refine hp_inv (o := 118) (r := []) (as := [.ref 118]) rfl rfl (hH.1 118 (17, 105) rfl) rfl rfl rfl (px_go (h := (h.1, qm_up (qm_up I6 118 20 v32) 133 r.toInt.toNat v33, qm_up h.2.2.1 126 nv.toInt.toNat x6, h.2.2.2)) hH (show (qm_up (qm_up I6 118 20 v32) 133 r.toInt.toNat v33) 118 11 = _ from ((hk_ot rfl).trans ((hk_neq (by decide)).trans ((e8_I6 11 rfl).trans (hk_same))))) (show (qm_up (qm_up I6 118 20 v32) 133 r.toInt.toNat v33) 118 13 = _ from ((hk_ot rfl).trans ((hk_neq (by decide)).trans ((e8_I6 13 rfl).trans ((hk_neq (by decide)).trans ((hk_neq (by decide)).trans q_f)))))) htb_kv28 (fun fp41 q_fp41 x4_fp41 => ?_) (fun t42 e_t42 x4_t42 => ?_))
          · have ex_fp41 : fp41 = pv29 := (q_fp41.symm.trans (show (qm_up (qm_up I6 118 20 v32) 133 r.toInt.toNat v33) 122 t19.toInt.toNat = _ from ((hk_ot rfl).trans ((hk_ot rfl).trans ((e_I6 122 rfl t19.toInt.toNat).trans ((hk_ot rfl).trans ((hk_ot rfl).trans q_pv29)))))))
            have kq43 : tK B n t19.toInt.toNat ≠ 37 := rTk_P (P := fun x => x = 28) (Q := fun d => d ≠ 37) ht_kv28 (by decide +kernel) z36
            have kq44 : tK B n t19.toInt.toNat = 8 := rTk_P (P := fun x => x = 28) (Q := fun d => d = 8) ht_kv28 (by decide +kernel) z36
            have rf45 : rfin B n 2 fp41 := r2_go hF24 kq43 (fo_6a ⟨rfl, kq44⟩) (by decide) x4_fp41 rfl ((congrArg Int32.toInt ex_fp41).trans hp_kv28)
            refine qm_Rp.go 1 (c' := (20, [.ref 118, .int 28], [], (h.1, qm_up (qm_up (qm_up (qm_up I6 118 20 v32) 133 r.toInt.toNat v33) 118 13 2) 118 14 fp41, qm_up h.2.2.1 126 nv.toInt.toNat x6, h.2.2.2))) rfl ?_
            refine qm_Rp.rt (v := none) (h' := (h.1, qm_up (qm_up (qm_up (qm_up I6 118 20 v32) 133 r.toInt.toNat v33) 118 13 2) 118 14 fp41, qm_up h.2.2.1 126 nv.toInt.toNat x6, h.2.2.2)) rfl ?_
            refine qm_Rp.go 4 (c' := (113, [.ref 118, .int r, .int t4, .int 1, .int 1], [], (h.1, qm_up (qm_up (qm_up (qm_up I6 118 20 v32) 133 r.toInt.toNat v33) 118 13 2) 118 14 fp41, qm_up h.2.2.1 126 nv.toInt.toNat x6, h.2.2.2))) rfl ?_
            refine qm_Rp.go 3 (c' := (119, [.ref 118, .int r, .int t4, .int 1, .int 1], [.ref 118], (h.1, qm_up (qm_up (qm_up (qm_up I6 118 20 v32) 133 r.toInt.toNat v33) 118 13 2) 118 14 fp41, qm_up h.2.2.1 126 nv.toInt.toNat x6, h.2.2.2))) rfl ?_
            refine hp_geti (v := 2) rfl (hH.1 118 (17, 105) rfl) rfl (show (qm_up (qm_up (qm_up (qm_up I6 118 20 v32) 133 r.toInt.toNat v33) 118 13 2) 118 14 fp41) 118 13 = _ from ((hk_neq (by decide)).trans (hk_same))) ?_
            refine qm_Rp.go 2 (c' := (170, [.ref 118, .int r, .int t4, .int 1, .int 1], [.ref 118], (h.1, qm_up (qm_up (qm_up (qm_up I6 118 20 v32) 133 r.toInt.toNat v33) 118 13 2) 118 14 fp41, qm_up h.2.2.1 126 nv.toInt.toNat x6, h.2.2.2))) rfl ?_
            refine hp_getr rfl (hH.1 118 (17, 105) rfl) rfl (hH.2 118 29 (some 134) rfl) ?_
            refine qm_Rp.go 2 (c' := (175, [.ref 118, .int r, .int t4, .int 1, .int 1], [.ref 118, .int r, .ref 134], (h.1, qm_up (qm_up (qm_up (qm_up I6 118 20 v32) 133 r.toInt.toNat v33) 118 13 2) 118 14 fp41, qm_up h.2.2.1 126 nv.toInt.toNat x6, h.2.2.2))) rfl ?_
            refine hp_geti (v := v33) rfl (hH.1 118 (17, 105) rfl) rfl (show (qm_up (qm_up (qm_up (qm_up I6 118 20 v32) 133 r.toInt.toNat v33) 118 13 2) 118 14 fp41) 118 30 = _ from ((hk_neq (by decide)).trans ((hk_neq (by decide)).trans ((hk_ot rfl).trans ((hk_neq (by decide)).trans ((e8_I6 30 rfl).trans ((hk_neq (by decide)).trans ((hk_neq (by decide)).trans q_v33)))))))) ?_
            refine qm_Rp.go 0 (c' := (178, [.ref 118, .int r, .int t4, .int 1, .int 1], [.int v33, .int r, .ref 134], (h.1, qm_up (qm_up (qm_up (qm_up I6 118 20 v32) 133 r.toInt.toNat v33) 118 13 2) 118 14 fp41, qm_up h.2.2.1 126 nv.toInt.toNat x6, h.2.2.2))) rfl ?_
            refine hp_ias rfl (hH.1 134 (0, 32) rfl) (fun ia_45 ib_45 => ?_)
            refine qm_Rp.go 2 (c' := (181, [.ref 118, .int r, .int t4, .int 1, .int 1], [.int 4, .ref 118], (h.1, qm_up (qm_up (qm_up (qm_up (qm_up I6 118 20 v32) 133 r.toInt.toNat v33) 118 13 2) 118 14 fp41) 134 r.toInt.toNat v33, qm_up h.2.2.1 126 nv.toInt.toNat x6, h.2.2.2))) rfl ?_
            refine hp_inv (o := 118) (r := []) (as := [.ref 118, .int 4]) rfl rfl (hH.1 118 (17, 105) rfl) rfl rfl rfl ?_
            refine qm_Rp.go 2 (c' := (2, [.ref 118, .int 4], [.int 4, .ref 118], (h.1, qm_up (qm_up (qm_up (qm_up (qm_up I6 118 20 v32) 133 r.toInt.toNat v33) 118 13 2) 118 14 fp41) 134 r.toInt.toNat v33, qm_up h.2.2.1 126 nv.toInt.toNat x6, h.2.2.2))) rfl ?_
            refine hp_inv (o := 118) (r := []) (as := [.ref 118, .int 4]) rfl rfl (hH.1 118 (17, 105) rfl) rfl rfl rfl ?_
            refine qm_Rp.go 1 (c' := (1, [.ref 118, .int 4], [.ref 118], (h.1, qm_up (qm_up (qm_up (qm_up (qm_up I6 118 20 v32) 133 r.toInt.toNat v33) 118 13 2) 118 14 fp41) 134 r.toInt.toNat v33, qm_up h.2.2.1 126 nv.toInt.toNat x6, h.2.2.2))) rfl ?_
            refine hp_geti (v := 2) rfl (hH.1 118 (17, 105) rfl) rfl (show (qm_up (qm_up (qm_up (qm_up (qm_up I6 118 20 v32) 133 r.toInt.toNat v33) 118 13 2) 118 14 fp41) 134 r.toInt.toNat v33) 118 13 = _ from ((hk_ot rfl).trans ((hk_neq (by decide)).trans (hk_same)))) ?_
            refine qm_Rp.go 2 (c' := (25, [.ref 118, .int 4], [.int 0], (h.1, qm_up (qm_up (qm_up (qm_up (qm_up I6 118 20 v32) 133 r.toInt.toNat v33) 118 13 2) 118 14 fp41) 134 r.toInt.toNat v33, qm_up h.2.2.1 126 nv.toInt.toNat x6, h.2.2.2))) rfl ?_
            refine qm_Rp.rt (v := (some (.int 0))) (h' := (h.1, qm_up (qm_up (qm_up (qm_up (qm_up I6 118 20 v32) 133 r.toInt.toNat v33) 118 13 2) 118 14 fp41) 134 r.toInt.toNat v33, qm_up h.2.2.1 126 nv.toInt.toNat x6, h.2.2.2)) rfl ?_
            refine qm_Rp.go 3 (c' := (17, [.ref 118, .int 4], [.int 1, .ref 118], (h.1, qm_up (qm_up (qm_up (qm_up (qm_up I6 118 20 v32) 133 r.toInt.toNat v33) 118 13 2) 118 14 fp41) 134 r.toInt.toNat v33, qm_up h.2.2.1 126 nv.toInt.toNat x6, h.2.2.2))) rfl ?_
            refine hp_inv (o := 118) (r := []) (as := [.ref 118, .int 1]) rfl rfl (hH.1 118 (17, 105) rfl) rfl rfl rfl ?_
            refine qm_Rp.go 1 (c' := (1, [.ref 118, .int 1], [.ref 118], (h.1, qm_up (qm_up (qm_up (qm_up (qm_up I6 118 20 v32) 133 r.toInt.toNat v33) 118 13 2) 118 14 fp41) 134 r.toInt.toNat v33, qm_up h.2.2.1 126 nv.toInt.toNat x6, h.2.2.2))) rfl ?_
            refine hp_geti (v := 2) rfl (hH.1 118 (17, 105) rfl) rfl (show (qm_up (qm_up (qm_up (qm_up (qm_up I6 118 20 v32) 133 r.toInt.toNat v33) 118 13 2) 118 14 fp41) 134 r.toInt.toNat v33) 118 13 = _ from ((hk_ot rfl).trans ((hk_neq (by decide)).trans (hk_same)))) ?_
            refine qm_Rp.go 1 (c' := (7, [.ref 118, .int 1], [], (h.1, qm_up (qm_up (qm_up (qm_up (qm_up I6 118 20 v32) 133 r.toInt.toNat v33) 118 13 2) 118 14 fp41) 134 r.toInt.toNat v33, qm_up h.2.2.1 126 nv.toInt.toNat x6, h.2.2.2))) rfl ?_
            refine qm_Rp.rt (v := none) (h' := (h.1, qm_up (qm_up (qm_up (qm_up (qm_up I6 118 20 v32) 133 r.toInt.toNat v33) 118 13 2) 118 14 fp41) 134 r.toInt.toNat v33, qm_up h.2.2.1 126 nv.toInt.toNat x6, h.2.2.2)) rfl ?_
            refine qm_Rp.go 0 (c' := (20, [.ref 118, .int 4], [], (h.1, qm_up (qm_up (qm_up (qm_up (qm_up I6 118 20 v32) 133 r.toInt.toNat v33) 118 13 2) 118 14 fp41) 134 r.toInt.toNat v33, qm_up h.2.2.1 126 nv.toInt.toNat x6, h.2.2.2))) rfl ?_
            refine qm_Rp.rt (v := none) (h' := (h.1, qm_up (qm_up (qm_up (qm_up (qm_up I6 118 20 v32) 133 r.toInt.toNat v33) 118 13 2) 118 14 fp41) 134 r.toInt.toNat v33, qm_up h.2.2.1 126 nv.toInt.toNat x6, h.2.2.2)) rfl ?_
            refine qm_Rp.go 0 (c' := (184, [.ref 118, .int r, .int t4, .int 1, .int 1], [], (h.1, qm_up (qm_up (qm_up (qm_up (qm_up I6 118 20 v32) 133 r.toInt.toNat v33) 118 13 2) 118 14 fp41) 134 r.toInt.toNat v33, qm_up h.2.2.1 126 nv.toInt.toNat x6, h.2.2.2))) rfl ?_
            refine qm_Rp.rt (v := none) (h' := (h.1, qm_up (qm_up (qm_up (qm_up (qm_up I6 118 20 v32) 133 r.toInt.toNat v33) 118 13 2) 118 14 fp41) 134 r.toInt.toNat v33, qm_up h.2.2.1 126 nv.toInt.toNat x6, h.2.2.2)) rfl ?_
            exact k1 (qm_up (qm_up (qm_up (qm_up (qm_up I6 118 20 v32) 133 r.toInt.toNat v33) 118 13 2) 118 14 fp41) 134 r.toInt.toNat v33) (qm_up h.2.2.1 126 nv.toInt.toNat x6) 2 fp41 (fun o ho i => ((hk_mod ho rfl).trans ((hk_mod ho rfl).trans ((hk_mod ho rfl).trans ((hk_mod ho rfl).trans ((hk_mod ho rfl).trans ((e_I6 o (hk_ms rfl ho) i).trans ((hk_mod ho rfl).trans ((hk_mod ho rfl).trans rfl))))))))) (fun i hi => ((hk_ot rfl).trans ((hk_neq (fun z => by subst z; cases hi)).trans ((hk_neq (fun z => by subst z; cases hi)).trans ((hk_ot rfl).trans ((hk_neq (fun z => by subst z; cases hi)).trans ((e8_I6 i (hk_ms rfl hi)).trans ((hk_neq (fun z => by subst z; cases hi)).trans ((hk_neq (fun z => by subst z; cases hi)).trans rfl))))))))) (fun o ho i => ((hj_mod ho rfl).trans rfl)) (show (qm_up (qm_up (qm_up (qm_up (qm_up I6 118 20 v32) 133 r.toInt.toNat v33) 118 13 2) 118 14 fp41) 134 r.toInt.toNat v33) 118 13 = _ from ((hk_ot rfl).trans ((hk_neq (by decide)).trans (hk_same)))) (show (qm_up (qm_up (qm_up (qm_up (qm_up I6 118 20 v32) 133 r.toInt.toNat v33) 118 13 2) 118 14 fp41) 134 r.toInt.toNat v33) 118 14 = _ from ((hk_ot rfl).trans (hk_same))) rf45
          · have t0_t42 := q_t0 e_t42 t0_t19
            have kq48 : tK B n t19.toInt.toNat = 8 := rTk_P (P := fun x => x = 28) (Q := fun d => d = 8) ht_kv28 (by decide +kernel) z36
            have kq49 : tK B n t19.toInt.toNat ≠ 35 ∧ tK B n t19.toInt.toNat ≠ 6 ∧ tK B n t19.toInt.toNat ≠ 7 := rTk_P (P := fun x => x = 28) (Q := fun d => d ≠ 35 ∧ d ≠ 6 ∧ d ≠ 7) ht_kv28 (by decide +kernel) z36
            have hF47 := fS_t6 (m2 := t42.toInt.toNat) hF24 kq48 (q_m4 t0_t19 x4_t42) (q_nf kq49) (q_m t0_t19 e_t42)
            refine qm_Rp.go 1 (c' := (20, [.ref 118, .int 28], [], (h.1, qm_up (qm_up (qm_up I6 118 20 v32) 133 r.toInt.toNat v33) 118 11 t42, qm_up h.2.2.1 126 nv.toInt.toNat x6, h.2.2.2))) rfl ?_
            refine qm_Rp.rt (v := none) (h' := (h.1, qm_up (qm_up (qm_up I6 118 20 v32) 133 r.toInt.toNat v33) 118 11 t42, qm_up h.2.2.1 126 nv.toInt.toNat x6, h.2.2.2)) rfl ?_
            refine qm_Rp.go 4 (c' := (113, [.ref 118, .int r, .int t4, .int 1, .int 1], [], (h.1, qm_up (qm_up (qm_up I6 118 20 v32) 133 r.toInt.toNat v33) 118 11 t42, qm_up h.2.2.1 126 nv.toInt.toNat x6, h.2.2.2))) rfl ?_
            have hA9 : rAll B n (qm_up (qm_up (qm_up I6 118 20 v32) 133 r.toInt.toNat v33) 118 11 t42) (qm_up h.2.2.1 126 nv.toInt.toNat x6) := rAll_cg hA (fun o ho i => ((hk_ot (n_in2 ho rfl)).trans ((hk_ot (n_in2 ho rfl)).trans ((hk_ot (n_in2 ho rfl)).trans ((e_I6 o (r_ni ho rfl) i).trans ((hk_ot (n_in2 ho rfl)).trans ((hk_ot (n_in2 ho rfl)).trans rfl))))))) (fun i => ((hj_ot rfl).trans rfl))
            refine px_rul (h := (h.1, qm_up (qm_up (qm_up I6 118 20 v32) 133 r.toInt.toNat v33) 118 11 t42, qm_up h.2.2.1 126 nv.toInt.toNat x6, h.2.2.2)) hH hA9 (fun I7 t7 pr7 pl7 e_I7 e8_I7 q_t7 o_I7 f_I7 t0_7 hp7 hl7 hF7 => ?_) (fun I8 f8 fp8 e_I8 e8_I8 q_f8 q_fp8 rf8 => ?_) g6 (qm_up (qm_up (qm_up I6 118 20 v32) 133 r.toInt.toNat v33) 118 11 t42) t42 1 (fun _ _ _ => rfl) (fun _ _ => rfl) (show (qm_up (qm_up (qm_up I6 118 20 v32) 133 r.toInt.toNat v33) 118 11 t42) 118 11 = _ from (hk_same)) (show (qm_up (qm_up (qm_up I6 118 20 v32) 133 r.toInt.toNat v33) 118 11 t42) 118 12 = _ from ((hk_neq (by decide)).trans ((hk_ot rfl).trans ((hk_neq (by decide)).trans ((e8_I6 12 rfl).trans ((hk_neq (by decide)).trans ((hk_neq (by decide)).trans q_op))))))) (show (qm_up (qm_up (qm_up I6 118 20 v32) 133 r.toInt.toNat v33) 118 11 t42) 118 13 = _ from ((hk_neq (by decide)).trans ((hk_ot rfl).trans ((hk_neq (by decide)).trans ((e8_I6 13 rfl).trans ((hk_neq (by decide)).trans ((hk_neq (by decide)).trans q_f))))))) t0_t42 hF47 ⟨by decide, by decide⟩
            · have e_I7 : (∀ o, [118, 134, 135, 136, 137, 138, 139, 140, 141, 142, 143].contains o = false → ∀ i, I7 o i = (qm_up (qm_up (qm_up I6 118 20 v32) 133 r.toInt.toNat v33) 118 11 t42) o i) := e_I7
              have e8_I7 : (∀ i, [11, 12, 13, 14, 30, 37, 41].contains i = false → I7 118 i = (qm_up (qm_up (qm_up I6 118 20 v32) 133 r.toInt.toNat v33) 118 11 t42) 118 i) := e8_I7
              exact k0 (I7) (qm_up h.2.2.1 126 nv.toInt.toNat x6) t7 ws6 wp6 v32 _ _ _ pr7 pl7 _ (fun o ho i => ((e_I7 o (hk_ms rfl ho) i).trans ((hk_mod ho rfl).trans ((hk_mod ho rfl).trans ((hk_mod ho rfl).trans ((e_I6 o (hk_ms rfl ho) i).trans ((hk_mod ho rfl).trans ((hk_mod ho rfl).trans rfl)))))))) (fun i hi => ((e8_I7 i (hk_ms rfl hi)).trans ((hk_neq (fun z => by subst z; cases hi)).trans ((hk_ot rfl).trans ((hk_neq (fun z => by subst z; cases hi)).trans ((e8_I6 i (hk_ms rfl hi)).trans ((hk_neq (fun z => by subst z; cases hi)).trans ((hk_neq (fun z => by subst z; cases hi)).trans rfl)))))))) (fun o ho i => ((hj_mod ho rfl).trans rfl)) q_t7 o_I7 f_I7 (show (I7) 118 15 = _ from ((e8_I7 15 rfl).trans ((hk_neq (by decide)).trans ((hk_ot rfl).trans ((hk_neq (by decide)).trans q_ws6))))) (show (I7) 118 16 = _ from ((e8_I7 16 rfl).trans ((hk_neq (by decide)).trans ((hk_ot rfl).trans ((hk_neq (by decide)).trans q_wp6))))) (show (I7) 118 20 = _ from ((e8_I7 20 rfl).trans ((hk_neq (by decide)).trans ((hk_ot rfl).trans (hk_same))))) t0_7 hF7 ⟨by rw [hf56.1]; exact hws6, fun z9 => by rw [hf56.1, ← hws6] at z9; rw [hf56.2, ← hp_kv8]; exact hwp6 z9, by omega, ⟨hp7, hl7⟩, fun z9 => by rw [hf56.1] at z9; split at z9 <;> omega⟩ (fun y hy => by
                show (qm_up h.2.2.1 126 nv.toInt.toNat x6) 126 y = f14 5 nm T (tM B n t4.toInt.toNat) y
                unfold f14
                by_cases c9 : (y : Int) = nm
                · rw [if_pos ⟨rfl, c9⟩, show y = nv.toInt.toNat by omega, hx6]; exact hj_same
                · rw [if_neg (fun z => c9 z.2)]; exact (hj_neq (by omega)).trans (hT y (by omega)))
            · have e_I8 : (∀ o, [118, 134, 135, 136, 137, 138, 139, 140, 141, 142, 143].contains o = false → ∀ i, I8 o i = (qm_up (qm_up (qm_up I6 118 20 v32) 133 r.toInt.toNat v33) 118 11 t42) o i) := e_I8
              have e8_I8 : (∀ i, [11, 12, 13, 14, 30, 37, 41].contains i = false → I8 118 i = (qm_up (qm_up (qm_up I6 118 20 v32) 133 r.toInt.toNat v33) 118 11 t42) 118 i) := e8_I8
              exact k1 (I8) (qm_up h.2.2.1 126 nv.toInt.toNat x6) f8 fp8 (fun o ho i => ((e_I8 o (hk_ms rfl ho) i).trans ((hk_mod ho rfl).trans ((hk_mod ho rfl).trans ((hk_mod ho rfl).trans ((e_I6 o (hk_ms rfl ho) i).trans ((hk_mod ho rfl).trans ((hk_mod ho rfl).trans rfl)))))))) (fun i hi => ((e8_I8 i (hk_ms rfl hi)).trans ((hk_neq (fun z => by subst z; cases hi)).trans ((hk_ot rfl).trans ((hk_neq (fun z => by subst z; cases hi)).trans ((e8_I6 i (hk_ms rfl hi)).trans ((hk_neq (fun z => by subst z; cases hi)).trans ((hk_neq (fun z => by subst z; cases hi)).trans rfl)))))))) (fun o ho i => ((hj_mod ho rfl).trans rfl)) q_f8 q_fp8 rf8
