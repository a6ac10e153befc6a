theorem n_in2 {L : List Nat} {o w : Nat} (ho : o ∈ L) (hw : L.contains w = false) : Nat.beq o w = false := qm_bne (fun e => by
  subst e
  rw [List.contains_iff_mem.mpr ho] at hw
  cases hw)
theorem r_ni {L M : List Nat} {o : Nat} (ho : o ∈ L) (h : L.all (fun x => !M.contains x) = true) : M.contains o = false := by
  have := List.all_eq_true.mp h o ho
  cases hc : M.contains o with
  | false => rfl
  | true =>
    rw [hc] at this
    cases this
theorem rAll_cg {B : Nat → Int32} {n : Nat} {I I2 : Nat → Nat → Int32} {J J2 : Nat → Nat → Int64} (h : rAll B n I J) (e : ∀ o ∈ [121, 122, 123], ∀ i, I2 o i = I o i) (ej : ∀ i, J2 124 i = J 124 i) : rAll B n I2 J2 := by
  intro y hy hz x hx
  have := h y hy hz x hx
  rw [e 121 (by decide), e 122 (by decide), e 123 (by decide), ej]
  exact this
set_option maxHeartbeats 20000000 in
theorem px_lil {X : Option (Nat × (Nat → Int32))} {Z : Option Value → qm_H → Prop} {h : qm_H} (hH : hk_H h) {B : Nat → Int32} {n : Nat} (hA : rAll B n h.2.1 h.2.2.1) {td rt nm lf lp b li tr be lt pr pl : Int} {T : Nat → Int64} {w : Int32} (hw : 0 ≤ w.toInt ∧ w.toInt ≤ 1) (hrt : rt = 0) (q_op : h.2.1 118 12 = 0) (k0 : ∀ (I : Nat → Nat → Int32) (t : Int32), (∀ o, [118, 135, 136, 137, 138, 139, 140, 141, 142, 143].contains o = false → ∀ i, I o i = h.2.1 o i) → (∀ i, [11, 12, 13, 14, 30, 37, 41].contains i = false → I 118 i = h.2.1 118 i) → I 118 11 = t → I 118 12 = 0 → I 118 13 = 0 → 0 ≤ t.toInt → fS B n t.toInt.toNat = some (9, td, 0, 1, nm, lf, lp, b, li, tr, be, lt, pr, pl, T) → ¬ (28 ≤ tK B n t.toInt.toNat ∧ tK B n t.toInt.toNat ≤ 30) → Z none (h.1, I, h.2.2.1, h.2.2.2)) (k1 : ∀ (I : Nat → Nat → Int32) (f fp op : Int32), (∀ o, [118, 135, 136, 137, 138, 139, 140, 141, 142, 143].contains o = false → ∀ i, I o i = h.2.1 o i) → (∀ i, [11, 12, 13, 14, 30, 37, 41].contains i = false → I 118 i = h.2.1 118 i) → I 118 12 = op → I 118 13 = f → I 118 14 = fp → rfin B n f fp → Z none (h.1, I, h.2.2.1, h.2.2.2)) : ∀ (fu : Nat) (I : Nat → Nat → Int32) (t ng : Int32), ((∀ o, [118].contains o = false → ∀ i, I o i = h.2.1 o i)) → ((∀ i, [11, 13, 14].contains i = false → I 118 i = h.2.1 118 i)) → (I 118 11 = t) → (I 118 13 = 0) → (0 ≤ t.toInt) → (fS B n t.toInt.toNat = some (7, td, 0, rt, nm, lf, lp, b, li, tr, be, lt, pr, pl, T)) → ∀ l3 l4 l5 : Value, (0 ≤ ng.toInt ∧ ng.toInt ≤ 1) → qm_Rp fu X cd_263 (2, [.ref 118, .int w, .int ng, l3, l4, l5], [], (h.1, I, h.2.2.1, h.2.2.2)) Z := by
  intro fu
  induction fu using Nat.strongRecOn with
  | ind fu ih =>
    intro I t ng e e8 q_t q_f ht0 hF l3 l4 l5 hng
    have kz0 : (0 : Int32).toInt = 0 := rfl
    have kz1 : (1 : Int32).toInt = 1 := rfl
    have kz2 : (2 : Int32).toInt = 2 := rfl
    have kz3 : (3 : Int32).toInt = 3 := rfl
    have kz4 : (4 : Int32).toInt = 4 := rfl
    have kz5 : (5 : Int32).toInt = 5 := rfl
    have kz6 : (6 : Int32).toInt = 6 := rfl
    have kz7 : (7 : Int32).toInt = 7 := rfl
    have kz8 : (8 : Int32).toInt = 8 := rfl
    have kz9 : (9 : Int32).toInt = 9 := rfl
    have kzm1 : ((-1) : Int32).toInt = (-1) := rfl
    have kzm2 : ((-2) : Int32).toInt = (-2) := rfl
    have kzm3 : ((-3) : Int32).toInt = (-3) := rfl
    obtain ⟨kv1, q_kv1⟩ : ∃ v_, h.2.1 121 t.toInt.toNat = v_ := ⟨_, rfl⟩
    obtain ⟨pv2, q_pv2⟩ : ∃ v_, h.2.1 122 t.toInt.toNat = v_ := ⟨_, rfl⟩
    obtain ⟨ht_kv1, hp_kv1, h4_kv1⟩ := rAll_at hA hF q_kv1 q_pv2
    have hkb_kv1 := rTk_b ht_kv1
    have htb_kv1 := q_le ht0 h4_kv1
    obtain ⟨g0, g1, ⟨g2, g2b, g2c⟩, g3, ⟨g4, g4b, g4c⟩, ⟨g5, g5b, g5c⟩, ⟨g6, g6b⟩, g7, g8, g9⟩ := fS_b _ _ _ _ _ _ _ _ _ _ _ _ _ _ _ _ hF
    have g1 : hid _ := g1
    have g2c : hid _ := g2c
    have g3 : hid _ := g3
    have g4c : hid _ := g4c
    have g5c : hid _ := g5c
    have g6 : hid _ := g6
    have g6b : hid _ := g6b
    have g7 : hid _ := g7
    refine qm_Rp.go1 1 (c' := (5, [.ref 118, .int w, .int ng, l3, l4, l5], [.int 31, .ref 118], (h.1, I, h.2.2.1, h.2.2.2))) rfl (fun g hg => ?_)
    refine hp_inv (o := 118) (r := []) (as := [.ref 118, .int 31]) rfl rfl (hH.1 118 (17, 105) rfl) rfl rfl rfl ?_
    refine qm_Rp.go 1 (c' := (1, [.ref 118, .int 31], [.ref 118], (h.1, I, h.2.2.1, h.2.2.2))) rfl ?_
    refine hp_geti (v := 0) rfl (hH.1 118 (17, 105) rfl) rfl q_f ?_
    refine qm_Rp.go 2 (c' := (8, [.ref 118, .int 31], [.ref 118], (h.1, I, h.2.2.1, h.2.2.2))) rfl ?_
    refine hp_getr rfl (hH.1 118 (17, 105) rfl) rfl (hH.2 118 5 (some 121) rfl) ?_
    refine qm_Rp.go 1 (c' := (12, [.ref 118, .int 31], [.ref 118, .ref 121], (h.1, I, h.2.2.1, h.2.2.2))) rfl ?_
    refine hp_geti (v := t) rfl (hH.1 118 (17, 105) rfl) rfl q_t ?_
    refine qm_Rp.go 0 (c' := (15, [.ref 118, .int 31], [.int t, .ref 121], (h.1, I, h.2.2.1, h.2.2.2))) rfl ?_
    refine hp_ial (v := kv1) rfl (hH.1 121 (0, 403) rfl) (show (I) 121 t.toInt.toNat = _ from ((e 121 rfl t.toInt.toNat).trans q_kv1)) (fun ia_2 ib_2 => ?_)
    refine qm_Rp.go 1 (c' := (17, [.ref 118, .int 31], [.int 31, .int kv1], (h.1, I, h.2.2.1, h.2.2.2))) rfl ?_
    refine hp_cne (ix := kv1.toInt) (iy := 31) rfl rfl rfl (fun (z4 : hid (kv1.toInt ≠ 31)) => ?_) (fun z4 => ?_)
    · refine qm_Rp.go 1 (c' := (25, [.ref 118, .int 31], [.int 0], (h.1, I, h.2.2.1, h.2.2.2))) rfl ?_
      refine qm_Rp.rt (v := (some (.int 0))) (h' := (h.1, I, h.2.2.1, h.2.2.2)) rfl ?_
      refine qm_Rp.go 2 (c' := (29, [.ref 118, .int w, .int ng, l3, l4, l5], [.ref 118], (h.1, I, h.2.2.1, h.2.2.2))) rfl ?_
      obtain ⟨v5, q_v5⟩ : ∃ v_, h.2.1 118 37 = v_ := ⟨_, rfl⟩
      refine hp_geti (v := v5) rfl (hH.1 118 (17, 105) rfl) rfl (show (I) 118 37 = _ from ((e8 37 rfl).trans q_v5)) ?_
      refine qm_Rp.go 2 (c' := (34, [.ref 118, .int w, .int ng, .int v5, l4, l5], [.ref 118], (h.1, I, h.2.2.1, h.2.2.2))) rfl ?_
      have hA9 : rAll B n (I) (h.2.2.1) := rAll_cg hA (fun o ho i => ((e o (r_ni ho rfl) i).trans rfl)) (fun i => rfl)
      have kq14 : tK B n t.toInt.toNat ≠ 11 := rTk_P (P := fun x => x ≠ 31) (Q := fun d => d ≠ 11) ht_kv1 (by decide +kernel) z4
      refine hp_inv (o := 118) (r := []) (as := [.ref 118]) rfl rfl (hH.1 118 (17, 105) rfl) rfl rfl rfl (px_ex (h := (h.1, I, h.2.2.1, h.2.2.2)) hH hA9 (fun I6 t7 e_I6 e8_I6 q_t7 o_I6 f_I6 t0_t7 hF12 nk_t7 => ?_) (fun I8 f9 fp10 op11 e_I8 e8_I8 q_op11 q_f9 q_fp10 rf13 => ?_) q_t (show (I) 118 12 = _ from ((e8 12 rfl).trans q_op)) q_f ht0 hF (Or.inl rfl) (fun _ => kq14))
      · have e_I6 : (∀ o, [118, 141, 142, 143].contains o = false → ∀ i, I6 o i = (I) o i) := e_I6
        have e8_I6 : (∀ i, [11, 12, 13, 14, 37, 41].contains i = false → I6 118 i = (I) 118 i) := e8_I6
        have nk_t7 : hid _ := nk_t7
        obtain ⟨kv15, q_kv15⟩ : ∃ v_, h.2.1 121 t7.toInt.toNat = v_ := ⟨_, rfl⟩
        obtain ⟨pv16, q_pv16⟩ : ∃ v_, h.2.1 122 t7.toInt.toNat = v_ := ⟨_, rfl⟩
        obtain ⟨ht_kv15, hp_kv15, h4_kv15⟩ := rAll_at hA hF12 q_kv15 q_pv16
        have hkb_kv15 := rTk_b ht_kv15
        have htb_kv15 := q_le t0_t7 h4_kv15
        refine qm_Rp.go 1 (c' := (38, [.ref 118, .int w, .int ng, .int v5, l4, l5], [.ref 118], (h.1, I6, h.2.2.1, h.2.2.2))) rfl ?_
        refine hp_geti (v := 0) rfl (hH.1 118 (17, 105) rfl) rfl f_I6 ?_
        refine qm_Rp.go 2 (c' := (49, [.ref 118, .int w, .int ng, .int v5, l4, l5], [.ref 118], (h.1, I6, h.2.2.1, h.2.2.2))) rfl ?_
        refine hp_getr rfl (hH.1 118 (17, 105) rfl) rfl (hH.2 118 5 (some 121) rfl) ?_
        refine qm_Rp.go 1 (c' := (53, [.ref 118, .int w, .int ng, .int v5, l4, l5], [.ref 118, .ref 121], (h.1, I6, h.2.2.1, h.2.2.2))) rfl ?_
        refine hp_geti (v := t7) rfl (hH.1 118 (17, 105) rfl) rfl q_t7 ?_
        refine qm_Rp.go 0 (c' := (56, [.ref 118, .int w, .int ng, .int v5, l4, l5], [.int t7, .ref 121], (h.1, I6, h.2.2.1, h.2.2.2))) rfl ?_
        refine hp_ial (v := kv15) rfl (hH.1 121 (0, 403) rfl) (show (I6) 121 t7.toInt.toNat = _ from ((e_I6 121 rfl t7.toInt.toNat).trans ((e 121 rfl t7.toInt.toNat).trans q_kv15))) (fun ia_16 ib_16 => ?_)
        refine qm_Rp.go 2 (c' := (60, [.ref 118, .int w, .int ng, .int v5, l4, l5], [.int (kv15 - 11)], (h.1, I6, h.2.2.1, h.2.2.2))) rfl ?_
        obtain ⟨v18, q_v18, e_v18⟩ := hk_sub (x := kv15) (y := 11) (a := kv15.toInt) (b := 11) rfl rfl (by omega) (by omega)
        rw [q_v18]
        refine qm_Rp.go 2 (c' := (63, [.ref 118, .int w, .int ng, .int v5, .int v18, l5], [.ref 118], (h.1, I6, h.2.2.1, h.2.2.2))) rfl ?_
        refine hp_geti (v := 0) rfl (hH.1 118 (17, 105) rfl) rfl f_I6 ?_
        refine qm_Rp.go 2 (c' := (71, [.ref 118, .int w, .int ng, .int v5, .int v18, l5], [.int v18], (h.1, I6, h.2.2.1, h.2.2.2))) rfl ?_
        refine hp_zlt (ix := v18.toInt) rfl rfl (fun z19 => ?_) (fun z19 => ?_)
        · refine qm_Rp.go 2 (c' := (82, [.ref 118, .int w, .int ng, .int v5, .int v18, l5], [.int 1, .ref 118], (h.1, I6, h.2.2.1, h.2.2.2))) rfl ?_
          refine hp_inv (o := 118) (r := []) (as := [.ref 118, .int 1]) rfl rfl (hH.1 118 (17, 105) rfl) rfl rfl rfl ?_
          refine qm_Rp.go 1 (c' := (1, [.ref 118, .int 1], [.ref 118], (h.1, I6, h.2.2.1, h.2.2.2))) rfl ?_
          refine hp_geti (v := 0) rfl (hH.1 118 (17, 105) rfl) rfl f_I6 ?_
          refine qm_Rp.go 3 (c' := (10, [.ref 118, .int 1], [.int 1, .ref 118], (h.1, I6, h.2.2.1, h.2.2.2))) rfl ?_
          refine hp_puti rfl (hH.1 118 (17, 105) rfl) rfl ?_
          refine qm_Rp.go 2 (c' := (15, [.ref 118, .int 1], [.ref 118, .ref 118], (h.1, qm_up I6 118 13 1, h.2.2.1, h.2.2.2))) rfl ?_
          refine hp_getr rfl (hH.1 118 (17, 105) rfl) rfl (hH.2 118 6 (some 122) rfl) ?_
          refine qm_Rp.go 1 (c' := (19, [.ref 118, .int 1], [.ref 118, .ref 122, .ref 118], (h.1, qm_up I6 118 13 1, h.2.2.1, h.2.2.2))) rfl ?_
          refine hp_geti (v := t7) rfl (hH.1 118 (17, 105) rfl) rfl (show (qm_up I6 118 13 1) 118 11 = _ from ((hk_neq (by decide)).trans q_t7)) ?_
          refine qm_Rp.go 0 (c' := (22, [.ref 118, .int 1], [.int t7, .ref 122, .ref 118], (h.1, qm_up I6 118 13 1, h.2.2.1, h.2.2.2))) rfl ?_
          refine hp_ial (v := pv16) rfl (hH.1 122 (0, 403) rfl) (show (qm_up I6 118 13 1) 122 t7.toInt.toNat = _ from ((hk_ot rfl).trans ((e_I6 122 rfl t7.toInt.toNat).trans ((e 122 rfl t7.toInt.toNat).trans q_pv16)))) (fun ia_19 ib_19 => ?_)
          refine qm_Rp.go 0 (c' := (23, [.ref 118, .int 1], [.int pv16, .ref 118], (h.1, qm_up I6 118 13 1, h.2.2.1, h.2.2.2))) rfl ?_
          refine hp_puti rfl (hH.1 118 (17, 105) rfl) rfl ?_
          refine qm_Rp.go 0 (c' := (26, [.ref 118, .int 1], [], (h.1, qm_up (qm_up I6 118 13 1) 118 14 pv16, h.2.2.1, h.2.2.2))) rfl ?_
          refine qm_Rp.rt (v := none) (h' := (h.1, qm_up (qm_up I6 118 13 1) 118 14 pv16, h.2.2.1, h.2.2.2)) rfl ?_
          refine qm_Rp.go 0 (c' := (85, [.ref 118, .int w, .int ng, .int v5, .int v18, l5], [], (h.1, qm_up (qm_up I6 118 13 1) 118 14 pv16, h.2.2.1, h.2.2.2))) rfl ?_
          refine qm_Rp.go 1 (c' := (86, [.ref 118, .int w, .int ng, .int v5, .int v18, l5], [.ref 118], (h.1, qm_up (qm_up I6 118 13 1) 118 14 pv16, h.2.2.1, h.2.2.2))) rfl ?_
          refine hp_inv (o := 118) (r := []) (as := [.ref 118]) rfl rfl (hH.1 118 (17, 105) rfl) rfl rfl rfl (px_gof (h := (h.1, qm_up (qm_up I6 118 13 1) 118 14 pv16, h.2.2.1, h.2.2.2)) hH (show (qm_up (qm_up I6 118 13 1) 118 14 pv16) 118 13 = _ from ((hk_neq (by decide)).trans (hk_same))) (by decide) (fun I21 e_I21 e8_I21 => ?_))
          have e_I21 : (∀ o, [118].contains o = false → ∀ i, I21 o i = (qm_up (qm_up I6 118 13 1) 118 14 pv16) o i) := e_I21
          have e8_I21 : (∀ i, [11].contains i = false → I21 118 i = (qm_up (qm_up I6 118 13 1) 118 14 pv16) 118 i) := e8_I21
          refine qm_Rp.go 1 (c' := (90, [.ref 118, .int w, .int ng, .int v5, .int v18, l5], [.ref 118], (h.1, I21, h.2.2.1, h.2.2.2))) rfl ?_
          obtain ⟨v22, q_v22⟩ : ∃ v_, I6 118 37 = v_ := ⟨_, rfl⟩
          refine hp_geti (v := v22) rfl (hH.1 118 (17, 105) rfl) rfl (show (I21) 118 37 = _ from ((e8_I21 37 rfl).trans ((hk_neq (by decide)).trans ((hk_neq (by decide)).trans q_v22)))) ?_
          refine qm_Rp.go 2 (c' := (96, [.ref 118, .int w, .int ng, .int v5, .int v18, .int v22], [.ref 118], (h.1, I21, h.2.2.1, h.2.2.2))) rfl ?_
          refine hp_inv (o := 118) (r := []) (as := [.ref 118]) rfl rfl (hH.1 118 (17, 105) rfl) rfl rfl rfl ?_
          refine qm_Rp.go 2 (c' := (2, [.ref 118, .float 0, .float 0], [.int 0, .ref 118], (h.1, I21, h.2.2.1, h.2.2.2))) rfl ?_
          refine hp_puti rfl (hH.1 118 (17, 105) rfl) rfl ?_
          refine qm_Rp.go 1 (c' := (6, [.ref 118, .float 0, .float 0], [.ref 118], (h.1, qm_up I21 118 41 0, h.2.2.1, h.2.2.2))) rfl ?_
          refine hp_geti (v := 0) rfl (hH.1 118 (17, 105) rfl) rfl (show (qm_up I21 118 41 0) 118 12 = _ from ((hk_neq (by decide)).trans ((e8_I21 12 rfl).trans ((hk_neq (by decide)).trans ((hk_neq (by decide)).trans o_I6))))) ?_
          refine qm_Rp.go 6 (c' := (17, [.ref 118, .int 0, .int 1], [.ref 118], (h.1, qm_up I21 118 41 0, h.2.2.1, h.2.2.2))) rfl ?_
          refine hp_geti (v := 1) rfl (hH.1 118 (17, 105) rfl) rfl (show (qm_up I21 118 41 0) 118 13 = _ from ((hk_neq (by decide)).trans ((e8_I21 13 rfl).trans ((hk_neq (by decide)).trans (hk_same))))) ?_
          refine qm_Rp.go 1 (c' := (246, [.ref 118, .int 0, .int 1], [], (h.1, qm_up I21 118 41 0, h.2.2.1, h.2.2.2))) rfl ?_
          refine qm_Rp.rt (v := none) (h' := (h.1, qm_up I21 118 41 0, h.2.2.1, h.2.2.2)) rfl ?_
          refine qm_Rp.go 1 (c' := (100, [.ref 118, .int w, .int ng, .int v5, .int v18, .int v22], [.ref 118], (h.1, qm_up I21 118 41 0, h.2.2.1, h.2.2.2))) rfl ?_
          refine hp_geti (v := 1) rfl (hH.1 118 (17, 105) rfl) rfl (show (qm_up I21 118 41 0) 118 13 = _ from ((hk_neq (by decide)).trans ((e8_I21 13 rfl).trans ((hk_neq (by decide)).trans (hk_same))))) ?_
          refine qm_Rp.go 1 (c' := (106, [.ref 118, .int w, .int ng, .int v5, .int v18, .int v22], [], (h.1, qm_up I21 118 41 0, h.2.2.1, h.2.2.2))) rfl ?_
          refine qm_Rp.rt (v := none) (h' := (h.1, qm_up I21 118 41 0, h.2.2.1, h.2.2.2)) rfl ?_
          have kq24 : tK B n t7.toInt.toNat < 31 ∨ 34 < tK B n t7.toInt.toNat := rTk_P (P := fun x => x < 0 + 11) (Q := fun d => d < 31 ∨ 34 < d) ht_kv15 (by decide +kernel) (al_lt e_v18 z19)
          have rf23 : rfin B n 1 pv16 := r_cmp hF12 rfl rfl hrt nk_t7 kq24 rfl hp_kv15
          exact k1 (qm_up I21 118 41 0) 1 pv16 0 (fun o ho i => ((hk_mod ho rfl).trans ((e_I21 o (hk_ms rfl ho) i).trans ((hk_mod ho rfl).trans ((hk_mod ho rfl).trans ((e_I6 o (hk_ms rfl ho) i).trans ((e o (hk_ms rfl ho) i).trans rfl))))))) (fun i hi => ((hk_neq (fun z => by subst z; cases hi)).trans ((e8_I21 i (hk_ms rfl hi)).trans ((hk_neq (fun z => by subst z; cases hi)).trans ((hk_neq (fun z => by subst z; cases hi)).trans ((e8_I6 i (hk_ms rfl hi)).trans ((e8 i (hk_ms rfl hi)).trans rfl))))))) (show (qm_up I21 118 41 0) 118 12 = _ from ((hk_neq (by decide)).trans ((e8_I21 12 rfl).trans ((hk_neq (by decide)).trans ((hk_neq (by decide)).trans o_I6))))) (show (qm_up I21 118 41 0) 118 13 = _ from ((hk_neq (by decide)).trans ((e8_I21 13 rfl).trans ((hk_neq (by decide)).trans (hk_same))))) (show (qm_up I21 118 41 0) 118 14 = _ from ((hk_neq (by decide)).trans ((e8_I21 14 rfl).trans (hk_same)))) rf23
        · refine qm_Rp.go 2 (c' := (77, [.ref 118, .int w, .int ng, .int v5, .int v18, l5], [.int 3, .int v18], (h.1, I6, h.2.2.1, h.2.2.2))) rfl ?_
          refine hp_cle (ix := v18.toInt) (iy := 3) rfl rfl rfl (fun z25 => ?_) (fun z25 => ?_)
          · refine qm_Rp.go 0 (c' := (85, [.ref 118, .int w, .int ng, .int v5, .int v18, l5], [], (h.1, I6, h.2.2.1, h.2.2.2))) rfl ?_
            refine qm_Rp.go 1 (c' := (86, [.ref 118, .int w, .int ng, .int v5, .int v18, l5], [.ref 118], (h.1, I6, h.2.2.1, h.2.2.2))) rfl ?_
            refine hp_inv (o := 118) (r := []) (as := [.ref 118]) rfl rfl (hH.1 118 (17, 105) rfl) rfl rfl rfl (px_go (h := (h.1, I6, h.2.2.1, h.2.2.2)) hH q_t7 f_I6 htb_kv15 (fun fp26 q_fp26 x4_fp26 => ?_) (fun t27 e_t27 x4_t27 => ?_))
            · have ex_fp26 : fp26 = pv16 := (q_fp26.symm.trans (show (I6) 122 t7.toInt.toNat = _ from ((e_I6 122 rfl t7.toInt.toNat).trans ((e 122 rfl t7.toInt.toNat).trans q_pv16))))
              have kq28 : tK B n t7.toInt.toNat ≠ 37 := rTk_P (P := fun x => 0 + 11 ≤ x ∧ x ≤ 3 + 11) (Q := fun d => d ≠ 37) ht_kv15 (by decide +kernel) ⟨(al_ge e_v18 z19), (al_le e_v18 z25)⟩
              have kq29 : 31 ≤ tK B n t7.toInt.toNat ∧ tK B n t7.toInt.toNat ≤ 34 := rTk_P (P := fun x => 0 + 11 ≤ x ∧ x ≤ 3 + 11) (Q := fun d => 31 ≤ d ∧ d ≤ 34) ht_kv15 (by decide +kernel) ⟨(al_ge e_v18 z19), (al_le e_v18 z25)⟩
              have rf30 : rfin B n 2 fp26 := r2_go hF12 kq28 (fo_9c ⟨rfl, Int.le_refl _, hrt, kq29⟩) (by decide) x4_fp26 rfl ((congrArg Int32.toInt ex_fp26).trans hp_kv15)
              refine qm_Rp.go 1 (c' := (90, [.ref 118, .int w, .int ng, .int v5, .int v18, l5], [.ref 118], (h.1, qm_up (qm_up I6 118 13 2) 118 14 fp26, h.2.2.1, h.2.2.2))) rfl ?_
              obtain ⟨v31, q_v31⟩ : ∃ v_, I6 118 37 = v_ := ⟨_, rfl⟩
              refine hp_geti (v := v31) rfl (hH.1 118 (17, 105) rfl) rfl (show (qm_up (qm_up I6 118 13 2) 118 14 fp26) 118 37 = _ from ((hk_neq (by decide)).trans ((hk_neq (by decide)).trans q_v31))) ?_
              refine qm_Rp.go 2 (c' := (96, [.ref 118, .int w, .int ng, .int v5, .int v18, .int v31], [.ref 118], (h.1, qm_up (qm_up I6 118 13 2) 118 14 fp26, h.2.2.1, h.2.2.2))) rfl ?_
              refine hp_inv (o := 118) (r := []) (as := [.ref 118]) rfl rfl (hH.1 118 (17, 105) rfl) rfl rfl rfl ?_
              refine qm_Rp.go 2 (c' := (2, [.ref 118, .float 0, .float 0], [.int 0, .ref 118], (h.1, qm_up (qm_up I6 118 13 2) 118 14 fp26, h.2.2.1, h.2.2.2))) rfl ?_
              refine hp_puti rfl (hH.1 118 (17, 105) rfl) rfl ?_
              refine qm_Rp.go 1 (c' := (6, [.ref 118, .float 0, .float 0], [.ref 118], (h.1, qm_up (qm_up (qm_up I6 118 13 2) 118 14 fp26) 118 41 0, h.2.2.1, h.2.2.2))) rfl ?_
              refine hp_geti (v := 0) rfl (hH.1 118 (17, 105) rfl) rfl (show (qm_up (qm_up (qm_up I6 118 13 2) 118 14 fp26) 118 41 0) 118 12 = _ from ((hk_neq (by decide)).trans ((hk_neq (by decide)).trans ((hk_neq (by decide)).trans o_I6)))) ?_
              refine qm_Rp.go 6 (c' := (17, [.ref 118, .int 0, .int 1], [.ref 118], (h.1, qm_up (qm_up (qm_up I6 118 13 2) 118 14 fp26) 118 41 0, h.2.2.1, h.2.2.2))) rfl ?_
              refine hp_geti (v := 2) rfl (hH.1 118 (17, 105) rfl) rfl (show (qm_up (qm_up (qm_up I6 118 13 2) 118 14 fp26) 118 41 0) 118 13 = _ from ((hk_neq (by decide)).trans ((hk_neq (by decide)).trans (hk_same)))) ?_
              refine qm_Rp.go 1 (c' := (246, [.ref 118, .int 0, .int 1], [], (h.1, qm_up (qm_up (qm_up I6 118 13 2) 118 14 fp26) 118 41 0, h.2.2.1, h.2.2.2))) rfl ?_
              refine qm_Rp.rt (v := none) (h' := (h.1, qm_up (qm_up (qm_up I6 118 13 2) 118 14 fp26) 118 41 0, h.2.2.1, h.2.2.2)) rfl ?_
              refine qm_Rp.go 1 (c' := (100, [.ref 118, .int w, .int ng, .int v5, .int v18, .int v31], [.ref 118], (h.1, qm_up (qm_up (qm_up I6 118 13 2) 118 14 fp26) 118 41 0, h.2.2.1, h.2.2.2))) rfl ?_
              refine hp_geti (v := 2) rfl (hH.1 118 (17, 105) rfl) rfl (show (qm_up (qm_up (qm_up I6 118 13 2) 118 14 fp26) 118 41 0) 118 13 = _ from ((hk_neq (by decide)).trans ((hk_neq (by decide)).trans (hk_same)))) ?_
              refine qm_Rp.go 1 (c' := (106, [.ref 118, .int w, .int ng, .int v5, .int v18, .int v31], [], (h.1, qm_up (qm_up (qm_up I6 118 13 2) 118 14 fp26) 118 41 0, h.2.2.1, h.2.2.2))) rfl ?_
              refine qm_Rp.rt (v := none) (h' := (h.1, qm_up (qm_up (qm_up I6 118 13 2) 118 14 fp26) 118 41 0, h.2.2.1, h.2.2.2)) rfl ?_
              exact k1 (qm_up (qm_up (qm_up I6 118 13 2) 118 14 fp26) 118 41 0) 2 fp26 0 (fun o ho i => ((hk_mod ho rfl).trans ((hk_mod ho rfl).trans ((hk_mod ho rfl).trans ((e_I6 o (hk_ms rfl ho) i).trans ((e o (hk_ms rfl ho) i).trans rfl)))))) (fun i hi => ((hk_neq (fun z => by subst z; cases hi)).trans ((hk_neq (fun z => by subst z; cases hi)).trans ((hk_neq (fun z => by subst z; cases hi)).trans ((e8_I6 i (hk_ms rfl hi)).trans ((e8 i (hk_ms rfl hi)).trans rfl)))))) (show (qm_up (qm_up (qm_up I6 118 13 2) 118 14 fp26) 118 41 0) 118 12 = _ from ((hk_neq (by decide)).trans ((hk_neq (by decide)).trans ((hk_neq (by decide)).trans o_I6)))) (show (qm_up (qm_up (qm_up I6 118 13 2) 118 14 fp26) 118 41 0) 118 13 = _ from ((hk_neq (by decide)).trans ((hk_neq (by decide)).trans (hk_same)))) (show (qm_up (qm_up (qm_up I6 118 13 2) 118 14 fp26) 118 41 0) 118 14 = _ from ((hk_neq (by decide)).trans (hk_same))) rf30
            · have t0_t27 := q_t0 e_t27 t0_t7
              have kq33 : 31 ≤ tK B n t7.toInt.toNat ∧ tK B n t7.toInt.toNat ≤ 34 := rTk_P (P := fun x => 0 + 11 ≤ x ∧ x ≤ 3 + 11) (Q := fun d => 31 ≤ d ∧ d ≤ 34) ht_kv15 (by decide +kernel) ⟨(al_ge e_v18 z19), (al_le e_v18 z25)⟩
              have hF32 : fS B n t27.toInt.toNat = some (8, td, 0, 1, nm, lf, lp, b, li, tr, be, lt, pr, pl, T) := q_cmp hF12 rfl rfl hrt kq33 t0_t7 x4_t27 e_t27
              obtain ⟨kv34, q_kv34⟩ : ∃ v_, h.2.1 121 t27.toInt.toNat = v_ := ⟨_, rfl⟩
              obtain ⟨pv35, q_pv35⟩ : ∃ v_, h.2.1 122 t27.toInt.toNat = v_ := ⟨_, rfl⟩
              obtain ⟨ht_kv34, hp_kv34, h4_kv34⟩ := rAll_at hA hF32 q_kv34 q_pv35
              have hkb_kv34 := rTk_b ht_kv34
              have htb_kv34 := q_le t0_t27 h4_kv34
              refine qm_Rp.go 1 (c' := (90, [.ref 118, .int w, .int ng, .int v5, .int v18, l5], [.ref 118], (h.1, qm_up I6 118 11 t27, h.2.2.1, h.2.2.2))) rfl ?_
              obtain ⟨v36, q_v36⟩ : ∃ v_, I6 118 37 = v_ := ⟨_, rfl⟩
              refine hp_geti (v := v36) rfl (hH.1 118 (17, 105) rfl) rfl (show (qm_up I6 118 11 t27) 118 37 = _ from ((hk_neq (by decide)).trans q_v36)) ?_
              refine qm_Rp.go 2 (c' := (96, [.ref 118, .int w, .int ng, .int v5, .int v18, .int v36], [.ref 118], (h.1, qm_up I6 118 11 t27, h.2.2.1, h.2.2.2))) rfl ?_
              have hA9 : rAll B n (qm_up I6 118 11 t27) (h.2.2.1) := rAll_cg hA (fun o ho i => ((hk_ot (n_in2 ho rfl)).trans ((e_I6 o (r_ni ho rfl) i).trans ((e o (r_ni ho rfl) i).trans rfl)))) (fun i => rfl)
              refine hp_inv (o := 118) (r := []) (as := [.ref 118]) rfl rfl (hH.1 118 (17, 105) rfl) rfl rfl rfl (px_ex (h := (h.1, qm_up I6 118 11 t27, h.2.2.1, h.2.2.2)) hH hA9 (fun I37 t38 e_I37 e8_I37 q_t38 o_I37 f_I37 t0_t38 hF43 nk_t38 => ?_) (fun I39 f40 fp41 op42 e_I39 e8_I39 q_op42 q_f40 q_fp41 rf44 => ?_) (show (qm_up I6 118 11 t27) 118 11 = _ from (hk_same)) (show (qm_up I6 118 11 t27) 118 12 = _ from ((hk_neq (by decide)).trans o_I6)) (show (qm_up I6 118 11 t27) 118 13 = _ from ((hk_neq (by decide)).trans f_I6)) t0_t27 hF32 (Or.inr rfl) (fun z => absurd z (by decide)))
              · have e_I37 : (∀ o, [118, 141, 142, 143].contains o = false → ∀ i, I37 o i = (qm_up I6 118 11 t27) o i) := e_I37
                have e8_I37 : (∀ i, [11, 12, 13, 14, 37, 41].contains i = false → I37 118 i = (qm_up I6 118 11 t27) 118 i) := e8_I37
                have nk_t38 : hid _ := nk_t38
                obtain ⟨kv45, q_kv45⟩ : ∃ v_, h.2.1 121 t38.toInt.toNat = v_ := ⟨_, rfl⟩
                obtain ⟨pv46, q_pv46⟩ : ∃ v_, h.2.1 122 t38.toInt.toNat = v_ := ⟨_, rfl⟩
                obtain ⟨ht_kv45, hp_kv45, h4_kv45⟩ := rAll_at hA hF43 q_kv45 q_pv46
                have hkb_kv45 := rTk_b ht_kv45
                have htb_kv45 := q_le t0_t38 h4_kv45
                refine qm_Rp.go 1 (c' := (100, [.ref 118, .int w, .int ng, .int v5, .int v18, .int v36], [.ref 118], (h.1, I37, h.2.2.1, h.2.2.2))) rfl ?_
                refine hp_geti (v := 0) rfl (hH.1 118 (17, 105) rfl) rfl f_I37 ?_
                refine qm_Rp.go 2 (c' := (108, [.ref 118, .int w, .int ng, .int v5, .int v18, .int v36], [.ref 118], (h.1, I37, h.2.2.1, h.2.2.2))) rfl ?_
                refine hp_getr rfl (hH.1 118 (17, 105) rfl) rfl (hH.2 118 31 (some 135) rfl) ?_
                refine qm_Rp.go 1 (c' := (112, [.ref 118, .int w, .int ng, .int v5, .int v18, .int v36], [.ref 118, .ref 135], (h.1, I37, h.2.2.1, h.2.2.2))) rfl ?_
                obtain ⟨v47, q_v47⟩ : ∃ v_, h.2.1 118 30 = v_ := ⟨_, rfl⟩
                refine hp_geti (v := v47) rfl (hH.1 118 (17, 105) rfl) rfl (show (I37) 118 30 = _ from ((e8_I37 30 rfl).trans ((hk_neq (by decide)).trans ((e8_I6 30 rfl).trans ((e8 30 rfl).trans q_v47))))) ?_
                refine qm_Rp.go 1 (c' := (117, [.ref 118, .int w, .int ng, .int v5, .int v18, .int v36], [.int v18, .int v47, .ref 135], (h.1, I37, h.2.2.1, h.2.2.2))) rfl ?_
                refine hp_ias rfl (hH.1 135 (0, 300) rfl) (fun ia_47 ib_47 => ?_)
                refine qm_Rp.go 1 (c' := (119, [.ref 118, .int w, .int ng, .int v5, .int v18, .int v36], [.ref 118], (h.1, qm_up I37 135 v47.toInt.toNat v18, h.2.2.1, h.2.2.2))) rfl ?_
                refine hp_getr rfl (hH.1 118 (17, 105) rfl) rfl (hH.2 118 32 (some 136) rfl) ?_
                refine qm_Rp.go 1 (c' := (123, [.ref 118, .int w, .int ng, .int v5, .int v18, .int v36], [.ref 118, .ref 136], (h.1, qm_up I37 135 v47.toInt.toNat v18, h.2.2.1, h.2.2.2))) rfl ?_
                refine hp_geti (v := v47) rfl (hH.1 118 (17, 105) rfl) rfl (show (qm_up I37 135 v47.toInt.toNat v18) 118 30 = _ from ((hk_ot rfl).trans ((e8_I37 30 rfl).trans ((hk_neq (by decide)).trans ((e8_I6 30 rfl).trans ((e8 30 rfl).trans q_v47)))))) ?_
                refine qm_Rp.go 1 (c' := (127, [.ref 118, .int w, .int ng, .int v5, .int v18, .int v36], [.int ng, .int v47, .ref 136], (h.1, qm_up I37 135 v47.toInt.toNat v18, h.2.2.1, h.2.2.2))) rfl ?_
                refine hp_bas rfl (hH.1 136 (2, 300) rfl) (hk_nar (by omega)) (fun ia_48 ib_48 => ?_)
                refine qm_Rp.go 1 (c' := (129, [.ref 118, .int w, .int ng, .int v5, .int v18, .int v36], [.ref 118], (h.1, qm_up (qm_up I37 135 v47.toInt.toNat v18) 136 v47.toInt.toNat ng, h.2.2.1, h.2.2.2))) rfl ?_
                refine hp_getr rfl (hH.1 118 (17, 105) rfl) rfl (hH.2 118 33 (some 137) rfl) ?_
                refine qm_Rp.go 1 (c' := (133, [.ref 118, .int w, .int ng, .int v5, .int v18, .int v36], [.ref 118, .ref 137], (h.1, qm_up (qm_up I37 135 v47.toInt.toNat v18) 136 v47.toInt.toNat ng, h.2.2.1, h.2.2.2))) rfl ?_
                refine hp_geti (v := v47) rfl (hH.1 118 (17, 105) rfl) rfl (show (qm_up (qm_up I37 135 v47.toInt.toNat v18) 136 v47.toInt.toNat ng) 118 30 = _ from ((hk_ot rfl).trans ((hk_ot rfl).trans ((e8_I37 30 rfl).trans ((hk_neq (by decide)).trans ((e8_I6 30 rfl).trans ((e8 30 rfl).trans q_v47))))))) ?_
                refine qm_Rp.go 1 (c' := (137, [.ref 118, .int w, .int ng, .int v5, .int v18, .int v36], [.int w, .int v47, .ref 137], (h.1, qm_up (qm_up I37 135 v47.toInt.toNat v18) 136 v47.toInt.toNat ng, h.2.2.1, h.2.2.2))) rfl ?_
                refine hp_bas rfl (hH.1 137 (2, 300) rfl) (hk_nar (by omega)) (fun ia_49 ib_49 => ?_)
                refine qm_Rp.go 1 (c' := (139, [.ref 118, .int w, .int ng, .int v5, .int v18, .int v36], [.ref 118], (h.1, qm_up (qm_up (qm_up I37 135 v47.toInt.toNat v18) 136 v47.toInt.toNat ng) 137 v47.toInt.toNat w, h.2.2.1, h.2.2.2))) rfl ?_
                refine hp_getr rfl (hH.1 118 (17, 105) rfl) rfl (hH.2 118 34 (some 138) rfl) ?_
                refine qm_Rp.go 1 (c' := (143, [.ref 118, .int w, .int ng, .int v5, .int v18, .int v36], [.ref 118, .ref 138], (h.1, qm_up (qm_up (qm_up I37 135 v47.toInt.toNat v18) 136 v47.toInt.toNat ng) 137 v47.toInt.toNat w, h.2.2.1, h.2.2.2))) rfl ?_
                refine hp_geti (v := v47) rfl (hH.1 118 (17, 105) rfl) rfl (show (qm_up (qm_up (qm_up I37 135 v47.toInt.toNat v18) 136 v47.toInt.toNat ng) 137 v47.toInt.toNat w) 118 30 = _ from ((hk_ot rfl).trans ((hk_ot rfl).trans ((hk_ot rfl).trans ((e8_I37 30 rfl).trans ((hk_neq (by decide)).trans ((e8_I6 30 rfl).trans ((e8 30 rfl).trans q_v47)))))))) ?_
                refine qm_Rp.go 1 (c' := (147, [.ref 118, .int w, .int ng, .int v5, .int v18, .int v36], [.int v5, .int v47, .ref 138], (h.1, qm_up (qm_up (qm_up I37 135 v47.toInt.toNat v18) 136 v47.toInt.toNat ng) 137 v47.toInt.toNat w, h.2.2.1, h.2.2.2))) rfl ?_
                refine hp_ias rfl (hH.1 138 (0, 300) rfl) (fun ia_50 ib_50 => ?_)
                refine qm_Rp.go 1 (c' := (149, [.ref 118, .int w, .int ng, .int v5, .int v18, .int v36], [.ref 118], (h.1, qm_up (qm_up (qm_up (qm_up I37 135 v47.toInt.toNat v18) 136 v47.toInt.toNat ng) 137 v47.toInt.toNat w) 138 v47.toInt.toNat v5, h.2.2.1, h.2.2.2))) rfl ?_
                refine hp_getr rfl (hH.1 118 (17, 105) rfl) rfl (hH.2 118 35 (some 139) rfl) ?_
                refine qm_Rp.go 1 (c' := (153, [.ref 118, .int w, .int ng, .int v5, .int v18, .int v36], [.ref 118, .ref 139], (h.1, qm_up (qm_up (qm_up (qm_up I37 135 v47.toInt.toNat v18) 136 v47.toInt.toNat ng) 137 v47.toInt.toNat w) 138 v47.toInt.toNat v5, h.2.2.1, h.2.2.2))) rfl ?_
                refine hp_geti (v := v47) rfl (hH.1 118 (17, 105) rfl) rfl (show (qm_up (qm_up (qm_up (qm_up I37 135 v47.toInt.toNat v18) 136 v47.toInt.toNat ng) 137 v47.toInt.toNat w) 138 v47.toInt.toNat v5) 118 30 = _ from ((hk_ot rfl).trans ((hk_ot rfl).trans ((hk_ot rfl).trans ((hk_ot rfl).trans ((e8_I37 30 rfl).trans ((hk_neq (by decide)).trans ((e8_I6 30 rfl).trans ((e8 30 rfl).trans q_v47))))))))) ?_
                refine qm_Rp.go 1 (c' := (158, [.ref 118, .int w, .int ng, .int v5, .int v18, .int v36], [.int v36, .int v47, .ref 139], (h.1, qm_up (qm_up (qm_up (qm_up I37 135 v47.toInt.toNat v18) 136 v47.toInt.toNat ng) 137 v47.toInt.toNat w) 138 v47.toInt.toNat v5, h.2.2.1, h.2.2.2))) rfl ?_
                refine hp_ias rfl (hH.1 139 (0, 300) rfl) (fun ia_51 ib_51 => ?_)
                refine qm_Rp.go 1 (c' := (160, [.ref 118, .int w, .int ng, .int v5, .int v18, .int v36], [.ref 118], (h.1, qm_up (qm_up (qm_up (qm_up (qm_up I37 135 v47.toInt.toNat v18) 136 v47.toInt.toNat ng) 137 v47.toInt.toNat w) 138 v47.toInt.toNat v5) 139 v47.toInt.toNat v36, h.2.2.1, h.2.2.2))) rfl ?_
                refine hp_getr rfl (hH.1 118 (17, 105) rfl) rfl (hH.2 118 36 (some 140) rfl) ?_
                refine qm_Rp.go 1 (c' := (164, [.ref 118, .int w, .int ng, .int v5, .int v18, .int v36], [.ref 118, .ref 140], (h.1, qm_up (qm_up (qm_up (qm_up (qm_up I37 135 v47.toInt.toNat v18) 136 v47.toInt.toNat ng) 137 v47.toInt.toNat w) 138 v47.toInt.toNat v5) 139 v47.toInt.toNat v36, h.2.2.1, h.2.2.2))) rfl ?_
                refine hp_geti (v := v47) rfl (hH.1 118 (17, 105) rfl) rfl (show (qm_up (qm_up (qm_up (qm_up (qm_up I37 135 v47.toInt.toNat v18) 136 v47.toInt.toNat ng) 137 v47.toInt.toNat w) 138 v47.toInt.toNat v5) 139 v47.toInt.toNat v36) 118 30 = _ from ((hk_ot rfl).trans ((hk_ot rfl).trans ((hk_ot rfl).trans ((hk_ot rfl).trans ((hk_ot rfl).trans ((e8_I37 30 rfl).trans ((hk_neq (by decide)).trans ((e8_I6 30 rfl).trans ((e8 30 rfl).trans q_v47)))))))))) ?_
                refine qm_Rp.go 1 (c' := (168, [.ref 118, .int w, .int ng, .int v5, .int v18, .int v36], [.ref 118, .int v47, .ref 140], (h.1, qm_up (qm_up (qm_up (qm_up (qm_up I37 135 v47.toInt.toNat v18) 136 v47.toInt.toNat ng) 137 v47.toInt.toNat w) 138 v47.toInt.toNat v5) 139 v47.toInt.toNat v36, h.2.2.1, h.2.2.2))) rfl ?_
                obtain ⟨v53, q_v53⟩ : ∃ v_, I37 118 37 = v_ := ⟨_, rfl⟩
                refine hp_geti (v := v53) rfl (hH.1 118 (17, 105) rfl) rfl (show (qm_up (qm_up (qm_up (qm_up (qm_up I37 135 v47.toInt.toNat v18) 136 v47.toInt.toNat ng) 137 v47.toInt.toNat w) 138 v47.toInt.toNat v5) 139 v47.toInt.toNat v36) 118 37 = _ from ((hk_ot rfl).trans ((hk_ot rfl).trans ((hk_ot rfl).trans ((hk_ot rfl).trans ((hk_ot rfl).trans q_v53)))))) ?_
                refine qm_Rp.go 0 (c' := (171, [.ref 118, .int w, .int ng, .int v5, .int v18, .int v36], [.int v53, .int v47, .ref 140], (h.1, qm_up (qm_up (qm_up (qm_up (qm_up I37 135 v47.toInt.toNat v18) 136 v47.toInt.toNat ng) 137 v47.toInt.toNat w) 138 v47.toInt.toNat v5) 139 v47.toInt.toNat v36, h.2.2.1, h.2.2.2))) rfl ?_
                refine hp_ias rfl (hH.1 140 (0, 300) rfl) (fun ia_53 ib_53 => ?_)
                refine qm_Rp.go 2 (c' := (174, [.ref 118, .int w, .int ng, .int v5, .int v18, .int v36], [.ref 118, .ref 118], (h.1, qm_up (qm_up (qm_up (qm_up (qm_up (qm_up I37 135 v47.toInt.toNat v18) 136 v47.toInt.toNat ng) 137 v47.toInt.toNat w) 138 v47.toInt.toNat v5) 139 v47.toInt.toNat v36) 140 v47.toInt.toNat v53, h.2.2.1, h.2.2.2))) rfl ?_
                refine hp_geti (v := v47) rfl (hH.1 118 (17, 105) rfl) rfl (show (qm_up (qm_up (qm_up (qm_up (qm_up (qm_up I37 135 v47.toInt.toNat v18) 136 v47.toInt.toNat ng) 137 v47.toInt.toNat w) 138 v47.toInt.toNat v5) 139 v47.toInt.toNat v36) 140 v47.toInt.toNat v53) 118 30 = _ from ((hk_ot rfl).trans ((hk_ot rfl).trans ((hk_ot rfl).trans ((hk_ot rfl).trans ((hk_ot rfl).trans ((hk_ot rfl).trans ((e8_I37 30 rfl).trans ((hk_neq (by decide)).trans ((e8_I6 30 rfl).trans ((e8 30 rfl).trans q_v47))))))))))) ?_
                refine qm_Rp.go 2 (c' := (179, [.ref 118, .int w, .int ng, .int v5, .int v18, .int v36], [.int (v47 + 1), .ref 118], (h.1, qm_up (qm_up (qm_up (qm_up (qm_up (qm_up I37 135 v47.toInt.toNat v18) 136 v47.toInt.toNat ng) 137 v47.toInt.toNat w) 138 v47.toInt.toNat v5) 139 v47.toInt.toNat v36) 140 v47.toInt.toNat v53, h.2.2.1, h.2.2.2))) rfl ?_
                obtain ⟨v55, q_v55, e_v55⟩ := hk_add (x := v47) (y := 1) (a := v47.toInt) (b := 1) rfl rfl (by omega) (by omega)
                rw [q_v55]
                refine hp_puti rfl (hH.1 118 (17, 105) rfl) rfl ?_
                refine qm_Rp.go 0 (c' := (182, [.ref 118, .int w, .int ng, .int v5, .int v18, .int v36], [], (h.1, qm_up (qm_up (qm_up (qm_up (qm_up (qm_up (qm_up I37 135 v47.toInt.toNat v18) 136 v47.toInt.toNat ng) 137 v47.toInt.toNat w) 138 v47.toInt.toNat v5) 139 v47.toInt.toNat v36) 140 v47.toInt.toNat v53) 118 30 v55, h.2.2.1, h.2.2.2))) rfl ?_
                refine qm_Rp.rt (v := none) (h' := (h.1, qm_up (qm_up (qm_up (qm_up (qm_up (qm_up (qm_up I37 135 v47.toInt.toNat v18) 136 v47.toInt.toNat ng) 137 v47.toInt.toNat w) 138 v47.toInt.toNat v5) 139 v47.toInt.toNat v36) 140 v47.toInt.toNat v53) 118 30 v55, h.2.2.1, h.2.2.2)) rfl ?_
                exact k0 (qm_up (qm_up (qm_up (qm_up (qm_up (qm_up (qm_up I37 135 v47.toInt.toNat v18) 136 v47.toInt.toNat ng) 137 v47.toInt.toNat w) 138 v47.toInt.toNat v5) 139 v47.toInt.toNat v36) 140 v47.toInt.toNat v53) 118 30 v55) t38 (fun o ho i => ((hk_mod ho rfl).trans ((hk_mod ho rfl).trans ((hk_mod ho rfl).trans ((hk_mod ho rfl).trans ((hk_mod ho rfl).trans ((hk_mod ho rfl).trans ((hk_mod ho rfl).trans ((e_I37 o (hk_ms rfl ho) i).trans ((hk_mod ho rfl).trans ((e_I6 o (hk_ms rfl ho) i).trans ((e o (hk_ms rfl ho) i).trans rfl)))))))))))) (fun i hi => ((hk_neq (fun z => by subst z; cases hi)).trans ((hk_ot rfl).trans ((hk_ot rfl).trans ((hk_ot rfl).trans ((hk_ot rfl).trans ((hk_ot rfl).trans ((hk_ot rfl).trans ((e8_I37 i (hk_ms rfl hi)).trans ((hk_neq (fun z => by subst z; cases hi)).trans ((e8_I6 i (hk_ms rfl hi)).trans ((e8 i (hk_ms rfl hi)).trans rfl)))))))))))) (show (qm_up (qm_up (qm_up (qm_up (qm_up (qm_up (qm_up I37 135 v47.toInt.toNat v18) 136 v47.toInt.toNat ng) 137 v47.toInt.toNat w) 138 v47.toInt.toNat v5) 139 v47.toInt.toNat v36) 140 v47.toInt.toNat v53) 118 30 v55) 118 11 = _ from ((hk_neq (by decide)).trans ((hk_ot rfl).trans ((hk_ot rfl).trans ((hk_ot rfl).trans ((hk_ot rfl).trans ((hk_ot rfl).trans ((hk_ot rfl).trans q_t38)))))))) (show (qm_up (qm_up (qm_up (qm_up (qm_up (qm_up (qm_up I37 135 v47.toInt.toNat v18) 136 v47.toInt.toNat ng) 137 v47.toInt.toNat w) 138 v47.toInt.toNat v5) 139 v47.toInt.toNat v36) 140 v47.toInt.toNat v53) 118 30 v55) 118 12 = _ from ((hk_neq (by decide)).trans ((hk_ot rfl).trans ((hk_ot rfl).trans ((hk_ot rfl).trans ((hk_ot rfl).trans ((hk_ot rfl).trans ((hk_ot rfl).trans o_I37)))))))) (show (qm_up (qm_up (qm_up (qm_up (qm_up (qm_up (qm_up I37 135 v47.toInt.toNat v18) 136 v47.toInt.toNat ng) 137 v47.toInt.toNat w) 138 v47.toInt.toNat v5) 139 v47.toInt.toNat v36) 140 v47.toInt.toNat v53) 118 30 v55) 118 13 = _ from ((hk_neq (by decide)).trans ((hk_ot rfl).trans ((hk_ot rfl).trans ((hk_ot rfl).trans ((hk_ot rfl).trans ((hk_ot rfl).trans ((hk_ot rfl).trans f_I37)))))))) t0_t38 hF43 nk_t38
              · have e_I39 : (∀ o, [118, 141, 142, 143].contains o = false → ∀ i, I39 o i = (qm_up I6 118 11 t27) o i) := e_I39
                have e8_I39 : (∀ i, [11, 12, 13, 14, 37, 41].contains i = false → I39 118 i = (qm_up I6 118 11 t27) 118 i) := e8_I39
                have fb_f40 := rf44.1
                refine qm_Rp.go 1 (c' := (100, [.ref 118, .int w, .int ng, .int v5, .int v18, .int v36], [.ref 118], (h.1, I39, h.2.2.1, h.2.2.2))) rfl ?_
                refine hp_geti (v := f40) rfl (hH.1 118 (17, 105) rfl) rfl q_f40 ?_
                refine qm_Rp.go 0 (c' := (103, [.ref 118, .int w, .int ng, .int v5, .int v18, .int v36], [.int f40], (h.1, I39, h.2.2.1, h.2.2.2))) rfl ?_
                refine hp_zle (ix := f40.toInt) rfl rfl (fun z56 => by exfalso; omega) (fun z56 => ?_)
                refine qm_Rp.go 0 (c' := (106, [.ref 118, .int w, .int ng, .int v5, .int v18, .int v36], [], (h.1, I39, h.2.2.1, h.2.2.2))) rfl ?_
                refine qm_Rp.rt (v := none) (h' := (h.1, I39, h.2.2.1, h.2.2.2)) rfl ?_
                exact k1 (I39) f40 fp41 op42 (fun o ho i => ((e_I39 o (hk_ms rfl ho) i).trans ((hk_mod ho rfl).trans ((e_I6 o (hk_ms rfl ho) i).trans ((e o (hk_ms rfl ho) i).trans rfl))))) (fun i hi => ((e8_I39 i (hk_ms rfl hi)).trans ((hk_neq (fun z => by subst z; cases hi)).trans ((e8_I6 i (hk_ms rfl hi)).trans ((e8 i (hk_ms rfl hi)).trans rfl))))) q_op42 q_f40 q_fp41 rf44
          · refine qm_Rp.go 2 (c' := (82, [.ref 118, .int w, .int ng, .int v5, .int v18, l5], [.int 1, .ref 118], (h.1, I6, h.2.2.1, h.2.2.2))) rfl ?_
            refine hp_inv (o := 118) (r := []) (as := [.ref 118, .int 1]) rfl rfl (hH.1 118 (17, 105) rfl) rfl rfl rfl ?_
            refine qm_Rp.go 1 (c' := (1, [.ref 118, .int 1], [.ref 118], (h.1, I6, h.2.2.1, h.2.2.2))) rfl ?_
            refine hp_geti (v := 0) rfl (hH.1 118 (17, 105) rfl) rfl f_I6 ?_
            refine qm_Rp.go 3 (c' := (10, [.ref 118, .int 1], [.int 1, .ref 118], (h.1, I6, h.2.2.1, h.2.2.2))) rfl ?_
            refine hp_puti rfl (hH.1 118 (17, 105) rfl) rfl ?_
            refine qm_Rp.go 2 (c' := (15, [.ref 118, .int 1], [.ref 118, .ref 118], (h.1, qm_up I6 118 13 1, h.2.2.1, h.2.2.2))) rfl ?_
            refine hp_getr rfl (hH.1 118 (17, 105) rfl) rfl (hH.2 118 6 (some 122) rfl) ?_
            refine qm_Rp.go 1 (c' := (19, [.ref 118, .int 1], [.ref 118, .ref 122, .ref 118], (h.1, qm_up I6 118 13 1, h.2.2.1, h.2.2.2))) rfl ?_
            refine hp_geti (v := t7) rfl (hH.1 118 (17, 105) rfl) rfl (show (qm_up I6 118 13 1) 118 11 = _ from ((hk_neq (by decide)).trans q_t7)) ?_
            refine qm_Rp.go 0 (c' := (22, [.ref 118, .int 1], [.int t7, .ref 122, .ref 118], (h.1, qm_up I6 118 13 1, h.2.2.1, h.2.2.2))) rfl ?_
            refine hp_ial (v := pv16) rfl (hH.1 122 (0, 403) rfl) (show (qm_up I6 118 13 1) 122 t7.toInt.toNat = _ from ((hk_ot rfl).trans ((e_I6 122 rfl t7.toInt.toNat).trans ((e 122 rfl t7.toInt.toNat).trans q_pv16)))) (fun ia_56 ib_56 => ?_)
            refine qm_Rp.go 0 (c' := (23, [.ref 118, .int 1], [.int pv16, .ref 118], (h.1, qm_up I6 118 13 1, h.2.2.1, h.2.2.2))) rfl ?_
            refine hp_puti rfl (hH.1 118 (17, 105) rfl) rfl ?_
            refine qm_Rp.go 0 (c' := (26, [.ref 118, .int 1], [], (h.1, qm_up (qm_up I6 118 13 1) 118 14 pv16, h.2.2.1, h.2.2.2))) rfl ?_
            refine qm_Rp.rt (v := none) (h' := (h.1, qm_up (qm_up I6 118 13 1) 118 14 pv16, h.2.2.1, h.2.2.2)) rfl ?_
            refine qm_Rp.go 0 (c' := (85, [.ref 118, .int w, .int ng, .int v5, .int v18, l5], [], (h.1, qm_up (qm_up I6 118 13 1) 118 14 pv16, h.2.2.1, h.2.2.2))) rfl ?_
            refine qm_Rp.go 1 (c' := (86, [.ref 118, .int w, .int ng, .int v5, .int v18, l5], [.ref 118], (h.1, qm_up (qm_up I6 118 13 1) 118 14 pv16, h.2.2.1, h.2.2.2))) rfl ?_
            refine hp_inv (o := 118) (r := []) (as := [.ref 118]) rfl rfl (hH.1 118 (17, 105) rfl) rfl rfl rfl (px_gof (h := (h.1, qm_up (qm_up I6 118 13 1) 118 14 pv16, h.2.2.1, h.2.2.2)) hH (show (qm_up (qm_up I6 118 13 1) 118 14 pv16) 118 13 = _ from ((hk_neq (by decide)).trans (hk_same))) (by decide) (fun I58 e_I58 e8_I58 => ?_))
            have e_I58 : (∀ o, [118].contains o = false → ∀ i, I58 o i = (qm_up (qm_up I6 118 13 1) 118 14 pv16) o i) := e_I58
            have e8_I58 : (∀ i, [11].contains i = false → I58 118 i = (qm_up (qm_up I6 118 13 1) 118 14 pv16) 118 i) := e8_I58
            refine qm_Rp.go 1 (c' := (90, [.ref 118, .int w, .int ng, .int v5, .int v18, l5], [.ref 118], (h.1, I58, h.2.2.1, h.2.2.2))) rfl ?_
            obtain ⟨v59, q_v59⟩ : ∃ v_, I6 118 37 = v_ := ⟨_, rfl⟩
            refine hp_geti (v := v59) rfl (hH.1 118 (17, 105) rfl) rfl (show (I58) 118 37 = _ from ((e8_I58 37 rfl).trans ((hk_neq (by decide)).trans ((hk_neq (by decide)).trans q_v59)))) ?_
            refine qm_Rp.go 2 (c' := (96, [.ref 118, .int w, .int ng, .int v5, .int v18, .int v59], [.ref 118], (h.1, I58, h.2.2.1, h.2.2.2))) rfl ?_
            refine hp_inv (o := 118) (r := []) (as := [.ref 118]) rfl rfl (hH.1 118 (17, 105) rfl) rfl rfl rfl ?_
            refine qm_Rp.go 2 (c' := (2, [.ref 118, .float 0, .float 0], [.int 0, .ref 118], (h.1, I58, h.2.2.1, h.2.2.2))) rfl ?_
            refine hp_puti rfl (hH.1 118 (17, 105) rfl) rfl ?_
            refine qm_Rp.go 1 (c' := (6, [.ref 118, .float 0, .float 0], [.ref 118], (h.1, qm_up I58 118 41 0, h.2.2.1, h.2.2.2))) rfl ?_
            refine hp_geti (v := 0) rfl (hH.1 118 (17, 105) rfl) rfl (show (qm_up I58 118 41 0) 118 12 = _ from ((hk_neq (by decide)).trans ((e8_I58 12 rfl).trans ((hk_neq (by decide)).trans ((hk_neq (by decide)).trans o_I6))))) ?_
            refine qm_Rp.go 6 (c' := (17, [.ref 118, .int 0, .int 1], [.ref 118], (h.1, qm_up I58 118 41 0, h.2.2.1, h.2.2.2))) rfl ?_
            refine hp_geti (v := 1) rfl (hH.1 118 (17, 105) rfl) rfl (show (qm_up I58 118 41 0) 118 13 = _ from ((hk_neq (by decide)).trans ((e8_I58 13 rfl).trans ((hk_neq (by decide)).trans (hk_same))))) ?_
            refine qm_Rp.go 1 (c' := (246, [.ref 118, .int 0, .int 1], [], (h.1, qm_up I58 118 41 0, h.2.2.1, h.2.2.2))) rfl ?_
            refine qm_Rp.rt (v := none) (h' := (h.1, qm_up I58 118 41 0, h.2.2.1, h.2.2.2)) rfl ?_
            refine qm_Rp.go 1 (c' := (100, [.ref 118, .int w, .int ng, .int v5, .int v18, .int v59], [.ref 118], (h.1, qm_up I58 118 41 0, h.2.2.1, h.2.2.2))) rfl ?_
            refine hp_geti (v := 1) rfl (hH.1 118 (17, 105) rfl) rfl (show (qm_up I58 118 41 0) 118 13 = _ from ((hk_neq (by decide)).trans ((e8_I58 13 rfl).trans ((hk_neq (by decide)).trans (hk_same))))) ?_
            refine qm_Rp.go 1 (c' := (106, [.ref 118, .int w, .int ng, .int v5, .int v18, .int v59], [], (h.1, qm_up I58 118 41 0, h.2.2.1, h.2.2.2))) rfl ?_
            refine qm_Rp.rt (v := none) (h' := (h.1, qm_up I58 118 41 0, h.2.2.1, h.2.2.2)) rfl ?_
            have kq61 : tK B n t7.toInt.toNat < 31 ∨ 34 < tK B n t7.toInt.toNat := rTk_P (P := fun x => 0 + 11 ≤ x ∧ 3 + 11 < x) (Q := fun d => d < 31 ∨ 34 < d) ht_kv15 (by decide +kernel) ⟨(al_ge e_v18 z19), (al_gt e_v18 z25)⟩
            have rf60 : rfin B n 1 pv16 := r_cmp hF12 rfl rfl hrt nk_t7 kq61 rfl hp_kv15
            exact k1 (qm_up I58 118 41 0) 1 pv16 0 (fun o ho i => ((hk_mod ho rfl).trans ((e_I58 o (hk_ms rfl ho) i).trans ((hk_mod ho rfl).trans ((hk_mod ho rfl).trans ((e_I6 o (hk_ms rfl ho) i).trans ((e o (hk_ms rfl ho) i).trans rfl))))))) (fun i hi => ((hk_neq (fun z => by subst z; cases hi)).trans ((e8_I58 i (hk_ms rfl hi)).trans ((hk_neq (fun z => by subst z; cases hi)).trans ((hk_neq (fun z => by subst z; cases hi)).trans ((e8_I6 i (hk_ms rfl hi)).trans ((e8 i (hk_ms rfl hi)).trans rfl))))))) (show (qm_up I58 118 41 0) 118 12 = _ from ((hk_neq (by decide)).trans ((e8_I58 12 rfl).trans ((hk_neq (by decide)).trans ((hk_neq (by decide)).trans o_I6))))) (show (qm_up I58 118 41 0) 118 13 = _ from ((hk_neq (by decide)).trans ((e8_I58 13 rfl).trans ((hk_neq (by decide)).trans (hk_same))))) (show (qm_up I58 118 41 0) 118 14 = _ from ((hk_neq (by decide)).trans ((e8_I58 14 rfl).trans (hk_same)))) rf60
      · have e_I8 : (∀ o, [118, 141, 142, 143].contains o = false → ∀ i, I8 o i = (I) o i) := e_I8
        have e8_I8 : (∀ i, [11, 12, 13, 14, 37, 41].contains i = false → I8 118 i = (I) 118 i) := e8_I8
        have fb_f9 := rf13.1
        refine qm_Rp.go 1 (c' := (38, [.ref 118, .int w, .int ng, .int v5, l4, l5], [.ref 118], (h.1, I8, h.2.2.1, h.2.2.2))) rfl ?_
        refine hp_geti (v := f9) rfl (hH.1 118 (17, 105) rfl) rfl q_f9 ?_
        refine qm_Rp.go 0 (c' := (41, [.ref 118, .int w, .int ng, .int v5, l4, l5], [.int f9], (h.1, I8, h.2.2.1, h.2.2.2))) rfl ?_
        refine hp_zle (ix := f9.toInt) rfl rfl (fun z62 => by exfalso; omega) (fun z62 => ?_)
        refine qm_Rp.go 4 (c' := (63, [.ref 118, .int w, .int ng, .int v5, .int 0, l5], [.ref 118], (h.1, I8, h.2.2.1, h.2.2.2))) rfl ?_
        refine hp_geti (v := f9) rfl (hH.1 118 (17, 105) rfl) rfl q_f9 ?_
        refine qm_Rp.go 0 (c' := (66, [.ref 118, .int w, .int ng, .int v5, .int 0, l5], [.int f9], (h.1, I8, h.2.2.1, h.2.2.2))) rfl ?_
        refine hp_zne (ix := f9.toInt) rfl rfl (fun z63 => ?_) (fun z63 => by exfalso; omega)
        refine qm_Rp.go 0 (c' := (85, [.ref 118, .int w, .int ng, .int v5, .int 0, l5], [], (h.1, I8, h.2.2.1, h.2.2.2))) rfl ?_
        refine qm_Rp.go 1 (c' := (86, [.ref 118, .int w, .int ng, .int v5, .int 0, l5], [.ref 118], (h.1, I8, h.2.2.1, h.2.2.2))) rfl ?_
        refine hp_inv (o := 118) (r := []) (as := [.ref 118]) rfl rfl (hH.1 118 (17, 105) rfl) rfl rfl rfl (px_gof (h := (h.1, I8, h.2.2.1, h.2.2.2)) hH q_f9 (by omega) (fun I64 e_I64 e8_I64 => ?_))
        have e_I64 : (∀ o, [118].contains o = false → ∀ i, I64 o i = (I8) o i) := e_I64
        have e8_I64 : (∀ i, [11].contains i = false → I64 118 i = (I8) 118 i) := e8_I64
        refine qm_Rp.go 1 (c' := (90, [.ref 118, .int w, .int ng, .int v5, .int 0, l5], [.ref 118], (h.1, I64, h.2.2.1, h.2.2.2))) rfl ?_
        obtain ⟨v65, q_v65⟩ : ∃ v_, I8 118 37 = v_ := ⟨_, rfl⟩
        refine hp_geti (v := v65) rfl (hH.1 118 (17, 105) rfl) rfl (show (I64) 118 37 = _ from ((e8_I64 37 rfl).trans q_v65)) ?_
        refine qm_Rp.go 2 (c' := (96, [.ref 118, .int w, .int ng, .int v5, .int 0, .int v65], [.ref 118], (h.1, I64, h.2.2.1, h.2.2.2))) rfl ?_
        refine hp_inv (o := 118) (r := []) (as := [.ref 118]) rfl rfl (hH.1 118 (17, 105) rfl) rfl rfl rfl ?_
        refine qm_Rp.go 2 (c' := (2, [.ref 118, .float 0, .float 0], [.int 0, .ref 118], (h.1, I64, h.2.2.1, h.2.2.2))) rfl ?_
        refine hp_puti rfl (hH.1 118 (17, 105) rfl) rfl ?_
        refine qm_Rp.go 1 (c' := (6, [.ref 118, .float 0, .float 0], [.ref 118], (h.1, qm_up I64 118 41 0, h.2.2.1, h.2.2.2))) rfl ?_
        refine hp_geti (v := op11) rfl (hH.1 118 (17, 105) rfl) rfl (show (qm_up I64 118 41 0) 118 12 = _ from ((hk_neq (by decide)).trans ((e8_I64 12 rfl).trans q_op11))) ?_
        refine qm_Rp.go 6 (c' := (17, [.ref 118, .int op11, .int 1], [.ref 118], (h.1, qm_up I64 118 41 0, h.2.2.1, h.2.2.2))) rfl ?_
        refine hp_geti (v := f9) rfl (hH.1 118 (17, 105) rfl) rfl (show (qm_up I64 118 41 0) 118 13 = _ from ((hk_neq (by decide)).trans ((e8_I64 13 rfl).trans q_f9))) ?_
        refine qm_Rp.go 0 (c' := (20, [.ref 118, .int op11, .int 1], [.int f9], (h.1, qm_up I64 118 41 0, h.2.2.1, h.2.2.2))) rfl ?_
        refine hp_zne (ix := f9.toInt) rfl rfl (fun z66 => ?_) (fun z66 => by exfalso; omega)
        refine qm_Rp.go 0 (c' := (246, [.ref 118, .int op11, .int 1], [], (h.1, qm_up I64 118 41 0, h.2.2.1, h.2.2.2))) rfl ?_
        refine qm_Rp.rt (v := none) (h' := (h.1, qm_up I64 118 41 0, h.2.2.1, h.2.2.2)) rfl ?_
        refine qm_Rp.go 1 (c' := (100, [.ref 118, .int w, .int ng, .int v5, .int 0, .int v65], [.ref 118], (h.1, qm_up I64 118 41 0, h.2.2.1, h.2.2.2))) rfl ?_
        refine hp_geti (v := f9) rfl (hH.1 118 (17, 105) rfl) rfl (show (qm_up I64 118 41 0) 118 13 = _ from ((hk_neq (by decide)).trans ((e8_I64 13 rfl).trans q_f9))) ?_
        refine qm_Rp.go 0 (c' := (103, [.ref 118, .int w, .int ng, .int v5, .int 0, .int v65], [.int f9], (h.1, qm_up I64 118 41 0, h.2.2.1, h.2.2.2))) rfl ?_
        refine hp_zle (ix := f9.toInt) rfl rfl (fun z67 => by exfalso; omega) (fun z67 => ?_)
        refine qm_Rp.go 0 (c' := (106, [.ref 118, .int w, .int ng, .int v5, .int 0, .int v65], [], (h.1, qm_up I64 118 41 0, h.2.2.1, h.2.2.2))) rfl ?_
        refine qm_Rp.rt (v := none) (h' := (h.1, qm_up I64 118 41 0, h.2.2.1, h.2.2.2)) rfl ?_
        exact k1 (qm_up I64 118 41 0) f9 fp10 op11 (fun o ho i => ((hk_mod ho rfl).trans ((e_I64 o (hk_ms rfl ho) i).trans ((e_I8 o (hk_ms rfl ho) i).trans ((e o (hk_ms rfl ho) i).trans rfl))))) (fun i hi => ((hk_neq (fun z => by subst z; cases hi)).trans ((e8_I64 i (hk_ms rfl hi)).trans ((e8_I8 i (hk_ms rfl hi)).trans ((e8 i (hk_ms rfl hi)).trans rfl))))) (show (qm_up I64 118 41 0) 118 12 = _ from ((hk_neq (by decide)).trans ((e8_I64 12 rfl).trans q_op11))) (show (qm_up I64 118 41 0) 118 13 = _ from ((hk_neq (by decide)).trans ((e8_I64 13 rfl).trans q_f9))) (show (qm_up I64 118 41 0) 118 14 = _ from ((hk_neq (by decide)).trans ((e8_I64 14 rfl).trans q_fp10))) rf13
    · refine qm_Rp.go 2 (c' := (25, [.ref 118, .int 31], [.int 1], (h.1, I, h.2.2.1, h.2.2.2))) rfl ?_
      refine qm_Rp.rt (v := (some (.int 1))) (h' := (h.1, I, h.2.2.1, h.2.2.2)) rfl ?_
      refine qm_Rp.go 2 (c' := (12, [.ref 118, .int w, .int ng, l3, l4, l5], [.int ng], (h.1, I, h.2.2.1, h.2.2.2))) rfl ?_
      refine hp_zne (ix := ng.toInt) rfl rfl (fun z68 => ?_) (fun z68 => ?_)
      · refine qm_Rp.go 2 (c' := (21, [.ref 118, .int w, .int 0, l3, l4, l5], [], (h.1, I, h.2.2.1, h.2.2.2))) rfl ?_
        refine qm_Rp.go 1 (c' := (22, [.ref 118, .int w, .int 0, l3, l4, l5], [.ref 118], (h.1, I, h.2.2.1, h.2.2.2))) rfl ?_
        refine hp_inv (o := 118) (r := []) (as := [.ref 118]) rfl rfl (hH.1 118 (17, 105) rfl) rfl rfl rfl (px_go (h := (h.1, I, h.2.2.1, h.2.2.2)) hH q_t q_f htb_kv1 (fun fp69 q_fp69 x4_fp69 => ?_) (fun t70 e_t70 x4_t70 => ?_))
        · have ex_fp69 : fp69 = pv2 := (q_fp69.symm.trans (show (I) 122 t.toInt.toNat = _ from ((e 122 rfl t.toInt.toNat).trans q_pv2)))
          have kq71 : tK B n t.toInt.toNat ≠ 37 := rTk_P (P := fun x => x = 31) (Q := fun d => d ≠ 37) ht_kv1 (by decide +kernel) z4
          have kq72 : tK B n t.toInt.toNat = 11 := rTk_P (P := fun x => x = 31) (Q := fun d => d = 11) ht_kv1 (by decide +kernel) z4
          have rf73 : rfin B n 2 fp69 := r2_go hF kq71 (fo_7a ⟨rfl, kq72⟩) (by decide) x4_fp69 rfl ((congrArg Int32.toInt ex_fp69).trans hp_kv1)
          refine qm_Rp.go 1 (c' := (2, [.ref 118, .int w, .int 0, l3, l4, l5], [], (h.1, qm_up (qm_up I 118 13 2) 118 14 fp69, h.2.2.1, h.2.2.2))) rfl ?_
          refine qm_Rp.go 2 (c' := (5, [.ref 118, .int w, .int 0, l3, l4, l5], [.int 31, .ref 118], (h.1, qm_up (qm_up I 118 13 2) 118 14 fp69, h.2.2.1, h.2.2.2))) rfl ?_
          refine hp_inv (o := 118) (r := []) (as := [.ref 118, .int 31]) rfl rfl (hH.1 118 (17, 105) rfl) rfl rfl rfl ?_
          refine qm_Rp.go 1 (c' := (1, [.ref 118, .int 31], [.ref 118], (h.1, qm_up (qm_up I 118 13 2) 118 14 fp69, h.2.2.1, h.2.2.2))) rfl ?_
          refine hp_geti (v := 2) rfl (hH.1 118 (17, 105) rfl) rfl (show (qm_up (qm_up I 118 13 2) 118 14 fp69) 118 13 = _ from ((hk_neq (by decide)).trans (hk_same))) ?_
          refine qm_Rp.go 2 (c' := (25, [.ref 118, .int 31], [.int 0], (h.1, qm_up (qm_up I 118 13 2) 118 14 fp69, h.2.2.1, h.2.2.2))) rfl ?_
          refine qm_Rp.rt (v := (some (.int 0))) (h' := (h.1, qm_up (qm_up I 118 13 2) 118 14 fp69, h.2.2.1, h.2.2.2)) rfl ?_
          refine qm_Rp.go 2 (c' := (29, [.ref 118, .int w, .int 0, l3, l4, l5], [.ref 118], (h.1, qm_up (qm_up I 118 13 2) 118 14 fp69, h.2.2.1, h.2.2.2))) rfl ?_
          obtain ⟨v74, q_v74⟩ : ∃ v_, h.2.1 118 37 = v_ := ⟨_, rfl⟩
          refine hp_geti (v := v74) rfl (hH.1 118 (17, 105) rfl) rfl (show (qm_up (qm_up I 118 13 2) 118 14 fp69) 118 37 = _ from ((hk_neq (by decide)).trans ((hk_neq (by decide)).trans ((e8 37 rfl).trans q_v74)))) ?_
          refine qm_Rp.go 2 (c' := (34, [.ref 118, .int w, .int 0, .int v74, l4, l5], [.ref 118], (h.1, qm_up (qm_up I 118 13 2) 118 14 fp69, h.2.2.1, h.2.2.2))) rfl ?_
          refine hp_inv (o := 118) (r := []) (as := [.ref 118]) rfl rfl (hH.1 118 (17, 105) rfl) rfl rfl rfl ?_
          refine qm_Rp.go 2 (c' := (2, [.ref 118, .float 0, .float 0], [.int 0, .ref 118], (h.1, qm_up (qm_up I 118 13 2) 118 14 fp69, h.2.2.1, h.2.2.2))) rfl ?_
          refine hp_puti rfl (hH.1 118 (17, 105) rfl) rfl ?_
          refine qm_Rp.go 1 (c' := (6, [.ref 118, .float 0, .float 0], [.ref 118], (h.1, qm_up (qm_up (qm_up I 118 13 2) 118 14 fp69) 118 41 0, h.2.2.1, h.2.2.2))) rfl ?_
          refine hp_geti (v := 0) rfl (hH.1 118 (17, 105) rfl) rfl (show (qm_up (qm_up (qm_up I 118 13 2) 118 14 fp69) 118 41 0) 118 12 = _ from ((hk_neq (by decide)).trans ((hk_neq (by decide)).trans ((hk_neq (by decide)).trans ((e8 12 rfl).trans q_op))))) ?_
          refine qm_Rp.go 6 (c' := (17, [.ref 118, .int 0, .int 1], [.ref 118], (h.1, qm_up (qm_up (qm_up I 118 13 2) 118 14 fp69) 118 41 0, h.2.2.1, h.2.2.2))) rfl ?_
          refine hp_geti (v := 2) rfl (hH.1 118 (17, 105) rfl) rfl (show (qm_up (qm_up (qm_up I 118 13 2) 118 14 fp69) 118 41 0) 118 13 = _ from ((hk_neq (by decide)).trans ((hk_neq (by decide)).trans (hk_same)))) ?_
          refine qm_Rp.go 1 (c' := (246, [.ref 118, .int 0, .int 1], [], (h.1, qm_up (qm_up (qm_up I 118 13 2) 118 14 fp69) 118 41 0, h.2.2.1, h.2.2.2))) rfl ?_
          refine qm_Rp.rt (v := none) (h' := (h.1, qm_up (qm_up (qm_up I 118 13 2) 118 14 fp69) 118 41 0, h.2.2.1, h.2.2.2)) rfl ?_
          refine qm_Rp.go 1 (c' := (38, [.ref 118, .int w, .int 0, .int v74, l4, l5], [.ref 118], (h.1, qm_up (qm_up (qm_up I 118 13 2) 118 14 fp69) 118 41 0, h.2.2.1, h.2.2.2))) rfl ?_
          refine hp_geti (v := 2) rfl (hH.1 118 (17, 105) rfl) rfl (show (qm_up (qm_up (qm_up I 118 13 2) 118 14 fp69) 118 41 0) 118 13 = _ from ((hk_neq (by decide)).trans ((hk_neq (by decide)).trans (hk_same)))) ?_
          refine qm_Rp.go 5 (c' := (63, [.ref 118, .int w, .int 0, .int v74, .int 0, l5], [.ref 118], (h.1, qm_up (qm_up (qm_up I 118 13 2) 118 14 fp69) 118 41 0, h.2.2.1, h.2.2.2))) rfl ?_
          refine hp_geti (v := 2) rfl (hH.1 118 (17, 105) rfl) rfl (show (qm_up (qm_up (qm_up I 118 13 2) 118 14 fp69) 118 41 0) 118 13 = _ from ((hk_neq (by decide)).trans ((hk_neq (by decide)).trans (hk_same)))) ?_
          refine qm_Rp.go 1 (c' := (85, [.ref 118, .int w, .int 0, .int v74, .int 0, l5], [], (h.1, qm_up (qm_up (qm_up I 118 13 2) 118 14 fp69) 118 41 0, h.2.2.1, h.2.2.2))) rfl ?_
          refine qm_Rp.go 1 (c' := (86, [.ref 118, .int w, .int 0, .int v74, .int 0, l5], [.ref 118], (h.1, qm_up (qm_up (qm_up I 118 13 2) 118 14 fp69) 118 41 0, h.2.2.1, h.2.2.2))) rfl ?_
          refine hp_inv (o := 118) (r := []) (as := [.ref 118]) rfl rfl (hH.1 118 (17, 105) rfl) rfl rfl rfl (px_gof (h := (h.1, qm_up (qm_up (qm_up I 118 13 2) 118 14 fp69) 118 41 0, h.2.2.1, h.2.2.2)) hH (show (qm_up (qm_up (qm_up I 118 13 2) 118 14 fp69) 118 41 0) 118 13 = _ from ((hk_neq (by decide)).trans ((hk_neq (by decide)).trans (hk_same)))) (by decide) (fun I75 e_I75 e8_I75 => ?_))
          have e_I75 : (∀ o, [118].contains o = false → ∀ i, I75 o i = (qm_up (qm_up (qm_up I 118 13 2) 118 14 fp69) 118 41 0) o i) := e_I75
          have e8_I75 : (∀ i, [11].contains i = false → I75 118 i = (qm_up (qm_up (qm_up I 118 13 2) 118 14 fp69) 118 41 0) 118 i) := e8_I75
          refine qm_Rp.go 1 (c' := (90, [.ref 118, .int w, .int 0, .int v74, .int 0, l5], [.ref 118], (h.1, I75, h.2.2.1, h.2.2.2))) rfl ?_
          refine hp_geti (v := v74) rfl (hH.1 118 (17, 105) rfl) rfl (show (I75) 118 37 = _ from ((e8_I75 37 rfl).trans ((hk_neq (by decide)).trans ((hk_neq (by decide)).trans ((hk_neq (by decide)).trans ((e8 37 rfl).trans q_v74)))))) ?_
          refine qm_Rp.go 2 (c' := (96, [.ref 118, .int w, .int 0, .int v74, .int 0, .int v74], [.ref 118], (h.1, I75, h.2.2.1, h.2.2.2))) rfl ?_
          refine hp_inv (o := 118) (r := []) (as := [.ref 118]) rfl rfl (hH.1 118 (17, 105) rfl) rfl rfl rfl ?_
          refine qm_Rp.go 2 (c' := (2, [.ref 118, .float 0, .float 0], [.int 0, .ref 118], (h.1, I75, h.2.2.1, h.2.2.2))) rfl ?_
          refine hp_puti rfl (hH.1 118 (17, 105) rfl) rfl ?_
          refine qm_Rp.go 1 (c' := (6, [.ref 118, .float 0, .float 0], [.ref 118], (h.1, qm_up I75 118 41 0, h.2.2.1, h.2.2.2))) rfl ?_
          refine hp_geti (v := 0) rfl (hH.1 118 (17, 105) rfl) rfl (show (qm_up I75 118 41 0) 118 12 = _ from ((hk_neq (by decide)).trans ((e8_I75 12 rfl).trans ((hk_neq (by decide)).trans ((hk_neq (by decide)).trans ((hk_neq (by decide)).trans ((e8 12 rfl).trans q_op))))))) ?_
          refine qm_Rp.go 6 (c' := (17, [.ref 118, .int 0, .int 1], [.ref 118], (h.1, qm_up I75 118 41 0, h.2.2.1, h.2.2.2))) rfl ?_
          refine hp_geti (v := 2) rfl (hH.1 118 (17, 105) rfl) rfl (show (qm_up I75 118 41 0) 118 13 = _ from ((hk_neq (by decide)).trans ((e8_I75 13 rfl).trans ((hk_neq (by decide)).trans ((hk_neq (by decide)).trans (hk_same)))))) ?_
          refine qm_Rp.go 1 (c' := (246, [.ref 118, .int 0, .int 1], [], (h.1, qm_up I75 118 41 0, h.2.2.1, h.2.2.2))) rfl ?_
          refine qm_Rp.rt (v := none) (h' := (h.1, qm_up I75 118 41 0, h.2.2.1, h.2.2.2)) rfl ?_
          refine qm_Rp.go 1 (c' := (100, [.ref 118, .int w, .int 0, .int v74, .int 0, .int v74], [.ref 118], (h.1, qm_up I75 118 41 0, h.2.2.1, h.2.2.2))) rfl ?_
          refine hp_geti (v := 2) rfl (hH.1 118 (17, 105) rfl) rfl (show (qm_up I75 118 41 0) 118 13 = _ from ((hk_neq (by decide)).trans ((e8_I75 13 rfl).trans ((hk_neq (by decide)).trans ((hk_neq (by decide)).trans (hk_same)))))) ?_
          refine qm_Rp.go 1 (c' := (106, [.ref 118, .int w, .int 0, .int v74, .int 0, .int v74], [], (h.1, qm_up I75 118 41 0, h.2.2.1, h.2.2.2))) rfl ?_
          refine qm_Rp.rt (v := none) (h' := (h.1, qm_up I75 118 41 0, h.2.2.1, h.2.2.2)) rfl ?_
          exact k1 (qm_up I75 118 41 0) 2 fp69 0 (fun o ho i => ((hk_mod ho rfl).trans ((e_I75 o (hk_ms rfl ho) i).trans ((hk_mod ho rfl).trans ((hk_mod ho rfl).trans ((hk_mod ho rfl).trans ((e o (hk_ms rfl ho) i).trans rfl))))))) (fun i hi => ((hk_neq (fun z => by subst z; cases hi)).trans ((e8_I75 i (hk_ms rfl hi)).trans ((hk_neq (fun z => by subst z; cases hi)).trans ((hk_neq (fun z => by subst z; cases hi)).trans ((hk_neq (fun z => by subst z; cases hi)).trans ((e8 i (hk_ms rfl hi)).trans rfl))))))) (show (qm_up I75 118 41 0) 118 12 = _ from ((hk_neq (by decide)).trans ((e8_I75 12 rfl).trans ((hk_neq (by decide)).trans ((hk_neq (by decide)).trans ((hk_neq (by decide)).trans ((e8 12 rfl).trans q_op))))))) (show (qm_up I75 118 41 0) 118 13 = _ from ((hk_neq (by decide)).trans ((e8_I75 13 rfl).trans ((hk_neq (by decide)).trans ((hk_neq (by decide)).trans (hk_same)))))) (show (qm_up I75 118 41 0) 118 14 = _ from ((hk_neq (by decide)).trans ((e8_I75 14 rfl).trans ((hk_neq (by decide)).trans (hk_same))))) rf73
        · have t0_t70 := q_t0 e_t70 ht0
          have kq77 : tK B n t.toInt.toNat = 11 := rTk_P (P := fun x => x = 31) (Q := fun d => d = 11) ht_kv1 (by decide +kernel) z4
          have hF76 : fS B n t70.toInt.toNat = some (7, td, 0, rt, nm, lf, lp, b, li, tr, be, lt, pr, pl, T) := q_not hF rfl kq77 ht0 x4_t70 e_t70
          obtain ⟨kv78, q_kv78⟩ : ∃ v_, h.2.1 121 t70.toInt.toNat = v_ := ⟨_, rfl⟩
          obtain ⟨pv79, q_pv79⟩ : ∃ v_, h.2.1 122 t70.toInt.toNat = v_ := ⟨_, rfl⟩
          obtain ⟨ht_kv78, hp_kv78, h4_kv78⟩ := rAll_at hA hF76 q_kv78 q_pv79
          have hkb_kv78 := rTk_b ht_kv78
          have htb_kv78 := q_le t0_t70 h4_kv78
          refine qm_Rp.go 1 (c' := (2, [.ref 118, .int w, .int 0, l3, l4, l5], [], (h.1, qm_up I 118 11 t70, h.2.2.1, h.2.2.2))) rfl ?_
          exact ih g hg (qm_up I 118 11 t70) t70 0 (fun o ho i => ((hk_mod ho rfl).trans ((e o (hk_ms rfl ho) i).trans rfl))) (fun i hi => ((hk_neq (fun z => by subst z; cases hi)).trans ((e8 i (hk_ms rfl hi)).trans rfl))) (show (qm_up I 118 11 t70) 118 11 = _ from (hk_same)) (show (qm_up I 118 11 t70) 118 13 = _ from ((hk_neq (by decide)).trans q_f)) t0_t70 hF76 _ _ _ ⟨by decide, by decide⟩
      · refine qm_Rp.go 3 (c' := (21, [.ref 118, .int w, .int 1, l3, l4, l5], [], (h.1, I, h.2.2.1, h.2.2.2))) rfl ?_
        refine qm_Rp.go 1 (c' := (22, [.ref 118, .int w, .int 1, l3, l4, l5], [.ref 118], (h.1, I, h.2.2.1, h.2.2.2))) rfl ?_
        refine hp_inv (o := 118) (r := []) (as := [.ref 118]) rfl rfl (hH.1 118 (17, 105) rfl) rfl rfl rfl (px_go (h := (h.1, I, h.2.2.1, h.2.2.2)) hH q_t q_f htb_kv1 (fun fp80 q_fp80 x4_fp80 => ?_) (fun t81 e_t81 x4_t81 => ?_))
        · have ex_fp80 : fp80 = pv2 := (q_fp80.symm.trans (show (I) 122 t.toInt.toNat = _ from ((e 122 rfl t.toInt.toNat).trans q_pv2)))
          have kq82 : tK B n t.toInt.toNat ≠ 37 := rTk_P (P := fun x => x = 31) (Q := fun d => d ≠ 37) ht_kv1 (by decide +kernel) z4
          have kq83 : tK B n t.toInt.toNat = 11 := rTk_P (P := fun x => x = 31) (Q := fun d => d = 11) ht_kv1 (by decide +kernel) z4
          have rf84 : rfin B n 2 fp80 := r2_go hF kq82 (fo_7a ⟨rfl, kq83⟩) (by decide) x4_fp80 rfl ((congrArg Int32.toInt ex_fp80).trans hp_kv1)
          refine qm_Rp.go 1 (c' := (2, [.ref 118, .int w, .int 1, l3, l4, l5], [], (h.1, qm_up (qm_up I 118 13 2) 118 14 fp80, h.2.2.1, h.2.2.2))) rfl ?_
          refine qm_Rp.go 2 (c' := (5, [.ref 118, .int w, .int 1, l3, l4, l5], [.int 31, .ref 118], (h.1, qm_up (qm_up I 118 13 2) 118 14 fp80, h.2.2.1, h.2.2.2))) rfl ?_
          refine hp_inv (o := 118) (r := []) (as := [.ref 118, .int 31]) rfl rfl (hH.1 118 (17, 105) rfl) rfl rfl rfl ?_
          refine qm_Rp.go 1 (c' := (1, [.ref 118, .int 31], [.ref 118], (h.1, qm_up (qm_up I 118 13 2) 118 14 fp80, h.2.2.1, h.2.2.2))) rfl ?_
          refine hp_geti (v := 2) rfl (hH.1 118 (17, 105) rfl) rfl (show (qm_up (qm_up I 118 13 2) 118 14 fp80) 118 13 = _ from ((hk_neq (by decide)).trans (hk_same))) ?_
          refine qm_Rp.go 2 (c' := (25, [.ref 118, .int 31], [.int 0], (h.1, qm_up (qm_up I 118 13 2) 118 14 fp80, h.2.2.1, h.2.2.2))) rfl ?_
          refine qm_Rp.rt (v := (some (.int 0))) (h' := (h.1, qm_up (qm_up I 118 13 2) 118 14 fp80, h.2.2.1, h.2.2.2)) rfl ?_
          refine qm_Rp.go 2 (c' := (29, [.ref 118, .int w, .int 1, l3, l4, l5], [.ref 118], (h.1, qm_up (qm_up I 118 13 2) 118 14 fp80, h.2.2.1, h.2.2.2))) rfl ?_
          obtain ⟨v85, q_v85⟩ : ∃ v_, h.2.1 118 37 = v_ := ⟨_, rfl⟩
          refine hp_geti (v := v85) rfl (hH.1 118 (17, 105) rfl) rfl (show (qm_up (qm_up I 118 13 2) 118 14 fp80) 118 37 = _ from ((hk_neq (by decide)).trans ((hk_neq (by decide)).trans ((e8 37 rfl).trans q_v85)))) ?_
          refine qm_Rp.go 2 (c' := (34, [.ref 118, .int w, .int 1, .int v85, l4, l5], [.ref 118], (h.1, qm_up (qm_up I 118 13 2) 118 14 fp80, h.2.2.1, h.2.2.2))) rfl ?_
          refine hp_inv (o := 118) (r := []) (as := [.ref 118]) rfl rfl (hH.1 118 (17, 105) rfl) rfl rfl rfl ?_
          refine qm_Rp.go 2 (c' := (2, [.ref 118, .float 0, .float 0], [.int 0, .ref 118], (h.1, qm_up (qm_up I 118 13 2) 118 14 fp80, h.2.2.1, h.2.2.2))) rfl ?_
          refine hp_puti rfl (hH.1 118 (17, 105) rfl) rfl ?_
          refine qm_Rp.go 1 (c' := (6, [.ref 118, .float 0, .float 0], [.ref 118], (h.1, qm_up (qm_up (qm_up I 118 13 2) 118 14 fp80) 118 41 0, h.2.2.1, h.2.2.2))) rfl ?_
          refine hp_geti (v := 0) rfl (hH.1 118 (17, 105) rfl) rfl (show (qm_up (qm_up (qm_up I 118 13 2) 118 14 fp80) 118 41 0) 118 12 = _ from ((hk_neq (by decide)).trans ((hk_neq (by decide)).trans ((hk_neq (by decide)).trans ((e8 12 rfl).trans q_op))))) ?_
          refine qm_Rp.go 6 (c' := (17, [.ref 118, .int 0, .int 1], [.ref 118], (h.1, qm_up (qm_up (qm_up I 118 13 2) 118 14 fp80) 118 41 0, h.2.2.1, h.2.2.2))) rfl ?_
          refine hp_geti (v := 2) rfl (hH.1 118 (17, 105) rfl) rfl (show (qm_up (qm_up (qm_up I 118 13 2) 118 14 fp80) 118 41 0) 118 13 = _ from ((hk_neq (by decide)).trans ((hk_neq (by decide)).trans (hk_same)))) ?_
          refine qm_Rp.go 1 (c' := (246, [.ref 118, .int 0, .int 1], [], (h.1, qm_up (qm_up (qm_up I 118 13 2) 118 14 fp80) 118 41 0, h.2.2.1, h.2.2.2))) rfl ?_
          refine qm_Rp.rt (v := none) (h' := (h.1, qm_up (qm_up (qm_up I 118 13 2) 118 14 fp80) 118 41 0, h.2.2.1, h.2.2.2)) rfl ?_
          refine qm_Rp.go 1 (c' := (38, [.ref 118, .int w, .int 1, .int v85, l4, l5], [.ref 118], (h.1, qm_up (qm_up (qm_up I 118 13 2) 118 14 fp80) 118 41 0, h.2.2.1, h.2.2.2))) rfl ?_
          refine hp_geti (v := 2) rfl (hH.1 118 (17, 105) rfl) rfl (show (qm_up (qm_up (qm_up I 118 13 2) 118 14 fp80) 118 41 0) 118 13 = _ from ((hk_neq (by decide)).trans ((hk_neq (by decide)).trans (hk_same)))) ?_
          refine qm_Rp.go 5 (c' := (63, [.ref 118, .int w, .int 1, .int v85, .int 0, l5], [.ref 118], (h.1, qm_up (qm_up (qm_up I 118 13 2) 118 14 fp80) 118 41 0, h.2.2.1, h.2.2.2))) rfl ?_
          refine hp_geti (v := 2) rfl (hH.1 118 (17, 105) rfl) rfl (show (qm_up (qm_up (qm_up I 118 13 2) 118 14 fp80) 118 41 0) 118 13 = _ from ((hk_neq (by decide)).trans ((hk_neq (by decide)).trans (hk_same)))) ?_
          refine qm_Rp.go 1 (c' := (85, [.ref 118, .int w, .int 1, .int v85, .int 0, l5], [], (h.1, qm_up (qm_up (qm_up I 118 13 2) 118 14 fp80) 118 41 0, h.2.2.1, h.2.2.2))) rfl ?_
          refine qm_Rp.go 1 (c' := (86, [.ref 118, .int w, .int 1, .int v85, .int 0, l5], [.ref 118], (h.1, qm_up (qm_up (qm_up I 118 13 2) 118 14 fp80) 118 41 0, h.2.2.1, h.2.2.2))) rfl ?_
          refine hp_inv (o := 118) (r := []) (as := [.ref 118]) rfl rfl (hH.1 118 (17, 105) rfl) rfl rfl rfl (px_gof (h := (h.1, qm_up (qm_up (qm_up I 118 13 2) 118 14 fp80) 118 41 0, h.2.2.1, h.2.2.2)) hH (show (qm_up (qm_up (qm_up I 118 13 2) 118 14 fp80) 118 41 0) 118 13 = _ from ((hk_neq (by decide)).trans ((hk_neq (by decide)).trans (hk_same)))) (by decide) (fun I86 e_I86 e8_I86 => ?_))
          have e_I86 : (∀ o, [118].contains o = false → ∀ i, I86 o i = (qm_up (qm_up (qm_up I 118 13 2) 118 14 fp80) 118 41 0) o i) := e_I86
          have e8_I86 : (∀ i, [11].contains i = false → I86 118 i = (qm_up (qm_up (qm_up I 118 13 2) 118 14 fp80) 118 41 0) 118 i) := e8_I86
          refine qm_Rp.go 1 (c' := (90, [.ref 118, .int w, .int 1, .int v85, .int 0, l5], [.ref 118], (h.1, I86, h.2.2.1, h.2.2.2))) rfl ?_
          refine hp_geti (v := v85) rfl (hH.1 118 (17, 105) rfl) rfl (show (I86) 118 37 = _ from ((e8_I86 37 rfl).trans ((hk_neq (by decide)).trans ((hk_neq (by decide)).trans ((hk_neq (by decide)).trans ((e8 37 rfl).trans q_v85)))))) ?_
          refine qm_Rp.go 2 (c' := (96, [.ref 118, .int w, .int 1, .int v85, .int 0, .int v85], [.ref 118], (h.1, I86, h.2.2.1, h.2.2.2))) rfl ?_
          refine hp_inv (o := 118) (r := []) (as := [.ref 118]) rfl rfl (hH.1 118 (17, 105) rfl) rfl rfl rfl ?_
          refine qm_Rp.go 2 (c' := (2, [.ref 118, .float 0, .float 0], [.int 0, .ref 118], (h.1, I86, h.2.2.1, h.2.2.2))) rfl ?_
          refine hp_puti rfl (hH.1 118 (17, 105) rfl) rfl ?_
          refine qm_Rp.go 1 (c' := (6, [.ref 118, .float 0, .float 0], [.ref 118], (h.1, qm_up I86 118 41 0, h.2.2.1, h.2.2.2))) rfl ?_
          refine hp_geti (v := 0) rfl (hH.1 118 (17, 105) rfl) rfl (show (qm_up I86 118 41 0) 118 12 = _ from ((hk_neq (by decide)).trans ((e8_I86 12 rfl).trans ((hk_neq (by decide)).trans ((hk_neq (by decide)).trans ((hk_neq (by decide)).trans ((e8 12 rfl).trans q_op))))))) ?_
          refine qm_Rp.go 6 (c' := (17, [.ref 118, .int 0, .int 1], [.ref 118], (h.1, qm_up I86 118 41 0, h.2.2.1, h.2.2.2))) rfl ?_
          refine hp_geti (v := 2) rfl (hH.1 118 (17, 105) rfl) rfl (show (qm_up I86 118 41 0) 118 13 = _ from ((hk_neq (by decide)).trans ((e8_I86 13 rfl).trans ((hk_neq (by decide)).trans ((hk_neq (by decide)).trans (hk_same)))))) ?_
          refine qm_Rp.go 1 (c' := (246, [.ref 118, .int 0, .int 1], [], (h.1, qm_up I86 118 41 0, h.2.2.1, h.2.2.2))) rfl ?_
          refine qm_Rp.rt (v := none) (h' := (h.1, qm_up I86 118 41 0, h.2.2.1, h.2.2.2)) rfl ?_
          refine qm_Rp.go 1 (c' := (100, [.ref 118, .int w, .int 1, .int v85, .int 0, .int v85], [.ref 118], (h.1, qm_up I86 118 41 0, h.2.2.1, h.2.2.2))) rfl ?_
          refine hp_geti (v := 2) rfl (hH.1 118 (17, 105) rfl) rfl (show (qm_up I86 118 41 0) 118 13 = _ from ((hk_neq (by decide)).trans ((e8_I86 13 rfl).trans ((hk_neq (by decide)).trans ((hk_neq (by decide)).trans (hk_same)))))) ?_
          refine qm_Rp.go 1 (c' := (106, [.ref 118, .int w, .int 1, .int v85, .int 0, .int v85], [], (h.1, qm_up I86 118 41 0, h.2.2.1, h.2.2.2))) rfl ?_
          refine qm_Rp.rt (v := none) (h' := (h.1, qm_up I86 118 41 0, h.2.2.1, h.2.2.2)) rfl ?_
          exact k1 (qm_up I86 118 41 0) 2 fp80 0 (fun o ho i => ((hk_mod ho rfl).trans ((e_I86 o (hk_ms rfl ho) i).trans ((hk_mod ho rfl).trans ((hk_mod ho rfl).trans ((hk_mod ho rfl).trans ((e o (hk_ms rfl ho) i).trans rfl))))))) (fun i hi => ((hk_neq (fun z => by subst z; cases hi)).trans ((e8_I86 i (hk_ms rfl hi)).trans ((hk_neq (fun z => by subst z; cases hi)).trans ((hk_neq (fun z => by subst z; cases hi)).trans ((hk_neq (fun z => by subst z; cases hi)).trans ((e8 i (hk_ms rfl hi)).trans rfl))))))) (show (qm_up I86 118 41 0) 118 12 = _ from ((hk_neq (by decide)).trans ((e8_I86 12 rfl).trans ((hk_neq (by decide)).trans ((hk_neq (by decide)).trans ((hk_neq (by decide)).trans ((e8 12 rfl).trans q_op))))))) (show (qm_up I86 118 41 0) 118 13 = _ from ((hk_neq (by decide)).trans ((e8_I86 13 rfl).trans ((hk_neq (by decide)).trans ((hk_neq (by decide)).trans (hk_same)))))) (show (qm_up I86 118 41 0) 118 14 = _ from ((hk_neq (by decide)).trans ((e8_I86 14 rfl).trans ((hk_neq (by decide)).trans (hk_same))))) rf84
        · have t0_t81 := q_t0 e_t81 ht0
          have kq88 : tK B n t.toInt.toNat = 11 := rTk_P (P := fun x => x = 31) (Q := fun d => d = 11) ht_kv1 (by decide +kernel) z4
          have hF87 : fS B n t81.toInt.toNat = some (7, td, 0, rt, nm, lf, lp, b, li, tr, be, lt, pr, pl, T) := q_not hF rfl kq88 ht0 x4_t81 e_t81
          obtain ⟨kv89, q_kv89⟩ : ∃ v_, h.2.1 121 t81.toInt.toNat = v_ := ⟨_, rfl⟩
          obtain ⟨pv90, q_pv90⟩ : ∃ v_, h.2.1 122 t81.toInt.toNat = v_ := ⟨_, rfl⟩
          obtain ⟨ht_kv89, hp_kv89, h4_kv89⟩ := rAll_at hA hF87 q_kv89 q_pv90
          have hkb_kv89 := rTk_b ht_kv89
          have htb_kv89 := q_le t0_t81 h4_kv89
          refine qm_Rp.go 1 (c' := (2, [.ref 118, .int w, .int 1, l3, l4, l5], [], (h.1, qm_up I 118 11 t81, h.2.2.1, h.2.2.2))) rfl ?_
          exact ih g hg (qm_up I 118 11 t81) t81 1 (fun o ho i => ((hk_mod ho rfl).trans ((e o (hk_ms rfl ho) i).trans rfl))) (fun i hi => ((hk_neq (fun z => by subst z; cases hi)).trans ((e8 i (hk_ms rfl hi)).trans rfl))) (show (qm_up I 118 11 t81) 118 11 = _ from (hk_same)) (show (qm_up I 118 11 t81) 118 13 = _ from ((hk_neq (by decide)).trans q_f)) t0_t81 hF87 _ _ _ ⟨by decide, by decide⟩
theorem px_li {X : Option (Nat × (Nat → Int32))} {Z : Option Value → qm_H → Prop} {h : qm_H} {fu : Nat} (hH : hk_H h) {B : Nat → Int32} {n : Nat} (hA : rAll B n h.2.1 h.2.2.1) {td rt nm lf lp b li tr be lt pr pl : Int} {T : Nat → Int64} {w : Int32} (hw : 0 ≤ w.toInt ∧ w.toInt ≤ 1) (hrt : rt = 0) (q_op : h.2.1 118 12 = 0) (k0 : ∀ (I : Nat → Nat → Int32) (t : Int32), (∀ o, [118, 135, 136, 137, 138, 139, 140, 141, 142, 143].contains o = false → ∀ i, I o i = h.2.1 o i) → (∀ i, [11, 12, 13, 14, 30, 37, 41].contains i = false → I 118 i = h.2.1 118 i) → I 118 11 = t → I 118 12 = 0 → I 118 13 = 0 → 0 ≤ t.toInt → fS B n t.toInt.toNat = some (9, td, 0, 1, nm, lf, lp, b, li, tr, be, lt, pr, pl, T) → ¬ (28 ≤ tK B n t.toInt.toNat ∧ tK B n t.toInt.toNat ≤ 30) → Z none (h.1, I, h.2.2.1, h.2.2.2)) (k1 : ∀ (I : Nat → Nat → Int32) (f fp op : Int32), (∀ o, [118, 135, 136, 137, 138, 139, 140, 141, 142, 143].contains o = false → ∀ i, I o i = h.2.1 o i) → (∀ i, [11, 12, 13, 14, 30, 37, 41].contains i = false → I 118 i = h.2.1 118 i) → I 118 12 = op → I 118 13 = f → I 118 14 = fp → rfin B n f fp → Z none (h.1, I, h.2.2.1, h.2.2.2)) {t : Int32} (q_t : h.2.1 118 11 = t) (q_f : h.2.1 118 13 = 0) (ht0 : 0 ≤ t.toInt) (hF : fS B n t.toInt.toNat = some (7, td, 0, rt, nm, lf, lp, b, li, tr, be, lt, pr, pl, T)) : qm_Rp fu X cd_263 (qm_ent 6 [.ref 118, .int w] h) Z := by
  refine qm_Rp.go 2 (c' := (2, [.ref 118, .int w, .int 0, .float 0, .float 0, .float 0], [], h)) rfl ?_
  exact px_lil hH hA hw hrt q_op k0 k1 fu h.2.1 t 0 (fun _ _ _ => rfl) (fun _ _ => rfl) q_t q_f ht0 hF _ _ _ ⟨by decide, by decide⟩
