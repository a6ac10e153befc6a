/-! by hand -/
theorem hl4_ctwo1_29 {L : Nat} {xs : Nat → Int32} {d : Nat} {Z : Option Value → qm_H → Prop} {h : qm_H} (h6 : 6 ≤ L) (hH : hk_H h) (hB : hk_B h.2.1) (hT : h.2.2.2 0 9 = some 111 ∧ h.2.2.2 28 2 = some 29) (hW : wS h 29) {b o : Int32} (b_b : (0 : Int) ≤ b.toInt ∧ b.toInt ≤ 29) (b_o : (0 : Int) ≤ o.toInt ∧ o.toInt ≤ 29) (hbo : b.toInt ≠ o.toInt) {c11 : Int32} (q_c11 : h.2.1 11 (o.toInt.toNat) = c11) (f_c11 : c11.toInt = 0) {c12 : Int32} (q_c12 : h.2.1 12 (o.toInt.toNat) = c12) (f_c12 : c12.toInt = -1) {c13 : Int32} (q_c13 : h.2.1 13 (o.toInt.toNat) = c13) (f_c13 : c13.toInt = -1) {c14 : Int32} (q_c14 : h.2.1 14 (o.toInt.toNat) = c14) (f_c14 : c14.toInt = -1) {q ru : Int32} {l6 : Value} (hq : (0 : Int) ≤ q.toInt ∧ q.toInt ≤ 19) (ko : ∀ (I : Nat → Nat → Int32) (J : Nat → Nat → Int64) (be le w : Int32) (l9 l10 l11 : Value), hk_B I → (∀ o, [34, 192, 193, 194, 195, 196, 197, 198, 199, 200, 201, 202, 203, 204, 205, 206, 207, 208, 209, 210, 211, 212, 213, 214, 215, 216, 217, 218, 219, 220, 221, 222, 223, 224, 225, 226, 227, 228, 229, 230, 231, 232, 233].contains o = false → ∀ i, I o i = h.2.1 o i) → v_C I → qm_Ru (some (L, xs)) (d + 100) cd_238 (201, [.ref 38, .int b, .int o, .int be, .int le, .int q, l6, .int ru, .int w, l9, l10, l11], [], (h.1, I, J, h.2.2.2)) Z) : ∀ (m : Nat) (I : Nat → Nat → Int32) (J : Nat → Nat → Int64) (be : Int32) (le : Int32) (w : Int32) (l9 l10 l11 : Value), hk_B I → (∀ o, [34, 192, 193, 194, 195, 196, 197, 198, 199, 200, 201, 202, 203, 204, 205, 206, 207, 208, 209, 210, 211, 212, 213, 214, 215, 216, 217, 218, 219, 220, 221, 222, 223, 224, 225, 226, 227, 228, 229, 230, 231, 232, 233].contains o = false → ∀ i, I o i = h.2.1 o i) → (v_C I) → ((0 : Int) ≤ w.toInt ∧ w.toInt ≤ 20) → (20 - w.toInt).toNat = m → qm_Ru (some (L, xs)) (d + 100) cd_238 (88, [.ref 38, .int b, .int o, .int be, .int le, .int q, l6, .int ru, .int w, l9, l10, l11], [], (h.1, I, J, h.2.2.2)) Z := by
  intro m
  induction m using Nat.strongRecOn with
  | ind m ih =>
    intro I J be le w l9 l10 l11 hBI e hVI hw hm
    refine qm_Ru.go 2 (c' := (91, [.ref 38, .int b, .int o, .int be, .int le, .int q, l6, .int ru, .int w, l9, l10, l11], [.ref 38, .int w], (h.1, I, J, h.2.2.2))) rfl ?_
    refine hk_getr rfl (hH.1 38 (10, 5) rfl) rfl (hH.2 38 1 (some 28) rfl) ?_
    refine qm_Ru.go 0 (c' := (94, [.ref 38, .int b, .int o, .int be, .int le, .int q, l6, .int ru, .int w, l9, l10, l11], [.ref 28, .int w], (h.1, I, J, h.2.2.2))) rfl ?_
    refine hk_getr rfl (hH.1 28 (9, 8) rfl) rfl hT.2 ?_
    refine qm_Ru.go 0 (c' := (97, [.ref 38, .int b, .int o, .int be, .int le, .int q, l6, .int ru, .int w, l9, l10, l11], [.ref 29, .int w], (h.1, I, J, h.2.2.2))) rfl ?_
    obtain ⟨v1, q_v1⟩ : ∃ v_, h.2.1 29 0 = v_ := ⟨_, rfl⟩
    have b_v1 : (2 : Int) ≤ v1.toInt ∧ v1.toInt ≤ 5 := by rw [← q_v1]; exact hB 29 0
    refine hk_geti (v := v1) rfl (hH.1 29 (11, 16) rfl) rfl (show (I) 29 0 = _ from ((e 29 rfl 0).trans q_v1)) ?_
    refine qm_Ru.go 2 (c' := (102, [.ref 38, .int b, .int o, .int be, .int le, .int q, l6, .int ru, .int w, l9, l10, l11], [.int (v1 * 4), .int w], (h.1, I, J, h.2.2.2))) rfl ?_
    obtain ⟨v2, q_v2, e_v2⟩ := hk_mul (x := v1) (y := 4) (a := v1.toInt) (b := 4) rfl rfl (by omega) (by omega)
    rw [q_v2]
    refine hk_cge (ix := w.toInt) (iy := v2.toInt) rfl rfl rfl (fun z3 => ?_) (fun z3 => ?_)
    · refine qm_Ru.go 0 (c' := (201, [.ref 38, .int b, .int o, .int be, .int le, .int q, l6, .int ru, .int w, l9, l10, l11], [], (h.1, I, J, h.2.2.2))) rfl ?_
      exact ko (I) (J) be le w l9 l10 l11 hBI (fun o ho i => (e o ho i)) hVI
    · refine qm_Ru.go 1 (c' := (106, [.ref 38, .int b, .int o, .int be, .int le, .int q, l6, .int ru, .int w, l9, l10, l11], [.ref 38], (h.1, I, J, h.2.2.2))) rfl ?_
      refine hk_getr rfl (hH.1 38 (10, 5) rfl) rfl (hH.2 38 1 (some 28) rfl) ?_
      refine qm_Ru.go 4 (c' := (114, [.ref 38, .int b, .int o, .int be, .int le, .int q, l6, .int ru, .int w, l9, l10, l11], [.int (w / 4), .int o, .ref 28], (h.1, I, J, h.2.2.2))) rfl ?_
      obtain ⟨v4, q_v4, e_v4⟩ := hk_div (x := w) (y := 4) (a := w.toInt) (b := 4) rfl rfl (by omega) (by omega)
      rw [q_v4]
      refine qm_Ru.go 3 (c' := (118, [.ref 38, .int b, .int o, .int be, .int le, .int q, l6, .int ru, .int w, l9, l10, l11], [.int (w - w / 4 * 4), .int v4, .int o, .ref 28], (h.1, I, J, h.2.2.2))) rfl ?_
      obtain ⟨v5, q_v5, e_v5⟩ := hk_rem (x := w) (y := 4) (a := w.toInt) (b := 4) rfl rfl (by omega) (by omega)
      rw [q_v5]
      refine hk_inv (o := 28) (r := []) (as := [.ref 28, .int o, .int v4, .int v5]) rfl rfl (hH.1 28 (9, 8) rfl) rfl rfl rfl rfl (hq_try29 (h := (h.1, I, J, h.2.2.2)) h6 hH hT hBI hVI (b := o) (y := v4) (r := v5) (fun v6 J7 c_v6 d_v6 => ?_) (fun t8 J9 f10 g11 => ?_))
      · refine qm_Ru.go 2 (c' := (125, [.ref 38, .int b, .int o, .int be, .int le, .int q, l6, .int ru, .int w, .int v6, l10, l11], [.int v6], (h.1, I, J7, h.2.2.2))) rfl ?_
        refine hk_zge (ix := v6.toInt) rfl rfl (fun z12 => by exfalso; omega) (fun z12 => ?_)
        refine qm_Ru.go 2 (c' := (198, [.ref 38, .int b, .int o, .int be, .int le, .int q, l6, .int ru, .int (w + 1), .int v6, l10, l11], [], (h.1, I, J7, h.2.2.2))) rfl ?_
        obtain ⟨v13, q_v13, e_v13⟩ := hk_add (x := w) (y := 1) (a := w.toInt) (b := 1) rfl rfl (by omega) (by omega)
        rw [q_v13]
        refine qm_Ru.go 1 (c' := (88, [.ref 38, .int b, .int o, .int be, .int le, .int q, l6, .int ru, .int v13, .int v6, l10, l11], [], (h.1, I, J7, h.2.2.2))) rfl ?_
        exact ih _ (by omega) (I) (J7) be le v13 (.int v6) l10 l11 hBI (fun o ho i => (e o ho i)) hVI (by omega) rfl
      · obtain ⟨f10_y, f10_r, f10_t, f10_f, f10_b⟩ := f10
        obtain ⟨g11_b, g11_n, _⟩ := g11
        refine qm_Ru.go 2 (c' := (125, [.ref 38, .int b, .int o, .int be, .int le, .int q, l6, .int ru, .int w, .int t8, l10, l11], [.int t8], (h.1, I, J9, h.2.2.2))) rfl ?_
        refine hk_zge (ix := t8.toInt) rfl rfl (fun z14 => ?_) (fun z14 => by exfalso; omega)
        refine qm_Ru.go 3 (c' := (135, [.ref 38, .int b, .int o, .int be, .int le, .int q, l6, .int ru, .int w, .int t8, l10, l11], [.int (w * 4)], (h.1, I, J9, h.2.2.2))) rfl ?_
        obtain ⟨v15, q_v15, e_v15⟩ := hk_mul (x := w) (y := 4) (a := w.toInt) (b := 4) rfl rfl (by omega) (by omega)
        rw [q_v15]
        refine qm_Ru.go 2 (c' := (138, [.ref 38, .int b, .int o, .int be, .int le, .int q, l6, .int ru, .int w, .int t8, l10, l11], [.int (v15 + t8)], (h.1, I, J9, h.2.2.2))) rfl ?_
        obtain ⟨v16, q_v16, e_v16⟩ := hk_add (x := v15) (y := t8) (a := v15.toInt) (b := t8.toInt) rfl rfl (by omega) (by omega)
        rw [q_v16]
        refine qm_Ru.go 3 (c' := (143, [.ref 38, .int b, .int o, .int be, .int le, .int q, l6, .int ru, .int w, .int t8, .int v16, l11], [.ref 38, .int ru], (h.1, I, J9, h.2.2.2))) rfl ?_
        refine hk_getr rfl (hH.1 38 (10, 5) rfl) rfl (hH.2 38 2 (some 39) rfl) ?_
        refine qm_Ru.go 1 (c' := (148, [.ref 38, .int b, .int o, .int be, .int le, .int q, l6, .int ru, .int w, .int t8, .int v16, l11], [.int v16, .ref 39, .int ru], (h.1, I, J9, h.2.2.2))) rfl ?_
        obtain ⟨v17, q_v17⟩ : ∃ v_, h.2.1 39 (v16.toInt.toNat) = v_ := ⟨_, rfl⟩
        refine hk_ial (v := v17) rfl (hH.1 39 (0, 80) rfl) (by omega) (by omega) (show (I) 39 (v16.toInt.toNat) = _ from ((e 39 rfl (v16.toInt.toNat)).trans q_v17)) ?_
        refine qm_Ru.go 1 (c' := (150, [.ref 38, .int b, .int o, .int be, .int le, .int q, l6, .int ru, .int w, .int t8, .int v16, l11], [.int (ru + v17)], (h.1, I, J9, h.2.2.2))) rfl ?_
        obtain ⟨v18, q_v18⟩ : ∃ v_, (ru + v17) = v_ := ⟨_, rfl⟩
        rw [q_v18]
        refine qm_Ru.go 4 (c' := (155, [.ref 38, .int b, .int o, .int be, .int le, .int q, l6, .int ru, .int w, .int t8, .int v16, l11], [.int b, .int v16, .int o, .ref 38, .int v18], (h.1, I, J9, h.2.2.2))) rfl ?_
        refine hk_inv (o := 38) (r := [.int v18]) (as := [.ref 38, .int o, .int v16, .int b]) rfl rfl (hH.1 38 (10, 5) rfl) rfl rfl rfl rfl (hs_brw29 (h := (h.1, I, J9, h.2.2.2)) h6 hH hT hBI (v_C_ru hVI) ⟨by show (0 : Int) ≤ o.toInt; omega, by show o.toInt ≤ (29 : Int); omega⟩ ⟨by show (0 : Int) ≤ v16.toInt; omega, by show v16.toInt ≤ (79 : Int); omega⟩ ⟨by show (0 : Int) ≤ b.toInt; omega, by show b.toInt ≤ (29 : Int); omega⟩ (wS_same hW rfl rfl) (by omega) (fun v21 I19 J20 _ hB_I19 e_I19 => ?_))
        have hV_I19 : v_C I19 := v_C_cg9 hVI (fun o ho i => e_I19 o (q9_brw29 ho) i)
        refine qm_Ru.go 1 (c' := (159, [.ref 38, .int b, .int o, .int be, .int le, .int q, l6, .int ru, .int w, .int t8, .int v16, l11], [.int (v18 + v21)], (h.1, I19, J20, h.2.2.2))) rfl ?_
        obtain ⟨v22, q_v22⟩ : ∃ v_, (v18 + v21) = v_ := ⟨_, rfl⟩
        rw [q_v22]
        refine qm_Ru.go 3 (c' := (163, [.ref 38, .int b, .int o, .int be, .int le, .int q, l6, .int ru, .int w, .int t8, .int v16, l11], [.int v16, .int o, .ref 38, .int v22], (h.1, I19, J20, h.2.2.2))) rfl ?_
        obtain ⟨v23, q_v23⟩ : ∃ v_, h.2.1 6 0 = v_ := ⟨_, rfl⟩
        have b_v23 : (0 : Int) ≤ v23.toInt ∧ v23.toInt ≤ 30 := by rw [← q_v23]; exact hB 6 0
        refine hk_inv (o := 38) (r := [.int v22]) (as := [.ref 38, .int o, .int v16]) rfl rfl (hH.1 38 (10, 5) rfl) rfl rfl rfl rfl (hs_ovw4 (h := (h.1, I19, J20, h.2.2.2)) h6 hH hB_I19 hV_I19 (b := o) (x := v16) (n := pI I 6 0) (by omega) (by omega) (by show (I19 6 0).toInt = pI I 6 0; rw [e_I19 6 rfl 0]; exact rfl) g11_n ((congrArg Int32.toInt (show (I19) 11 (o.toInt.toNat) = _ from ((e_I19 11 rfl (o.toInt.toNat)).trans ((e 11 rfl (o.toInt.toNat)).trans q_c11)))).trans (by omega)) (by show (I19 36 v16.toInt.toNat).toInt = -1; rw [e_I19 36 rfl _]; exact (show pI I 36 v16.toInt.toNat = -1 from by rw [show v16.toInt.toNat = (16 * v4.toInt + 4 * v5.toInt + t8.toInt).toNat from by omega]; exact f10_f)) (fun c => by show 0 ≤ (I19 36 (v16.toInt - 1).toNat).toInt; rw [e_I19 36 rfl _]; exact (show 0 ≤ pI I 36 (v16.toInt - 1).toNat from by rw [show (v16.toInt - 1).toNat = (16 * v4.toInt + 4 * v5.toInt + t8.toInt - 1).toNat from by omega]; exact f10_b (by omega))) ((congrArg Int32.toInt (show (I19) 12 (o.toInt.toNat) = _ from ((e_I19 12 rfl (o.toInt.toNat)).trans ((e 12 rfl (o.toInt.toNat)).trans q_c12)))).trans (by omega)) ((congrArg Int32.toInt (show (I19) 13 (o.toInt.toNat) = _ from ((e_I19 13 rfl (o.toInt.toNat)).trans ((e 13 rfl (o.toInt.toNat)).trans q_c13)))).trans (by omega)) ((congrArg Int32.toInt (show (I19) 14 (o.toInt.toNat) = _ from ((e_I19 14 rfl (o.toInt.toNat)).trans ((e 14 rfl (o.toInt.toNat)).trans q_c14)))).trans (by omega)) (fun v25 J24 => ?_))
        refine qm_Ru.go 1 (c' := (167, [.ref 38, .int b, .int o, .int be, .int le, .int q, l6, .int ru, .int w, .int t8, .int v16, l11], [.int (v22 + v25)], (h.1, I19, J24, h.2.2.2))) rfl ?_
        obtain ⟨v26, q_v26⟩ : ∃ v_, (v22 + v25) = v_ := ⟨_, rfl⟩
        rw [q_v26]
        refine qm_Ru.go 3 (c' := (173, [.ref 38, .int b, .int o, .int be, .int le, .int q, l6, .int ru, .int w, .int t8, .int v16, .int v26], [.int le, .int v26], (h.1, I19, J24, h.2.2.2))) rfl ?_
        refine hk_cge (ix := v26.toInt) (iy := le.toInt) rfl rfl rfl (fun z27 => ?_) (fun z27 => ?_)
        · refine qm_Ru.go 1 (c' := (198, [.ref 38, .int b, .int o, .int be, .int le, .int q, l6, .int ru, .int (w + 1), .int t8, .int v16, .int v26], [], (h.1, I19, J24, h.2.2.2))) rfl ?_
          obtain ⟨v28, q_v28, e_v28⟩ := hk_add (x := w) (y := 1) (a := w.toInt) (b := 1) rfl rfl (by omega) (by omega)
          rw [q_v28]
          refine qm_Ru.go 1 (c' := (88, [.ref 38, .int b, .int o, .int be, .int le, .int q, l6, .int ru, .int v28, .int t8, .int v16, .int v26], [], (h.1, I19, J24, h.2.2.2))) rfl ?_
          exact ih _ (by omega) (I19) (J24) be le v28 (.int t8) (.int v16) (.int v26) hB_I19 (fun o ho i => ((e_I19 o (hk_ms rfl ho) i).trans (e o ho i))) hV_I19 (by omega) rfl
        · refine qm_Ru.go 4 (c' := (184, [.ref 38, .int b, .int o, .int be, .int v26, .int q, l6, .int ru, .int w, .int t8, .int v16, .int v26], [.int q, .int 100], (h.1, I19, J24, h.2.2.2))) rfl ?_
          refine qm_Ru.call (j := 235) (as := [.int q]) (c' := (187, [.ref 38, .int b, .int o, .int be, .int v26, .int q, l6, .int ru, .int w, .int t8, .int v16, .int v26], [.int 100], (h.1, I19, J24, h.2.2.2))) rfl rfl rfl ?_
          refine qm_Ru.go 4 (c' := (5, [.int q], [.int (q / 4), .int 10], (h.1, I19, J24, h.2.2.2))) rfl ?_
          obtain ⟨v29, q_v29, e_v29⟩ := hk_div (x := q) (y := 4) (a := q.toInt) (b := 4) rfl rfl (by omega) (by omega)
          rw [q_v29]
          refine qm_Ru.go 1 (c' := (6, [.int q], [.int (10 * v29)], (h.1, I19, J24, h.2.2.2))) rfl ?_
          obtain ⟨v30, q_v30, e_v30⟩ := hk_mul (x := 10) (y := v29) (a := 10) (b := v29.toInt) rfl rfl (by omega) (by omega)
          rw [q_v30]
          refine qm_Ru.go 3 (c' := (9, [.int q], [.int (q - q / 4 * 4), .int v30], (h.1, I19, J24, h.2.2.2))) rfl ?_
          obtain ⟨v31, q_v31, e_v31⟩ := hk_rem (x := q) (y := 4) (a := q.toInt) (b := 4) rfl rfl (by omega) (by omega)
          rw [q_v31]
          refine qm_Ru.go 1 (c' := (10, [.int q], [.int (v30 + v31)], (h.1, I19, J24, h.2.2.2))) rfl ?_
          obtain ⟨v32, q_v32, e_v32⟩ := hk_add (x := v30) (y := v31) (a := v30.toInt) (b := v31.toInt) rfl rfl (by omega) (by omega)
          rw [q_v32]
          refine qm_Ru.rt (v := (some (.int v32))) (h' := (h.1, I19, J24, h.2.2.2)) rfl ?_
          refine qm_Ru.go 1 (c' := (188, [.ref 38, .int b, .int o, .int be, .int v26, .int q, l6, .int ru, .int w, .int t8, .int v16, .int v26], [.int (100 * v32)], (h.1, I19, J24, h.2.2.2))) rfl ?_
          obtain ⟨v33, q_v33, e_v33⟩ := hk_mul (x := 100) (y := v32) (a := 100) (b := v32.toInt) rfl rfl (by omega) (by omega)
          rw [q_v33]
          refine qm_Ru.go 1 (c' := (190, [.ref 38, .int b, .int o, .int be, .int v26, .int q, l6, .int ru, .int w, .int t8, .int v16, .int v26], [.int w, .int v33], (h.1, I19, J24, h.2.2.2))) rfl ?_
          refine qm_Ru.call (j := 235) (as := [.int w]) (c' := (193, [.ref 38, .int b, .int o, .int be, .int v26, .int q, l6, .int ru, .int w, .int t8, .int v16, .int v26], [.int v33], (h.1, I19, J24, h.2.2.2))) rfl rfl rfl ?_
          refine qm_Ru.go 4 (c' := (5, [.int w], [.int (w / 4), .int 10], (h.1, I19, J24, h.2.2.2))) rfl ?_
          rw [q_v4]
          refine qm_Ru.go 1 (c' := (6, [.int w], [.int (10 * v4)], (h.1, I19, J24, h.2.2.2))) rfl ?_
          obtain ⟨v35, q_v35, e_v35⟩ := hk_mul (x := 10) (y := v4) (a := 10) (b := v4.toInt) rfl rfl (by omega) (by omega)
          rw [q_v35]
          refine qm_Ru.go 3 (c' := (9, [.int w], [.int (w - w / 4 * 4), .int v35], (h.1, I19, J24, h.2.2.2))) rfl ?_
          rw [q_v5]
          refine qm_Ru.go 1 (c' := (10, [.int w], [.int (v35 + v5)], (h.1, I19, J24, h.2.2.2))) rfl ?_
          obtain ⟨v37, q_v37, e_v37⟩ := hk_add (x := v35) (y := v5) (a := v35.toInt) (b := v5.toInt) rfl rfl (by omega) (by omega)
          rw [q_v37]
          refine qm_Ru.rt (v := (some (.int v37))) (h' := (h.1, I19, J24, h.2.2.2)) rfl ?_
          refine qm_Ru.go 1 (c' := (194, [.ref 38, .int b, .int o, .int be, .int v26, .int q, l6, .int ru, .int w, .int t8, .int v16, .int v26], [.int (v33 + v37)], (h.1, I19, J24, h.2.2.2))) rfl ?_
          obtain ⟨v38, q_v38, e_v38⟩ := hk_add (x := v33) (y := v37) (a := v33.toInt) (b := v37.toInt) rfl rfl (by omega) (by omega)
          rw [q_v38]
          refine qm_Ru.go 2 (c' := (198, [.ref 38, .int b, .int o, .int v38, .int v26, .int q, l6, .int ru, .int (w + 1), .int t8, .int v16, .int v26], [], (h.1, I19, J24, h.2.2.2))) rfl ?_
          obtain ⟨v39, q_v39, e_v39⟩ := hk_add (x := w) (y := 1) (a := w.toInt) (b := 1) rfl rfl (by omega) (by omega)
          rw [q_v39]
          refine qm_Ru.go 1 (c' := (88, [.ref 38, .int b, .int o, .int v38, .int v26, .int q, l6, .int ru, .int v39, .int t8, .int v16, .int v26], [], (h.1, I19, J24, h.2.2.2))) rfl ?_
          exact ih _ (by omega) (I19) (J24) v38 v26 v39 (.int t8) (.int v16) (.int v26) hB_I19 (fun o ho i => ((e_I19 o (hk_ms rfl ho) i).trans (e o ho i))) hV_I19 (by omega) rfl
theorem hl4_ctwo2_29 {L : Nat} {xs : Nat → Int32} {d : Nat} {Z : Option Value → qm_H → Prop} {h : qm_H} (h6 : 6 ≤ L) (hH : hk_H h) (hB : hk_B h.2.1) (hT : h.2.2.2 0 9 = some 111 ∧ h.2.2.2 28 2 = some 29) (hW : wS h 29) {b o : Int32} (b_b : (0 : Int) ≤ b.toInt ∧ b.toInt ≤ 29) (b_o : (0 : Int) ≤ o.toInt ∧ o.toInt ≤ 29) (hbo : b.toInt ≠ o.toInt) {a11 : Int32} (q_a11 : h.2.1 11 (b.toInt.toNat) = a11) (f_a11 : a11.toInt = 0) {a12 : Int32} (q_a12 : h.2.1 12 (b.toInt.toNat) = a12) (f_a12 : a12.toInt = -1) {a13 : Int32} (q_a13 : h.2.1 13 (b.toInt.toNat) = a13) (f_a13 : a13.toInt = -1) {a14 : Int32} (q_a14 : h.2.1 14 (b.toInt.toNat) = a14) (f_a14 : a14.toInt = -1) {c11 : Int32} (q_c11 : h.2.1 11 (o.toInt.toNat) = c11) (f_c11 : c11.toInt = 0) {c12 : Int32} (q_c12 : h.2.1 12 (o.toInt.toNat) = c12) (f_c12 : c12.toInt = -1) {c13 : Int32} (q_c13 : h.2.1 13 (o.toInt.toNat) = c13) (f_c13 : c13.toInt = -1) {c14 : Int32} (q_c14 : h.2.1 14 (o.toInt.toNat) = c14) (f_c14 : c14.toInt = -1) (k : ∀ (v : Int32) (I : Nat → Nat → Int32) (J : Nat → Nat → Int64), hk_B I → v_C I → (∀ o, [34, 192, 193, 194, 195, 196, 197, 198, 199, 200, 201, 202, 203, 204, 205, 206, 207, 208, 209, 210, 211, 212, 213, 214, 215, 216, 217, 218, 219, 220, 221, 222, 223, 224, 225, 226, 227, 228, 229, 230, 231, 232, 233].contains o = false → ∀ i, I o i = h.2.1 o i) → Z (some (.int v)) (h.1, I, J, h.2.2.2)) : ∀ (m : Nat) (I : Nat → Nat → Int32) (J : Nat → Nat → Int64) (be : Int32) (le : Int32) (q : Int32) (l6 l7 l8 l9 l10 l11 : Value), hk_B I → (∀ o, [34, 192, 193, 194, 195, 196, 197, 198, 199, 200, 201, 202, 203, 204, 205, 206, 207, 208, 209, 210, 211, 212, 213, 214, 215, 216, 217, 218, 219, 220, 221, 222, 223, 224, 225, 226, 227, 228, 229, 230, 231, 232, 233].contains o = false → ∀ i, I o i = h.2.1 o i) → (v_C I) → ((0 : Int) ≤ q.toInt ∧ q.toInt ≤ 20) → (20 - q.toInt).toNat = m → qm_Ru (some (L, xs)) (d + 100) cd_238 (10, [.ref 38, .int b, .int o, .int be, .int le, .int q, l6, l7, l8, l9, l10, l11], [], (h.1, I, J, h.2.2.2)) Z := by
  intro m
  induction m using Nat.strongRecOn with
  | ind m ih =>
    intro I J be le q l6 l7 l8 l9 l10 l11 hBI e hVI hq hm
    refine qm_Ru.go 1 (c' := (12, [.ref 38, .int b, .int o, .int be, .int le, .int q, l6, l7, l8, l9, l10, l11], [.int q], (h.1, I, J, h.2.2.2))) rfl ?_
    have hne : b.toInt.toNat ≠ o.toInt.toNat := by omega
    refine qm_Ru.go 1 (c' := (13, [.ref 38, .int b, .int o, .int be, .int le, .int q, l6, l7, l8, l9, l10, l11], [.ref 38, .int q], (h.1, I, J, h.2.2.2))) rfl ?_
    refine hk_getr rfl (hH.1 38 (10, 5) rfl) rfl (hH.2 38 1 (some 28) rfl) ?_
    refine qm_Ru.go 0 (c' := (16, [.ref 38, .int b, .int o, .int be, .int le, .int q, l6, l7, l8, l9, l10, l11], [.ref 28, .int q], (h.1, I, J, h.2.2.2))) rfl ?_
    refine hk_getr rfl (hH.1 28 (9, 8) rfl) rfl hT.2 ?_
    refine qm_Ru.go 0 (c' := (19, [.ref 38, .int b, .int o, .int be, .int le, .int q, l6, l7, l8, l9, l10, l11], [.ref 29, .int q], (h.1, I, J, h.2.2.2))) rfl ?_
    obtain ⟨v1, q_v1⟩ : ∃ v_, h.2.1 29 0 = v_ := ⟨_, rfl⟩
    have b_v1 : (2 : Int) ≤ v1.toInt ∧ v1.toInt ≤ 5 := by rw [← q_v1]; exact hB 29 0
    refine hk_geti (v := v1) rfl (hH.1 29 (11, 16) rfl) rfl (show (I) 29 0 = _ from ((e 29 rfl 0).trans q_v1)) ?_
    refine qm_Ru.go 2 (c' := (24, [.ref 38, .int b, .int o, .int be, .int le, .int q, l6, l7, l8, l9, l10, l11], [.int (v1 * 4), .int q], (h.1, I, J, h.2.2.2))) rfl ?_
    obtain ⟨v2, q_v2, e_v2⟩ := hk_mul (x := v1) (y := 4) (a := v1.toInt) (b := 4) rfl rfl (by omega) (by omega)
    rw [q_v2]
    refine hk_cge (ix := q.toInt) (iy := v2.toInt) rfl rfl rfl (fun z3 => ?_) (fun z3 => ?_)
    · refine qm_Ru.go 1 (c' := (216, [.ref 38, .int b, .int o, .int be, .int le, .int q, l6, l7, l8, l9, l10, l11], [.int be], (h.1, I, J, h.2.2.2))) rfl ?_
      refine qm_Ru.rt (v := (some (.int be))) (h' := (h.1, I, J, h.2.2.2)) rfl ?_
      exact k be (I) (J) hBI hVI (fun o ho i => (e o ho i))
    · refine qm_Ru.go 1 (c' := (28, [.ref 38, .int b, .int o, .int be, .int le, .int q, l6, l7, l8, l9, l10, l11], [.ref 38], (h.1, I, J, h.2.2.2))) rfl ?_
      refine hk_getr rfl (hH.1 38 (10, 5) rfl) rfl (hH.2 38 1 (some 28) rfl) ?_
      refine qm_Ru.go 4 (c' := (36, [.ref 38, .int b, .int o, .int be, .int le, .int q, l6, l7, l8, l9, l10, l11], [.int (q / 4), .int b, .ref 28], (h.1, I, J, h.2.2.2))) rfl ?_
      obtain ⟨v4, q_v4, e_v4⟩ := hk_div (x := q) (y := 4) (a := q.toInt) (b := 4) rfl rfl (by omega) (by omega)
      rw [q_v4]
      refine qm_Ru.go 3 (c' := (40, [.ref 38, .int b, .int o, .int be, .int le, .int q, l6, l7, l8, l9, l10, l11], [.int (q - q / 4 * 4), .int v4, .int b, .ref 28], (h.1, I, J, h.2.2.2))) rfl ?_
      obtain ⟨v5, q_v5, e_v5⟩ := hk_rem (x := q) (y := 4) (a := q.toInt) (b := 4) rfl rfl (by omega) (by omega)
      rw [q_v5]
      refine hk_inv (o := 28) (r := []) (as := [.ref 28, .int b, .int v4, .int v5]) rfl rfl (hH.1 28 (9, 8) rfl) rfl rfl rfl rfl (hq_try29 (h := (h.1, I, J, h.2.2.2)) h6 hH hT hBI hVI (b := b) (y := v4) (r := v5) (fun v6 J7 c_v6 d_v6 => ?_) (fun t8 J9 f10 g11 => ?_))
      · refine qm_Ru.go 2 (c' := (47, [.ref 38, .int b, .int o, .int be, .int le, .int q, .int v6, l7, l8, l9, l10, l11], [.int v6], (h.1, I, J7, h.2.2.2))) rfl ?_
        refine hk_zge (ix := v6.toInt) rfl rfl (fun z12 => by exfalso; omega) (fun z12 => ?_)
        refine qm_Ru.go 2 (c' := (212, [.ref 38, .int b, .int o, .int be, .int le, .int (q + 1), .int v6, l7, l8, l9, l10, l11], [], (h.1, I, J7, h.2.2.2))) rfl ?_
        obtain ⟨v13, q_v13, e_v13⟩ := hk_add (x := q) (y := 1) (a := q.toInt) (b := 1) rfl rfl (by omega) (by omega)
        rw [q_v13]
        refine qm_Ru.go 1 (c' := (10, [.ref 38, .int b, .int o, .int be, .int le, .int v13, .int v6, l7, l8, l9, l10, l11], [], (h.1, I, J7, h.2.2.2))) rfl ?_
        exact ih _ (by omega) (I) (J7) be le v13 (.int v6) l7 l8 l9 l10 l11 hBI (fun o ho i => (e o ho i)) hVI (by omega) rfl
      · obtain ⟨f10_y, f10_r, f10_t, f10_f, f10_b⟩ := f10
        obtain ⟨g11_b, g11_n, _⟩ := g11
        refine qm_Ru.go 2 (c' := (47, [.ref 38, .int b, .int o, .int be, .int le, .int q, .int t8, l7, l8, l9, l10, l11], [.int t8], (h.1, I, J9, h.2.2.2))) rfl ?_
        refine hk_zge (ix := t8.toInt) rfl rfl (fun z14 => ?_) (fun z14 => by exfalso; omega)
        refine qm_Ru.go 5 (c' := (59, [.ref 38, .int b, .int o, .int be, .int le, .int q, .int t8, l7, l8, l9, l10, l11], [.int (q * 4), .int b, .ref 38], (h.1, I, J9, h.2.2.2))) rfl ?_
        obtain ⟨v15, q_v15, e_v15⟩ := hk_mul (x := q) (y := 4) (a := q.toInt) (b := 4) rfl rfl (by omega) (by omega)
        rw [q_v15]
        refine qm_Ru.go 2 (c' := (62, [.ref 38, .int b, .int o, .int be, .int le, .int q, .int t8, l7, l8, l9, l10, l11], [.int (v15 + t8), .int b, .ref 38], (h.1, I, J9, h.2.2.2))) rfl ?_
        obtain ⟨v16, q_v16, e_v16⟩ := hk_add (x := v15) (y := t8) (a := v15.toInt) (b := t8.toInt) rfl rfl (by omega) (by omega)
        rw [q_v16]
        refine hk_inv (o := 38) (r := []) (as := [.ref 38, .int b, .int v16]) rfl rfl (hH.1 38 (10, 5) rfl) rfl rfl rfl rfl (hs_brk29 (h := (h.1, I, J9, h.2.2.2)) h6 hH hT hBI (v_C_ru hVI) ⟨by show (0 : Int) ≤ b.toInt; omega, by show b.toInt ≤ (29 : Int); omega⟩ ⟨by show (0 : Int) ≤ v16.toInt; omega, by show v16.toInt ≤ (79 : Int); omega⟩ (wS_same hW rfl rfl) (by omega) (fun v19 I17 J18 _ hB_I17 e_I17 => ?_))
        have hV_I17 : v_C I17 := v_C_cg9 hVI (fun o ho i => e_I17 o (q9_brk29 ho) i)
        refine qm_Ru.go 2 (c' := (68, [.ref 38, .int b, .int o, .int be, .int le, .int q, .int t8, .int v19, l8, l9, l10, l11], [.ref 38], (h.1, I17, J18, h.2.2.2))) rfl ?_
        refine hk_getr rfl (hH.1 38 (10, 5) rfl) rfl (hH.2 38 1 (some 28) rfl) ?_
        refine qm_Ru.go 4 (c' := (76, [.ref 38, .int b, .int o, .int be, .int le, .int q, .int t8, .int v19, l8, l9, l10, l11], [.int (q / 4), .int b, .ref 28], (h.1, I17, J18, h.2.2.2))) rfl ?_
        rw [q_v4]
        refine qm_Ru.go 3 (c' := (80, [.ref 38, .int b, .int o, .int be, .int le, .int q, .int t8, .int v19, l8, l9, l10, l11], [.int (q - q / 4 * 4), .int v4, .int b, .ref 28], (h.1, I17, J18, h.2.2.2))) rfl ?_
        rw [q_v5]
        refine qm_Ru.go 1 (c' := (82, [.ref 38, .int b, .int o, .int be, .int le, .int q, .int t8, .int v19, l8, l9, l10, l11], [.int t8, .int v5, .int v4, .int b, .ref 28], (h.1, I17, J18, h.2.2.2))) rfl ?_
        refine hk_inv (o := 28) (r := []) (as := [.ref 28, .int b, .int v4, .int v5, .int t8]) rfl rfl (hH.1 28 (9, 8) rfl) rfl rfl rfl rfl (hm_sput4 (h := (h.1, I17, J18, h.2.2.2)) hH (b := b) (y := v4) (r := v5) (t := t8) (by omega) (by omega) (by omega) (by omega) (fun v22 v23 v24 v25 e_v22 z266 z267 z265 => ?_))
        obtain ⟨z26c, z26n, z265⟩ := z265
        refine qm_Ru.go 2 (c' := (88, [.ref 38, .int b, .int o, .int be, .int le, .int q, .int t8, .int v19, .int 0, l9, l10, l11], [], (h.1, qm_up (qm_up (qm_up (qm_up (qm_up (qm_up (qm_up (qm_up I17 36 (v22.toInt.toNat) b) 28 6 v23) 37 (v4.toInt.toNat) v24) 28 5 v25) 11 (b.toInt.toNat) 1) 12 (b.toInt.toNat) v4) 13 (b.toInt.toNat) v5) 14 (b.toInt.toNat) t8, J18, h.2.2.2))) rfl ?_
        refine hl4_ctwo1_29 (h := (h.1, qm_up (qm_up (qm_up (qm_up (qm_up (qm_up (qm_up (qm_up I17 36 (v22.toInt.toNat) b) 28 6 v23) 37 (v4.toInt.toNat) v24) 28 5 v25) 11 (b.toInt.toNat) 1) 12 (b.toInt.toNat) v4) 13 (b.toInt.toNat) v5) 14 (b.toInt.toNat) t8, J18, h.2.2.2)) h6 hH (hb_up (o := 14) (k := b.toInt.toNat) (x := t8) (hb_up (o := 13) (k := b.toInt.toNat) (x := v5) (hb_up (o := 12) (k := b.toInt.toNat) (x := v4) (hb_up (o := 11) (k := b.toInt.toNat) (x := 1) (hb_up (o := 28) (k := 5) (x := v25) (hb_up (o := 37) (k := v4.toInt.toNat) (x := v24) (hb_up (o := 28) (k := 6) (x := v23) (hb_up (o := 36) (k := v22.toInt.toNat) (x := b) hB_I17 ⟨by show (-1 : Int) ≤ b.toInt; omega, by show b.toInt ≤ (29 : Int); omega⟩) (qa_in_full _)) (qa_in_full _)) (qa_in_full _)) ⟨(show (0 : Int) ≤ 1 from by decide), (show (1 : Int) ≤ 2 from by decide)⟩) ⟨by show (-1 : Int) ≤ v4.toInt; omega, by show v4.toInt ≤ (4 : Int); omega⟩) ⟨by show (-1 : Int) ≤ v5.toInt; omega, by show v5.toInt ≤ (3 : Int); omega⟩) ⟨by show (-1 : Int) ≤ t8.toInt; omega, by show t8.toInt ≤ (3 : Int); omega⟩) hT (wS_same hW rfl rfl) b_b b_o hbo (show (qm_up (qm_up (qm_up (qm_up (qm_up (qm_up (qm_up (qm_up I17 36 (v22.toInt.toNat) b) 28 6 v23) 37 (v4.toInt.toNat) v24) 28 5 v25) 11 (b.toInt.toNat) 1) 12 (b.toInt.toNat) v4) 13 (b.toInt.toNat) v5) 14 (b.toInt.toNat) t8) 11 (o.toInt.toNat) = _ from ((hk_ot rfl).trans ((hk_ot rfl).trans ((hk_ot rfl).trans ((hk_neq (by omega)).trans ((hk_ot rfl).trans ((hk_ot rfl).trans ((hk_ot rfl).trans ((hk_ot rfl).trans ((e_I17 11 rfl (o.toInt.toNat)).trans ((e 11 rfl (o.toInt.toNat)).trans q_c11))))))))))) (by omega) (show (qm_up (qm_up (qm_up (qm_up (qm_up (qm_up (qm_up (qm_up I17 36 (v22.toInt.toNat) b) 28 6 v23) 37 (v4.toInt.toNat) v24) 28 5 v25) 11 (b.toInt.toNat) 1) 12 (b.toInt.toNat) v4) 13 (b.toInt.toNat) v5) 14 (b.toInt.toNat) t8) 12 (o.toInt.toNat) = _ from ((hk_ot rfl).trans ((hk_ot rfl).trans ((hk_neq (by omega)).trans ((hk_ot rfl).trans ((hk_ot rfl).trans ((hk_ot rfl).trans ((hk_ot rfl).trans ((hk_ot rfl).trans ((e_I17 12 rfl (o.toInt.toNat)).trans ((e 12 rfl (o.toInt.toNat)).trans q_c12))))))))))) (by omega) (show (qm_up (qm_up (qm_up (qm_up (qm_up (qm_up (qm_up (qm_up I17 36 (v22.toInt.toNat) b) 28 6 v23) 37 (v4.toInt.toNat) v24) 28 5 v25) 11 (b.toInt.toNat) 1) 12 (b.toInt.toNat) v4) 13 (b.toInt.toNat) v5) 14 (b.toInt.toNat) t8) 13 (o.toInt.toNat) = _ from ((hk_ot rfl).trans ((hk_neq (by omega)).trans ((hk_ot rfl).trans ((hk_ot rfl).trans ((hk_ot rfl).trans ((hk_ot rfl).trans ((hk_ot rfl).trans ((hk_ot rfl).trans ((e_I17 13 rfl (o.toInt.toNat)).trans ((e 13 rfl (o.toInt.toNat)).trans q_c13))))))))))) (by omega) (show (qm_up (qm_up (qm_up (qm_up (qm_up (qm_up (qm_up (qm_up I17 36 (v22.toInt.toNat) b) 28 6 v23) 37 (v4.toInt.toNat) v24) 28 5 v25) 11 (b.toInt.toNat) 1) 12 (b.toInt.toNat) v4) 13 (b.toInt.toNat) v5) 14 (b.toInt.toNat) t8) 14 (o.toInt.toNat) = _ from ((hk_neq (by omega)).trans ((hk_ot rfl).trans ((hk_ot rfl).trans ((hk_ot rfl).trans ((hk_ot rfl).trans ((hk_ot rfl).trans ((hk_ot rfl).trans ((hk_ot rfl).trans ((e_I17 14 rfl (o.toInt.toNat)).trans ((e 14 rfl (o.toInt.toNat)).trans q_c14))))))))))) (by omega) (q := q) (ru := v19) (l6 := (.int t8)) (by omega) (fun I30 J31 be le w l9 l10 l11 B29 e27 V28 => ?_) _ (qm_up (qm_up (qm_up (qm_up (qm_up (qm_up (qm_up (qm_up I17 36 (v22.toInt.toNat) b) 28 6 v23) 37 (v4.toInt.toNat) v24) 28 5 v25) 11 (b.toInt.toNat) 1) 12 (b.toInt.toNat) v4) 13 (b.toInt.toNat) v5) 14 (b.toInt.toNat) t8) (J18) be le 0 l9 l10 l11 (hb_up (o := 14) (k := b.toInt.toNat) (x := t8) (hb_up (o := 13) (k := b.toInt.toNat) (x := v5) (hb_up (o := 12) (k := b.toInt.toNat) (x := v4) (hb_up (o := 11) (k := b.toInt.toNat) (x := 1) (hb_up (o := 28) (k := 5) (x := v25) (hb_up (o := 37) (k := v4.toInt.toNat) (x := v24) (hb_up (o := 28) (k := 6) (x := v23) (hb_up (o := 36) (k := v22.toInt.toNat) (x := b) hB_I17 ⟨by show (-1 : Int) ≤ b.toInt; omega, by show b.toInt ≤ (29 : Int); omega⟩) (qa_in_full _)) (qa_in_full _)) (qa_in_full _)) ⟨(show (0 : Int) ≤ 1 from by decide), (show (1 : Int) ≤ 2 from by decide)⟩) ⟨by show (-1 : Int) ≤ v4.toInt; omega, by show v4.toInt ≤ (4 : Int); omega⟩) ⟨by show (-1 : Int) ≤ v5.toInt; omega, by show v5.toInt ≤ (3 : Int); omega⟩) ⟨by show (-1 : Int) ≤ t8.toInt; omega, by show t8.toInt ≤ (3 : Int); omega⟩) (fun _ _ _ => rfl) ⟨⟨(mC_put (I := I17) (I' := qm_up (qm_up (qm_up (qm_up (qm_up (qm_up (qm_up (qm_up I17 36 (v22.toInt.toNat) b) 28 6 v23) 37 (v4.toInt.toNat) v24) 28 5 v25) 11 (b.toInt.toNat) 1) 12 (b.toInt.toNat) v4) 13 (b.toInt.toNat) v5) 14 (b.toInt.toNat) t8) hV_I17.1.1 ((pI_sk rfl).trans ((pI_sk rfl).trans ((pI_sk rfl).trans (pI_up.trans (congrArg (fun f => fu_up f b.toInt.toNat (Int32.toInt 1)) ((pI_sk rfl).trans ((pI_sk rfl).trans ((pI_sk rfl).trans ((pI_sk rfl).trans rfl))))))))) ((pI_sk rfl).trans ((pI_sk rfl).trans (pI_up.trans (congrArg (fun f => fu_up f b.toInt.toNat (Int32.toInt v4)) ((pI_sk rfl).trans ((pI_sk rfl).trans ((pI_sk rfl).trans ((pI_sk rfl).trans ((pI_sk rfl).trans rfl))))))))) ((pI_sk rfl).trans (pI_up.trans (congrArg (fun f => fu_up f b.toInt.toNat (Int32.toInt v5)) ((pI_sk rfl).trans ((pI_sk rfl).trans ((pI_sk rfl).trans ((pI_sk rfl).trans ((pI_sk rfl).trans ((pI_sk rfl).trans rfl))))))))) (pI_up.trans (congrArg (fun f => fu_up f b.toInt.toNat (Int32.toInt t8)) ((pI_sk rfl).trans ((pI_sk rfl).trans ((pI_sk rfl).trans ((pI_sk rfl).trans ((pI_sk rfl).trans ((pI_sk rfl).trans ((pI_sk rfl).trans rfl))))))))) ((pI_sk rfl).trans ((pI_sk rfl).trans ((pI_sk rfl).trans ((pI_sk rfl).trans ((pI_sk rfl).trans ((pI_sk rfl).trans ((pI_sk rfl).trans (pI_up.trans rfl)))))))) ((pI_sk rfl).trans ((pI_sk rfl).trans ((pI_sk rfl).trans ((pI_sk rfl).trans ((pI_sk rfl).trans ((pI_sk rfl).trans ((pI_sk rfl).trans ((pI_sk rfl).trans rfl)))))))) ((pI_sk rfl).trans ((pI_sk rfl).trans ((pI_sk rfl).trans ((pI_sk rfl).trans ((pI_sk rfl).trans ((pI_sk rfl).trans ((pI_sk rfl).trans ((pI_sk rfl).trans rfl)))))))) (congrArg Int32.toInt ((hk_ot rfl).trans ((hk_ot rfl).trans ((hk_ot rfl).trans ((hk_ot rfl).trans ((hk_ot rfl).trans ((hk_ot rfl).trans ((hk_ot rfl).trans ((hk_ot rfl).trans rfl))))))))) ((congrArg Int32.toInt (show (I17) 11 (b.toInt.toNat) = _ from ((e_I17 11 rfl (b.toInt.toNat)).trans ((e 11 rfl (b.toInt.toNat)).trans q_a11)))).trans (by omega)) (show (I17 6 0).toInt = pI I 6 0 from by rw [e_I17 6 rfl 0]; exact rfl) rfl (by omega) (by omega) (by omega) (by omega) (by omega) (by have h9 : b.toInt < pI I 6 0 := g11_n; omega)), (mB_put (I := I17) (I' := qm_up (qm_up (qm_up (qm_up (qm_up (qm_up (qm_up (qm_up I17 36 (v22.toInt.toNat) b) 28 6 v23) 37 (v4.toInt.toNat) v24) 28 5 v25) 11 (b.toInt.toNat) 1) 12 (b.toInt.toNat) v4) 13 (b.toInt.toNat) v5) 14 (b.toInt.toNat) t8) (y := v4.toInt) (r := v5.toInt) (t := t8.toInt) hV_I17.1.2 ((pI_sk rfl).trans ((pI_sk rfl).trans ((pI_sk rfl).trans ((pI_sk rfl).trans ((pI_sk rfl).trans ((pI_sk rfl).trans ((pI_sk rfl).trans (pI_up.trans rfl)))))))) (by omega) (by omega) (fun c => by show 0 ≤ (I17 36 (16 * v4.toInt + 4 * v5.toInt + t8.toInt - 1).toNat).toInt; rw [e_I17 36 rfl _]; exact f10_b (by omega)))⟩, hV_I17.2⟩ (by decide) rfl
        have e27 : ∀ o, [34, 192, 193, 194, 195, 196, 197, 198, 199, 200, 201, 202, 203, 204, 205, 206, 207, 208, 209, 210, 211, 212, 213, 214, 215, 216, 217, 218, 219, 220, 221, 222, 223, 224, 225, 226, 227, 228, 229, 230, 231, 232, 233].contains o = false → ∀ i, I30 o i = (qm_up (qm_up (qm_up (qm_up (qm_up (qm_up (qm_up (qm_up I17 36 (v22.toInt.toNat) b) 28 6 v23) 37 (v4.toInt.toNat) v24) 28 5 v25) 11 (b.toInt.toNat) 1) 12 (b.toInt.toNat) v4) 13 (b.toInt.toNat) v5) 14 (b.toInt.toNat) t8) o i := e27
        refine qm_Ru.go 1 (c' := (202, [.ref 38, .int b, .int o, .int be, .int le, .int q, .int t8, .int v19, .int w, l9, l10, l11], [.ref 38], (h.1, I30, J31, h.2.2.2))) rfl ?_
        refine hk_getr rfl (hH.1 38 (10, 5) rfl) rfl (hH.2 38 1 (some 28) rfl) ?_
        refine qm_Ru.go 1 (c' := (206, [.ref 38, .int b, .int o, .int be, .int le, .int q, .int t8, .int v19, .int w, l9, l10, l11], [.int b, .ref 28], (h.1, I30, J31, h.2.2.2))) rfl ?_
        refine hk_inv (o := 28) (r := []) (as := [.ref 28, .int b]) rfl rfl (hH.1 28 (9, 8) rfl) rfl rfl rfl rfl (hm_rem4 (h := (h.1, I30, J31, h.2.2.2)) hH (b := b) (y1 := v4) (r1 := v5) (t1 := t8) (by omega) (show (I30) 12 (b.toInt.toNat) = _ from ((e27 12 rfl (b.toInt.toNat)).trans ((hk_ot rfl).trans ((hk_ot rfl).trans (hk_same))))) (by omega) (show (I30) 13 (b.toInt.toNat) = _ from ((e27 13 rfl (b.toInt.toNat)).trans ((hk_ot rfl).trans (hk_same)))) (by omega) (show (I30) 14 (b.toInt.toNat) = _ from ((e27 14 rfl (b.toInt.toNat)).trans (hk_same))) (by omega) (fun v32 v33 v34 v35 e_v32 z366 z367 z365 => ?_))
        obtain ⟨z36c, z36n, z365⟩ := z365
        refine qm_Ru.go 1 (c' := (212, [.ref 38, .int b, .int o, .int be, .int le, .int (q + 1), .int t8, .int v19, .int w, l9, l10, l11], [], (h.1, qm_up (qm_up (qm_up (qm_up (qm_up (qm_up (qm_up (qm_up I30 36 (v32.toInt.toNat) (-1)) 28 6 v33) 37 (v4.toInt.toNat) v34) 28 5 v35) 11 (b.toInt.toNat) 0) 12 (b.toInt.toNat) (-1)) 13 (b.toInt.toNat) (-1)) 14 (b.toInt.toNat) (-1), J31, h.2.2.2))) rfl ?_
        obtain ⟨v37, q_v37, e_v37⟩ := hk_add (x := q) (y := 1) (a := q.toInt) (b := 1) rfl rfl (by omega) (by omega)
        rw [q_v37]
        refine qm_Ru.go 1 (c' := (10, [.ref 38, .int b, .int o, .int be, .int le, .int v37, .int t8, .int v19, .int w, l9, l10, l11], [], (h.1, qm_up (qm_up (qm_up (qm_up (qm_up (qm_up (qm_up (qm_up I30 36 (v32.toInt.toNat) (-1)) 28 6 v33) 37 (v4.toInt.toNat) v34) 28 5 v35) 11 (b.toInt.toNat) 0) 12 (b.toInt.toNat) (-1)) 13 (b.toInt.toNat) (-1)) 14 (b.toInt.toNat) (-1), J31, h.2.2.2))) rfl ?_
        have r386 : v33 = (I17) 28 6 := ar1 z366 (show (I30) 28 (6) = v23 from ((e27 28 rfl 6).trans ((hk_ot rfl).trans ((hk_ot rfl).trans ((hk_ot rfl).trans ((hk_ot rfl).trans ((hk_neq (by decide)).trans ((hk_ot rfl).trans (hk_same))))))))) (show (I30) 7 (b.toInt.toNat) = (I17) 7 (b.toInt.toNat) from ((e27 7 rfl (b.toInt.toNat)).trans ((hk_ot rfl).trans ((hk_ot rfl).trans ((hk_ot rfl).trans ((hk_ot rfl).trans ((hk_ot rfl).trans ((hk_ot rfl).trans ((hk_ot rfl).trans ((hk_ot rfl).trans rfl)))))))))) z266
        have r387 : v34 = (I17) 37 (v4.toInt.toNat) := ar1 z367 (show (I30) 37 (v4.toInt.toNat) = v24 from ((e27 37 rfl (v4.toInt.toNat)).trans ((hk_ot rfl).trans ((hk_ot rfl).trans ((hk_ot rfl).trans ((hk_ot rfl).trans ((hk_ot rfl).trans (hk_same)))))))) (show (I30) 7 (b.toInt.toNat) = (I17) 7 (b.toInt.toNat) from ((e27 7 rfl (b.toInt.toNat)).trans ((hk_ot rfl).trans ((hk_ot rfl).trans ((hk_ot rfl).trans ((hk_ot rfl).trans ((hk_ot rfl).trans ((hk_ot rfl).trans ((hk_ot rfl).trans ((hk_ot rfl).trans rfl)))))))))) z267
        have r385 : v35 = (I17) 28 5 := ar2 z365 z36n (show (I30) 28 (5) = v25 from ((e27 28 rfl 5).trans ((hk_ot rfl).trans ((hk_ot rfl).trans ((hk_ot rfl).trans ((hk_ot rfl).trans (hk_same))))))) (show (I30) 7 (b.toInt.toNat) = (I17) 7 (b.toInt.toNat) from ((e27 7 rfl (b.toInt.toNat)).trans ((hk_ot rfl).trans ((hk_ot rfl).trans ((hk_ot rfl).trans ((hk_ot rfl).trans ((hk_ot rfl).trans ((hk_ot rfl).trans ((hk_ot rfl).trans ((hk_ot rfl).trans rfl)))))))))) z265 (by omega)
        have r3811 : ∀ i, (qm_up (qm_up (qm_up (qm_up (qm_up (qm_up (qm_up (qm_up I30 36 (v32.toInt.toNat) (-1)) 28 6 v33) 37 (v4.toInt.toNat) v34) 28 5 v35) 11 (b.toInt.toNat) 0) 12 (b.toInt.toNat) (-1)) 13 (b.toInt.toNat) (-1)) 14 (b.toInt.toNat) (-1)) 11 i = (I17) 11 i := fun i => by
          by_cases c : i = b.toInt.toNat
          · subst c
            exact hk_i0 (congrArg Int32.toInt ((hk_ot rfl).trans ((hk_ot rfl).trans ((hk_ot rfl).trans (hk_same))))) ((congrArg Int32.toInt (show (I17) 11 (b.toInt.toNat) = _ from ((e_I17 11 rfl (b.toInt.toNat)).trans ((e 11 rfl (b.toInt.toNat)).trans q_a11)))).trans (by omega))
          · exact ((hk_ot rfl).trans ((hk_ot rfl).trans ((hk_ot rfl).trans ((hk_neq c).trans ((hk_ot rfl).trans ((hk_ot rfl).trans ((hk_ot rfl).trans ((hk_ot rfl).trans ((e27 11 rfl i).trans ((hk_ot rfl).trans ((hk_ot rfl).trans ((hk_ot rfl).trans ((hk_neq c).trans ((hk_ot rfl).trans ((hk_ot rfl).trans ((hk_ot rfl).trans ((hk_ot rfl).trans rfl)))))))))))))))))
        have r3812 : ∀ i, (qm_up (qm_up (qm_up (qm_up (qm_up (qm_up (qm_up (qm_up I30 36 (v32.toInt.toNat) (-1)) 28 6 v33) 37 (v4.toInt.toNat) v34) 28 5 v35) 11 (b.toInt.toNat) 0) 12 (b.toInt.toNat) (-1)) 13 (b.toInt.toNat) (-1)) 14 (b.toInt.toNat) (-1)) 12 i = (I17) 12 i := fun i => by
          by_cases c : i = b.toInt.toNat
          · subst c
            exact hk_i1 (congrArg Int32.toInt ((hk_ot rfl).trans ((hk_ot rfl).trans (hk_same)))) ((congrArg Int32.toInt (show (I17) 12 (b.toInt.toNat) = _ from ((e_I17 12 rfl (b.toInt.toNat)).trans ((e 12 rfl (b.toInt.toNat)).trans q_a12)))).trans (by omega))
          · exact ((hk_ot rfl).trans ((hk_ot rfl).trans ((hk_neq c).trans ((hk_ot rfl).trans ((hk_ot rfl).trans ((hk_ot rfl).trans ((hk_ot rfl).trans ((hk_ot rfl).trans ((e27 12 rfl i).trans ((hk_ot rfl).trans ((hk_ot rfl).trans ((hk_neq c).trans ((hk_ot rfl).trans ((hk_ot rfl).trans ((hk_ot rfl).trans ((hk_ot rfl).trans ((hk_ot rfl).trans rfl)))))))))))))))))
        have r3813 : ∀ i, (qm_up (qm_up (qm_up (qm_up (qm_up (qm_up (qm_up (qm_up I30 36 (v32.toInt.toNat) (-1)) 28 6 v33) 37 (v4.toInt.toNat) v34) 28 5 v35) 11 (b.toInt.toNat) 0) 12 (b.toInt.toNat) (-1)) 13 (b.toInt.toNat) (-1)) 14 (b.toInt.toNat) (-1)) 13 i = (I17) 13 i := fun i => by
          by_cases c : i = b.toInt.toNat
          · subst c
            exact hk_i1 (congrArg Int32.toInt ((hk_ot rfl).trans (hk_same))) ((congrArg Int32.toInt (show (I17) 13 (b.toInt.toNat) = _ from ((e_I17 13 rfl (b.toInt.toNat)).trans ((e 13 rfl (b.toInt.toNat)).trans q_a13)))).trans (by omega))
          · exact ((hk_ot rfl).trans ((hk_neq c).trans ((hk_ot rfl).trans ((hk_ot rfl).trans ((hk_ot rfl).trans ((hk_ot rfl).trans ((hk_ot rfl).trans ((hk_ot rfl).trans ((e27 13 rfl i).trans ((hk_ot rfl).trans ((hk_neq c).trans ((hk_ot rfl).trans ((hk_ot rfl).trans ((hk_ot rfl).trans ((hk_ot rfl).trans ((hk_ot rfl).trans ((hk_ot rfl).trans rfl)))))))))))))))))
        have r3814 : ∀ i, (qm_up (qm_up (qm_up (qm_up (qm_up (qm_up (qm_up (qm_up I30 36 (v32.toInt.toNat) (-1)) 28 6 v33) 37 (v4.toInt.toNat) v34) 28 5 v35) 11 (b.toInt.toNat) 0) 12 (b.toInt.toNat) (-1)) 13 (b.toInt.toNat) (-1)) 14 (b.toInt.toNat) (-1)) 14 i = (I17) 14 i := fun i => by
          by_cases c : i = b.toInt.toNat
          · subst c
            exact hk_i1 (congrArg Int32.toInt (hk_same)) ((congrArg Int32.toInt (show (I17) 14 (b.toInt.toNat) = _ from ((e_I17 14 rfl (b.toInt.toNat)).trans ((e 14 rfl (b.toInt.toNat)).trans q_a14)))).trans (by omega))
          · exact ((hk_neq c).trans ((hk_ot rfl).trans ((hk_ot rfl).trans ((hk_ot rfl).trans ((hk_ot rfl).trans ((hk_ot rfl).trans ((hk_ot rfl).trans ((hk_ot rfl).trans ((e27 14 rfl i).trans ((hk_neq c).trans ((hk_ot rfl).trans ((hk_ot rfl).trans ((hk_ot rfl).trans ((hk_ot rfl).trans ((hk_ot rfl).trans ((hk_ot rfl).trans ((hk_ot rfl).trans rfl)))))))))))))))))
        have r3828 : ∀ i, (qm_up (qm_up (qm_up (qm_up (qm_up (qm_up (qm_up (qm_up I30 36 (v32.toInt.toNat) (-1)) 28 6 v33) 37 (v4.toInt.toNat) v34) 28 5 v35) 11 (b.toInt.toNat) 0) 12 (b.toInt.toNat) (-1)) 13 (b.toInt.toNat) (-1)) 14 (b.toInt.toNat) (-1)) 28 i = (I17) 28 i := fun i => by
          by_cases c5 : i = 5
          · subst c5
            exact (((hk_ot rfl).trans ((hk_ot rfl).trans ((hk_ot rfl).trans ((hk_ot rfl).trans (hk_same)))))).trans r385
          · by_cases c6 : i = 6
            · subst c6
              exact (((hk_ot rfl).trans ((hk_ot rfl).trans ((hk_ot rfl).trans ((hk_ot rfl).trans ((hk_neq (by decide)).trans ((hk_ot rfl).trans (hk_same)))))))).trans r386
            · exact ((hk_ot rfl).trans ((hk_ot rfl).trans ((hk_ot rfl).trans ((hk_ot rfl).trans ((hk_neq c5).trans ((hk_ot rfl).trans ((hk_neq c6).trans ((hk_ot rfl).trans ((e27 28 rfl i).trans ((hk_ot rfl).trans ((hk_ot rfl).trans ((hk_ot rfl).trans ((hk_ot rfl).trans ((hk_neq c5).trans ((hk_ot rfl).trans ((hk_neq c6).trans ((hk_ot rfl).trans rfl)))))))))))))))))
        have r3837 : ∀ i, (qm_up (qm_up (qm_up (qm_up (qm_up (qm_up (qm_up (qm_up I30 36 (v32.toInt.toNat) (-1)) 28 6 v33) 37 (v4.toInt.toNat) v34) 28 5 v35) 11 (b.toInt.toNat) 0) 12 (b.toInt.toNat) (-1)) 13 (b.toInt.toNat) (-1)) 14 (b.toInt.toNat) (-1)) 37 i = (I17) 37 i := fun i => by
          by_cases c : i = v4.toInt.toNat
          · subst c
            exact (((hk_ot rfl).trans ((hk_ot rfl).trans ((hk_ot rfl).trans ((hk_ot rfl).trans ((hk_ot rfl).trans (hk_same))))))).trans r387
          · exact ((hk_ot rfl).trans ((hk_ot rfl).trans ((hk_ot rfl).trans ((hk_ot rfl).trans ((hk_ot rfl).trans ((hk_neq c).trans ((hk_ot rfl).trans ((hk_ot rfl).trans ((e27 37 rfl i).trans ((hk_ot rfl).trans ((hk_ot rfl).trans ((hk_ot rfl).trans ((hk_ot rfl).trans ((hk_ot rfl).trans ((hk_neq c).trans ((hk_ot rfl).trans ((hk_ot rfl).trans rfl)))))))))))))))))
        have r3836 : ∀ i, (qm_up (qm_up (qm_up (qm_up (qm_up (qm_up (qm_up (qm_up I30 36 (v32.toInt.toNat) (-1)) 28 6 v33) 37 (v4.toInt.toNat) v34) 28 5 v35) 11 (b.toInt.toNat) 0) 12 (b.toInt.toNat) (-1)) 13 (b.toInt.toNat) (-1)) 14 (b.toInt.toNat) (-1)) 36 i = (I17) 36 i := fun i => by
          by_cases c : i = v32.toInt.toNat
          · rw [c]
            exact hk_i1 (congrArg Int32.toInt ((hk_ot rfl).trans ((hk_ot rfl).trans ((hk_ot rfl).trans ((hk_ot rfl).trans ((hk_ot rfl).trans ((hk_ot rfl).trans ((hk_ot rfl).trans (hk_same))))))))) (by rw [e_I17 36 rfl _]; rw [show v32.toInt.toNat = (16 * v4.toInt + 4 * v5.toInt + t8.toInt).toNat from by omega]; exact (show pI I 36 (16 * v4.toInt + 4 * v5.toInt + t8.toInt).toNat = -1 from f10_f))
          · exact ((hk_ot rfl).trans ((hk_ot rfl).trans ((hk_ot rfl).trans ((hk_ot rfl).trans ((hk_ot rfl).trans ((hk_ot rfl).trans ((hk_ot rfl).trans ((hk_neq (by omega)).trans ((e27 36 rfl i).trans ((hk_ot rfl).trans ((hk_ot rfl).trans ((hk_ot rfl).trans ((hk_ot rfl).trans ((hk_ot rfl).trans ((hk_ot rfl).trans ((hk_ot rfl).trans ((hk_neq (by omega)).trans rfl)))))))))))))))))
        have r38 : ∀ o, [34, 192, 193, 194, 195, 196, 197, 198, 199, 200, 201, 202, 203, 204, 205, 206, 207, 208, 209, 210, 211, 212, 213, 214, 215, 216, 217, 218, 219, 220, 221, 222, 223, 224, 225, 226, 227, 228, 229, 230, 231, 232, 233].contains o = false → ∀ i, (qm_up (qm_up (qm_up (qm_up (qm_up (qm_up (qm_up (qm_up I30 36 (v32.toInt.toNat) (-1)) 28 6 v33) 37 (v4.toInt.toNat) v34) 28 5 v35) 11 (b.toInt.toNat) 0) 12 (b.toInt.toNat) (-1)) 13 (b.toInt.toNat) (-1)) 14 (b.toInt.toNat) (-1)) o i = (I17) o i := eq7m (mod := [34, 192, 193, 194, 195, 196, 197, 198, 199, 200, 201, 202, 203, 204, 205, 206, 207, 208, 209, 210, 211, 212, 213, 214, 215, 216, 217, 218, 219, 220, 221, 222, 223, 224, 225, 226, 227, 228, 229, 230, 231, 232, 233]) (I := I17) (I' := qm_up (qm_up (qm_up (qm_up (qm_up (qm_up (qm_up (qm_up I30 36 (v32.toInt.toNat) (-1)) 28 6 v33) 37 (v4.toInt.toNat) v34) 28 5 v35) 11 (b.toInt.toNat) 0) 12 (b.toInt.toNat) (-1)) 13 (b.toInt.toNat) (-1)) 14 (b.toInt.toNat) (-1)) (fun o ho i => ((hk_mod ho rfl).trans ((hk_mod ho rfl).trans ((hk_mod ho rfl).trans ((hk_mod ho rfl).trans ((hk_mod ho rfl).trans ((hk_mod ho rfl).trans ((hk_mod ho rfl).trans ((hk_mod ho rfl).trans ((e27 o (hk_ms rfl ho) i).trans ((hk_mod ho rfl).trans ((hk_mod ho rfl).trans ((hk_mod ho rfl).trans ((hk_mod ho rfl).trans ((hk_mod ho rfl).trans ((hk_mod ho rfl).trans ((hk_mod ho rfl).trans ((hk_mod ho rfl).trans rfl)))))))))))))))))) r3811 r3812 r3813 r3814 r3828 r3836 r3837
        exact ih _ (by omega) (qm_up (qm_up (qm_up (qm_up (qm_up (qm_up (qm_up (qm_up I30 36 (v32.toInt.toNat) (-1)) 28 6 v33) 37 (v4.toInt.toNat) v34) 28 5 v35) 11 (b.toInt.toNat) 0) 12 (b.toInt.toNat) (-1)) 13 (b.toInt.toNat) (-1)) 14 (b.toInt.toNat) (-1)) (J31) be le v37 (.int t8) (.int v19) (.int w) l9 l10 l11 (hb_up (o := 14) (k := b.toInt.toNat) (x := (-1)) (hb_up (o := 13) (k := b.toInt.toNat) (x := (-1)) (hb_up (o := 12) (k := b.toInt.toNat) (x := (-1)) (hb_up (o := 11) (k := b.toInt.toNat) (x := 0) (hb_up (o := 28) (k := 5) (x := v35) (hb_up (o := 37) (k := v4.toInt.toNat) (x := v34) (hb_up (o := 28) (k := 6) (x := v33) (hb_up (o := 36) (k := v32.toInt.toNat) (x := (-1)) B29 ⟨(show (-1 : Int) ≤ -1 from by decide), (show (-1 : Int) ≤ 29 from by decide)⟩) (qa_in_full _)) (qa_in_full _)) (qa_in_full _)) ⟨(show (0 : Int) ≤ 0 from by decide), (show (0 : Int) ≤ 2 from by decide)⟩) ⟨(show (-1 : Int) ≤ -1 from by decide), (show (-1 : Int) ≤ 4 from by decide)⟩) ⟨(show (-1 : Int) ≤ -1 from by decide), (show (-1 : Int) ≤ 3 from by decide)⟩) ⟨(show (-1 : Int) ≤ -1 from by decide), (show (-1 : Int) ≤ 3 from by decide)⟩) (fun o ho i => (r38 o ho i).trans ((e_I17 o (hk_ms rfl ho) i).trans (e o ho i))) (v_C_cg9 hV_I17 (fun o ho i => r38 o (q9_brk29 ho) i)) (by omega) rfl
theorem hs4_ctwo29 {L : Nat} {xs : Nat → Int32} {d : Nat} {Z : Option Value → qm_H → Prop} {h : qm_H} (h6 : 6 ≤ L) (hH : hk_H h) (hB : hk_B h.2.1) (hT : h.2.2.2 0 9 = some 111 ∧ h.2.2.2 28 2 = some 29) (hW : wS h 29) {b o : Int32} (b_b : (0 : Int) ≤ b.toInt ∧ b.toInt ≤ 29) (b_o : (0 : Int) ≤ o.toInt ∧ o.toInt ≤ 29) (hbo : b.toInt ≠ o.toInt) {a11 : Int32} (q_a11 : h.2.1 11 (b.toInt.toNat) = a11) (f_a11 : a11.toInt = 0) {a12 : Int32} (q_a12 : h.2.1 12 (b.toInt.toNat) = a12) (f_a12 : a12.toInt = -1) {a13 : Int32} (q_a13 : h.2.1 13 (b.toInt.toNat) = a13) (f_a13 : a13.toInt = -1) {a14 : Int32} (q_a14 : h.2.1 14 (b.toInt.toNat) = a14) (f_a14 : a14.toInt = -1) {c11 : Int32} (q_c11 : h.2.1 11 (o.toInt.toNat) = c11) (f_c11 : c11.toInt = 0) {c12 : Int32} (q_c12 : h.2.1 12 (o.toInt.toNat) = c12) (f_c12 : c12.toInt = -1) {c13 : Int32} (q_c13 : h.2.1 13 (o.toInt.toNat) = c13) (f_c13 : c13.toInt = -1) {c14 : Int32} (q_c14 : h.2.1 14 (o.toInt.toNat) = c14) (f_c14 : c14.toInt = -1) (hV : v_C h.2.1) (k : ∀ (v : Int32) (I : Nat → Nat → Int32) (J : Nat → Nat → Int64), hk_B I → v_C I → (∀ o, [34, 192, 193, 194, 195, 196, 197, 198, 199, 200, 201, 202, 203, 204, 205, 206, 207, 208, 209, 210, 211, 212, 213, 214, 215, 216, 217, 218, 219, 220, 221, 222, 223, 224, 225, 226, 227, 228, 229, 230, 231, 232, 233].contains o = false → ∀ i, I o i = h.2.1 o i) → Z (some (.int v)) (h.1, I, J, h.2.2.2)) : qm_Ru (some (L, xs)) (d + 100) cd_238 (qm_ent 12 [.ref 38, .int b, .int o] h) Z := by
  refine qm_Ru.go 6 (c' := (10, [.ref 38, .int b, .int o, .int (-2), .int 1000000, .int 0, .float 0, .float 0, .float 0, .float 0, .float 0, .float 0], [], h)) rfl ?_
  exact hl4_ctwo2_29 h6 hH hB hT hW b_b b_o hbo q_a11 f_a11 q_a12 f_a12 q_a13 f_a13 q_a14 f_a14 q_c11 f_c11 q_c12 f_c12 q_c13 f_c13 q_c14 f_c14 k _ h.2.1 h.2.2.1 (-2) 1000000 0 _ _ _ _ _ _ hB (fun _ _ _ => rfl) hV (by decide) rfl
theorem hc4_ctwo29 : hk_ct v_C (fun h => ((h.2.2.2 0 9 = some 111 ∧ h.2.2.2 28 2 = some 29) ∧ wS h 29) ∧ zAw h) (fun as I => ∃ b o : Int32, as = [.ref 0, .int b, .int o]) 236 (some (-2147483648, 2147483647)) [34, 39, 192, 193, 194, 195, 196, 197, 198, 199, 200, 201, 202, 203, 204, 205, 206, 207, 208, 209, 210, 211, 212, 213, 214, 215, 216, 217, 218, 219, 220, 221, 222, 223, 224, 225, 226, 227, 228, 229, 230, 231, 232, 233] 120 := by
  intro L xs d Z h as h6 hH hT2 hB hV hp hd k
  obtain ⟨⟨hT, hW⟩, hZ⟩ := hT2
  obtain ⟨b, o, rfl⟩ := hp
  obtain ⟨d, rfl⟩ : ∃ e, d = e + 120 := ⟨d - 120, by omega⟩
  show qm_Ru (some (L, xs)) (d + 120) cd_236 (qm_ent 3 [.ref 0, .int b, .int o] h) Z
  refine qm_Ru.go 1 (c' := (1, [.ref 0, .int b, .int o], [.ref 0], h)) rfl ?_
  refine hk_getr rfl (hH.1 0 (16, 10) rfl) rfl (hH.2 0 2 (some 6) rfl) ?_
  refine qm_Ru.go 1 (c' := (5, [.ref 0, .int b, .int o], [.int b, .ref 6], h)) rfl ?_
  refine hk_inv (o := 6) (r := []) (as := [.ref 6, .int b]) rfl rfl (hH.1 6 (6, 9) rfl) rfl rfl rfl rfl ?_
  refine qm_Ru.go 2 (c' := (2, [.ref 6, .int b], [.int b, .ref 6], h)) rfl ?_
  refine hk_inv (o := 6) (r := []) (as := [.ref 6, .int b]) rfl rfl (hH.1 6 (6, 9) rfl) rfl rfl rfl rfl ?_
  refine qm_Ru.go 1 (c' := (1, [.ref 6, .int b], [.int b], h)) rfl ?_
  refine hk_zlt (ix := b.toInt) rfl rfl (fun z1 => ?_) (fun z1 => ?_)
  · refine qm_Ru.go 1 (c' := (17, [.ref 6, .int b], [.int 0], h)) rfl ?_
    refine qm_Ru.rt (v := (some (.int 0))) (h' := h) rfl ?_
    refine qm_Ru.go 2 (c' := (22, [.ref 6, .int b], [.int 0], h)) rfl ?_
    refine qm_Ru.rt (v := (some (.int 0))) (h' := h) rfl ?_
    refine qm_Ru.go 2 (c' := (28, [.ref 0, .int b, .int o], [.int (-1)], h)) rfl ?_
    refine qm_Ru.rt (v := (some (.int (-1)))) (h' := h) rfl ?_
    exact k (some (.int (-1))) (h.2.1) (h.2.2.1) ⟨_, rfl, qa_in_full _⟩ hB hV (fun o ho i => rfl)
  · refine qm_Ru.go 2 (c' := (6, [.ref 6, .int b], [.ref 6, .int b], h)) rfl ?_
    obtain ⟨v2, q_v2⟩ : ∃ v_, h.2.1 6 0 = v_ := ⟨_, rfl⟩
    have b_v2 : (0 : Int) ≤ v2.toInt ∧ v2.toInt ≤ 30 := by rw [← q_v2]; exact hB 6 0
    refine hk_geti (v := v2) rfl (hH.1 6 (6, 9) rfl) rfl q_v2 ?_
    refine qm_Ru.go 0 (c' := (9, [.ref 6, .int b], [.int v2, .int b], h)) rfl ?_
    refine hk_cge (ix := b.toInt) (iy := v2.toInt) rfl rfl rfl (fun z3 => ?_) (fun z3 => ?_)
    · refine qm_Ru.go 1 (c' := (17, [.ref 6, .int b], [.int 0], h)) rfl ?_
      refine qm_Ru.rt (v := (some (.int 0))) (h' := h) rfl ?_
      refine qm_Ru.go 2 (c' := (22, [.ref 6, .int b], [.int 0], h)) rfl ?_
      refine qm_Ru.rt (v := (some (.int 0))) (h' := h) rfl ?_
      refine qm_Ru.go 2 (c' := (28, [.ref 0, .int b, .int o], [.int (-1)], h)) rfl ?_
      refine qm_Ru.rt (v := (some (.int (-1)))) (h' := h) rfl ?_
      exact k (some (.int (-1))) (h.2.1) (h.2.2.1) ⟨_, rfl, qa_in_full _⟩ hB hV (fun o ho i => rfl)
    · refine qm_Ru.go 2 (c' := (17, [.ref 6, .int b], [.int 1], h)) rfl ?_
      refine qm_Ru.rt (v := (some (.int 1))) (h' := h) rfl ?_
      refine qm_Ru.go 2 (c' := (9, [.ref 6, .int b], [.ref 6], h)) rfl ?_
      refine hk_getr rfl (hH.1 6 (6, 9) rfl) rfl (hH.2 6 5 (some 11) rfl) ?_
      refine qm_Ru.go 1 (c' := (13, [.ref 6, .int b], [.int b, .ref 11], h)) rfl ?_
      obtain ⟨v4, q_v4⟩ : ∃ v_, h.2.1 11 (b.toInt.toNat) = v_ := ⟨_, rfl⟩
      have b_v4 : (0 : Int) ≤ v4.toInt ∧ v4.toInt ≤ 2 := by rw [← q_v4]; exact hB 11 (b.toInt.toNat)
      refine hk_ial (v := v4) rfl (hH.1 11 (0, 30) rfl) (by omega) (by omega) q_v4 ?_
      refine qm_Ru.go 0 (c' := (14, [.ref 6, .int b], [.int v4], h)) rfl ?_
      refine hk_zne (ix := v4.toInt) rfl rfl (fun z5 => ?_) (fun z5 => ?_)
      · refine qm_Ru.go 1 (c' := (22, [.ref 6, .int b], [.int 0], h)) rfl ?_
        refine qm_Ru.rt (v := (some (.int 0))) (h' := h) rfl ?_
        refine qm_Ru.go 2 (c' := (28, [.ref 0, .int b, .int o], [.int (-1)], h)) rfl ?_
        refine qm_Ru.rt (v := (some (.int (-1)))) (h' := h) rfl ?_
        exact k (some (.int (-1))) (h.2.1) (h.2.2.1) ⟨_, rfl, qa_in_full _⟩ hB hV (fun o ho i => rfl)
      · refine qm_Ru.go 2 (c' := (22, [.ref 6, .int b], [.int 1], h)) rfl ?_
        refine qm_Ru.rt (v := (some (.int 1))) (h' := h) rfl ?_
        refine qm_Ru.go 2 (c' := (12, [.ref 0, .int b, .int o], [.ref 0], h)) rfl ?_
        refine hk_getr rfl (hH.1 0 (16, 10) rfl) rfl (hH.2 0 2 (some 6) rfl) ?_
        refine qm_Ru.go 1 (c' := (16, [.ref 0, .int b, .int o], [.int o, .ref 6], h)) rfl ?_
        refine hk_inv (o := 6) (r := []) (as := [.ref 6, .int o]) rfl rfl (hH.1 6 (6, 9) rfl) rfl rfl rfl rfl ?_
        refine qm_Ru.go 2 (c' := (2, [.ref 6, .int o], [.int o, .ref 6], h)) rfl ?_
        refine hk_inv (o := 6) (r := []) (as := [.ref 6, .int o]) rfl rfl (hH.1 6 (6, 9) rfl) rfl rfl rfl rfl ?_
        refine qm_Ru.go 1 (c' := (1, [.ref 6, .int o], [.int o], h)) rfl ?_
        refine hk_zlt (ix := o.toInt) rfl rfl (fun z6 => ?_) (fun z6 => ?_)
        · refine qm_Ru.go 1 (c' := (17, [.ref 6, .int o], [.int 0], h)) rfl ?_
          refine qm_Ru.rt (v := (some (.int 0))) (h' := h) rfl ?_
          refine qm_Ru.go 2 (c' := (22, [.ref 6, .int o], [.int 0], h)) rfl ?_
          refine qm_Ru.rt (v := (some (.int 0))) (h' := h) rfl ?_
          refine qm_Ru.go 2 (c' := (28, [.ref 0, .int b, .int o], [.int (-1)], h)) rfl ?_
          refine qm_Ru.rt (v := (some (.int (-1)))) (h' := h) rfl ?_
          exact k (some (.int (-1))) (h.2.1) (h.2.2.1) ⟨_, rfl, qa_in_full _⟩ hB hV (fun o ho i => rfl)
        · refine qm_Ru.go 2 (c' := (6, [.ref 6, .int o], [.ref 6, .int o], h)) rfl ?_
          refine hk_geti (v := v2) rfl (hH.1 6 (6, 9) rfl) rfl q_v2 ?_
          refine qm_Ru.go 0 (c' := (9, [.ref 6, .int o], [.int v2, .int o], h)) rfl ?_
          refine hk_cge (ix := o.toInt) (iy := v2.toInt) rfl rfl rfl (fun z7 => ?_) (fun z7 => ?_)
          · refine qm_Ru.go 1 (c' := (17, [.ref 6, .int o], [.int 0], h)) rfl ?_
            refine qm_Ru.rt (v := (some (.int 0))) (h' := h) rfl ?_
            refine qm_Ru.go 2 (c' := (22, [.ref 6, .int o], [.int 0], h)) rfl ?_
            refine qm_Ru.rt (v := (some (.int 0))) (h' := h) rfl ?_
            refine qm_Ru.go 2 (c' := (28, [.ref 0, .int b, .int o], [.int (-1)], h)) rfl ?_
            refine qm_Ru.rt (v := (some (.int (-1)))) (h' := h) rfl ?_
            exact k (some (.int (-1))) (h.2.1) (h.2.2.1) ⟨_, rfl, qa_in_full _⟩ hB hV (fun o ho i => rfl)
          · refine qm_Ru.go 2 (c' := (17, [.ref 6, .int o], [.int 1], h)) rfl ?_
            refine qm_Ru.rt (v := (some (.int 1))) (h' := h) rfl ?_
            refine qm_Ru.go 2 (c' := (9, [.ref 6, .int o], [.ref 6], h)) rfl ?_
            refine hk_getr rfl (hH.1 6 (6, 9) rfl) rfl (hH.2 6 5 (some 11) rfl) ?_
            refine qm_Ru.go 1 (c' := (13, [.ref 6, .int o], [.int o, .ref 11], h)) rfl ?_
            obtain ⟨v8, q_v8⟩ : ∃ v_, h.2.1 11 (o.toInt.toNat) = v_ := ⟨_, rfl⟩
            have b_v8 : (0 : Int) ≤ v8.toInt ∧ v8.toInt ≤ 2 := by rw [← q_v8]; exact hB 11 (o.toInt.toNat)
            refine hk_ial (v := v8) rfl (hH.1 11 (0, 30) rfl) (by omega) (by omega) q_v8 ?_
            refine qm_Ru.go 0 (c' := (14, [.ref 6, .int o], [.int v8], h)) rfl ?_
            refine hk_zne (ix := v8.toInt) rfl rfl (fun z9 => ?_) (fun z9 => ?_)
            · refine qm_Ru.go 1 (c' := (22, [.ref 6, .int o], [.int 0], h)) rfl ?_
              refine qm_Ru.rt (v := (some (.int 0))) (h' := h) rfl ?_
              refine qm_Ru.go 2 (c' := (28, [.ref 0, .int b, .int o], [.int (-1)], h)) rfl ?_
              refine qm_Ru.rt (v := (some (.int (-1)))) (h' := h) rfl ?_
              exact k (some (.int (-1))) (h.2.1) (h.2.2.1) ⟨_, rfl, qa_in_full _⟩ hB hV (fun o ho i => rfl)
            · refine qm_Ru.go 2 (c' := (22, [.ref 6, .int o], [.int 1], h)) rfl ?_
              refine qm_Ru.rt (v := (some (.int 1))) (h' := h) rfl ?_
              refine qm_Ru.go 3 (c' := (24, [.ref 0, .int b, .int o], [.int o, .int b], h)) rfl ?_
              refine hk_cne (ix := b.toInt) (iy := o.toInt) rfl rfl rfl (fun z10 => ?_) (fun z10 => ?_)
              · refine qm_Ru.go 1 (c' := (30, [.ref 0, .int b, .int o], [.ref 0], h)) rfl ?_
                refine hk_getr rfl (hH.1 0 (16, 10) rfl) rfl (hH.2 0 5 (some 38) rfl) ?_
                refine qm_Ru.go 1 (c' := (34, [.ref 0, .int b, .int o], [.int o, .ref 38], h)) rfl ?_
                refine hk_inv (o := 38) (r := []) (as := [.ref 38, .int o]) rfl rfl (hH.1 38 (10, 5) rfl) rfl rfl rfl rfl (hs_lone29 (h := h) h6 hH hT hB (v_C_ru hV) ⟨by show (0 : Int) ≤ o.toInt; omega, by show o.toInt ≤ (29 : Int); omega⟩ (wS_same hW rfl rfl) (by omega) (fun I11 J12 hB_I11 e_I11 => ?_))
                have hV_I11 : v_C I11 := v_C_cg9 hV (fun o ho i => e_I11 o (q9_lone29 ho) i)
                refine qm_Ru.go 1 (c' := (38, [.ref 0, .int b, .int o], [.ref 0], (h.1, I11, J12, h.2.2.2))) rfl ?_
                refine hk_getr rfl (hH.1 0 (16, 10) rfl) rfl (hH.2 0 5 (some 38) rfl) ?_
                refine qm_Ru.go 2 (c' := (43, [.ref 0, .int b, .int o], [.int o, .int b, .ref 38], (h.1, I11, J12, h.2.2.2))) rfl ?_
                have z13 := hZ (b.toInt.toNat) (by rw [q_v4]; omega) (by rw [q_v2]; omega)
                obtain ⟨v14, q_v14⟩ : ∃ v_, h.2.1 12 (b.toInt.toNat) = v_ := ⟨_, rfl⟩
                have f_v14 : v14.toInt = -1 := by rw [← q_v14]; exact z13.1
                obtain ⟨v15, q_v15⟩ : ∃ v_, h.2.1 13 (b.toInt.toNat) = v_ := ⟨_, rfl⟩
                have f_v15 : v15.toInt = -1 := by rw [← q_v15]; exact z13.2.1
                obtain ⟨v16, q_v16⟩ : ∃ v_, h.2.1 14 (b.toInt.toNat) = v_ := ⟨_, rfl⟩
                have f_v16 : v16.toInt = -1 := by rw [← q_v16]; exact z13.2.2
                have z17 := hZ (o.toInt.toNat) (by rw [q_v8]; omega) (by rw [q_v2]; omega)
                obtain ⟨v18, q_v18⟩ : ∃ v_, h.2.1 12 (o.toInt.toNat) = v_ := ⟨_, rfl⟩
                have f_v18 : v18.toInt = -1 := by rw [← q_v18]; exact z17.1
                obtain ⟨v19, q_v19⟩ : ∃ v_, h.2.1 13 (o.toInt.toNat) = v_ := ⟨_, rfl⟩
                have f_v19 : v19.toInt = -1 := by rw [← q_v19]; exact z17.2.1
                obtain ⟨v20, q_v20⟩ : ∃ v_, h.2.1 14 (o.toInt.toNat) = v_ := ⟨_, rfl⟩
                have f_v20 : v20.toInt = -1 := by rw [← q_v20]; exact z17.2.2
                refine hk_inv (o := 38) (r := []) (as := [.ref 38, .int b, .int o]) rfl rfl (hH.1 38 (10, 5) rfl) rfl rfl rfl rfl (hs4_ctwo29 (h := (h.1, I11, J12, h.2.2.2)) h6 hH hB_I11 hT (wS_same hW rfl rfl) (b := b) (o := o) (by omega) (by omega) (by omega) (show (I11) 11 (b.toInt.toNat) = _ from ((e_I11 11 rfl (b.toInt.toNat)).trans q_v4)) (by omega) (show (I11) 12 (b.toInt.toNat) = _ from ((e_I11 12 rfl (b.toInt.toNat)).trans q_v14)) (by omega) (show (I11) 13 (b.toInt.toNat) = _ from ((e_I11 13 rfl (b.toInt.toNat)).trans q_v15)) (by omega) (show (I11) 14 (b.toInt.toNat) = _ from ((e_I11 14 rfl (b.toInt.toNat)).trans q_v16)) (by omega) (show (I11) 11 (o.toInt.toNat) = _ from ((e_I11 11 rfl (o.toInt.toNat)).trans q_v8)) (by omega) (show (I11) 12 (o.toInt.toNat) = _ from ((e_I11 12 rfl (o.toInt.toNat)).trans q_v18)) (by omega) (show (I11) 13 (o.toInt.toNat) = _ from ((e_I11 13 rfl (o.toInt.toNat)).trans q_v19)) (by omega) (show (I11) 14 (o.toInt.toNat) = _ from ((e_I11 14 rfl (o.toInt.toNat)).trans q_v20)) (by omega) hV_I11 (fun v23 I21 J22 hB_I21 hV_I21 e_I21 => ?_))
                refine qm_Ru.go 0 (c' := (46, [.ref 0, .int b, .int o], [.int v23], (h.1, I21, J22, h.2.2.2))) rfl ?_
                refine qm_Ru.rt (v := (some (.int v23))) (h' := (h.1, I21, J22, h.2.2.2)) rfl ?_
                exact k (some (.int v23)) (I21) (J22) ⟨_, rfl, qa_in_full _⟩ hB_I21 hV_I21 (fun o ho i => ((e_I21 o (hk_ms rfl ho) i).trans ((e_I11 o (hk_ms rfl ho) i).trans rfl)))
              · refine qm_Ru.go 1 (c' := (28, [.ref 0, .int b, .int o], [.int (-1)], h)) rfl ?_
                refine qm_Ru.rt (v := (some (.int (-1)))) (h' := h) rfl ?_
                exact k (some (.int (-1))) (h.2.1) (h.2.2.1) ⟨_, rfl, qa_in_full _⟩ hB hV (fun o ho i => rfl)
theorem hl4_ctwo1_111 {L : Nat} {xs : Nat → Int32} {d : Nat} {Z : Option Value → qm_H → Prop} {h : qm_H} (h6 : 6 ≤ L) (hH : hk_H h) (hB : hk_B h.2.1) (hT : h.2.2.2 0 9 = some 29 ∧ h.2.2.2 28 2 = some 111) (hW : wS h 111) {b o : Int32} (b_b : (0 : Int) ≤ b.toInt ∧ b.toInt ≤ 29) (b_o : (0 : Int) ≤ o.toInt ∧ o.toInt ≤ 29) (hbo : b.toInt ≠ o.toInt) {c11 : Int32} (q_c11 : h.2.1 11 (o.toInt.toNat) = c11) (f_c11 : c11.toInt = 0) {c12 : Int32} (q_c12 : h.2.1 12 (o.toInt.toNat) = c12) (f_c12 : c12.toInt = -1) {c13 : Int32} (q_c13 : h.2.1 13 (o.toInt.toNat) = c13) (f_c13 : c13.toInt = -1) {c14 : Int32} (q_c14 : h.2.1 14 (o.toInt.toNat) = c14) (f_c14 : c14.toInt = -1) {q ru : Int32} {l6 : Value} (hq : (0 : Int) ≤ q.toInt ∧ q.toInt ≤ 19) (ko : ∀ (I : Nat → Nat → Int32) (J : Nat → Nat → Int64) (be le w : Int32) (l9 l10 l11 : Value), hk_B I → (∀ o, [116, 192, 193, 194, 195, 196, 197, 198, 199, 200, 201, 202, 203, 204, 205, 206, 207, 208, 209, 210, 211, 212, 213, 214, 215, 216, 217, 218, 219, 220, 221, 222, 223, 224, 225, 226, 227, 228, 229, 230, 231, 232, 233].contains o = false → ∀ i, I o i = h.2.1 o i) → v_C I → qm_Ru (some (L, xs)) (d + 100) cd_238 (201, [.ref 38, .int b, .int o, .int be, .int le, .int q, l6, .int ru, .int w, l9, l10, l11], [], (h.1, I, J, h.2.2.2)) Z) : ∀ (m : Nat) (I : Nat → Nat → Int32) (J : Nat → Nat → Int64) (be : Int32) (le : Int32) (w : Int32) (l9 l10 l11 : Value), hk_B I → (∀ o, [116, 192, 193, 194, 195, 196, 197, 198, 199, 200, 201, 202, 203, 204, 205, 206, 207, 208, 209, 210, 211, 212, 213, 214, 215, 216, 217, 218, 219, 220, 221, 222, 223, 224, 225, 226, 227, 228, 229, 230, 231, 232, 233].contains o = false → ∀ i, I o i = h.2.1 o i) → (v_C I) → ((0 : Int) ≤ w.toInt ∧ w.toInt ≤ 20) → (20 - w.toInt).toNat = m → qm_Ru (some (L, xs)) (d + 100) cd_238 (88, [.ref 38, .int b, .int o, .int be, .int le, .int q, l6, .int ru, .int w, l9, l10, l11], [], (h.1, I, J, h.2.2.2)) Z := by
  intro m
  induction m using Nat.strongRecOn with
  | ind m ih =>
    intro I J be le w l9 l10 l11 hBI e hVI hw hm
    refine qm_Ru.go 2 (c' := (91, [.ref 38, .int b, .int o, .int be, .int le, .int q, l6, .int ru, .int w, l9, l10, l11], [.ref 38, .int w], (h.1, I, J, h.2.2.2))) rfl ?_
    refine hk_getr rfl (hH.1 38 (10, 5) rfl) rfl (hH.2 38 1 (some 28) rfl) ?_
    refine qm_Ru.go 0 (c' := (94, [.ref 38, .int b, .int o, .int be, .int le, .int q, l6, .int ru, .int w, l9, l10, l11], [.ref 28, .int w], (h.1, I, J, h.2.2.2))) rfl ?_
    refine hk_getr rfl (hH.1 28 (9, 8) rfl) rfl hT.2 ?_
    refine qm_Ru.go 0 (c' := (97, [.ref 38, .int b, .int o, .int be, .int le, .int q, l6, .int ru, .int w, l9, l10, l11], [.ref 111, .int w], (h.1, I, J, h.2.2.2))) rfl ?_
    obtain ⟨v1, q_v1⟩ : ∃ v_, h.2.1 111 0 = v_ := ⟨_, rfl⟩
    have b_v1 : (2 : Int) ≤ v1.toInt ∧ v1.toInt ≤ 5 := by rw [← q_v1]; exact hB 111 0
    refine hk_geti (v := v1) rfl (hH.1 111 (11, 16) rfl) rfl (show (I) 111 0 = _ from ((e 111 rfl 0).trans q_v1)) ?_
    refine qm_Ru.go 2 (c' := (102, [.ref 38, .int b, .int o, .int be, .int le, .int q, l6, .int ru, .int w, l9, l10, l11], [.int (v1 * 4), .int w], (h.1, I, J, h.2.2.2))) rfl ?_
    obtain ⟨v2, q_v2, e_v2⟩ := hk_mul (x := v1) (y := 4) (a := v1.toInt) (b := 4) rfl rfl (by omega) (by omega)
    rw [q_v2]
    refine hk_cge (ix := w.toInt) (iy := v2.toInt) rfl rfl rfl (fun z3 => ?_) (fun z3 => ?_)
    · refine qm_Ru.go 0 (c' := (201, [.ref 38, .int b, .int o, .int be, .int le, .int q, l6, .int ru, .int w, l9, l10, l11], [], (h.1, I, J, h.2.2.2))) rfl ?_
      exact ko (I) (J) be le w l9 l10 l11 hBI (fun o ho i => (e o ho i)) hVI
    · refine qm_Ru.go 1 (c' := (106, [.ref 38, .int b, .int o, .int be, .int le, .int q, l6, .int ru, .int w, l9, l10, l11], [.ref 38], (h.1, I, J, h.2.2.2))) rfl ?_
      refine hk_getr rfl (hH.1 38 (10, 5) rfl) rfl (hH.2 38 1 (some 28) rfl) ?_
      refine qm_Ru.go 4 (c' := (114, [.ref 38, .int b, .int o, .int be, .int le, .int q, l6, .int ru, .int w, l9, l10, l11], [.int (w / 4), .int o, .ref 28], (h.1, I, J, h.2.2.2))) rfl ?_
      obtain ⟨v4, q_v4, e_v4⟩ := hk_div (x := w) (y := 4) (a := w.toInt) (b := 4) rfl rfl (by omega) (by omega)
      rw [q_v4]
      refine qm_Ru.go 3 (c' := (118, [.ref 38, .int b, .int o, .int be, .int le, .int q, l6, .int ru, .int w, l9, l10, l11], [.int (w - w / 4 * 4), .int v4, .int o, .ref 28], (h.1, I, J, h.2.2.2))) rfl ?_
      obtain ⟨v5, q_v5, e_v5⟩ := hk_rem (x := w) (y := 4) (a := w.toInt) (b := 4) rfl rfl (by omega) (by omega)
      rw [q_v5]
      refine hk_inv (o := 28) (r := []) (as := [.ref 28, .int o, .int v4, .int v5]) rfl rfl (hH.1 28 (9, 8) rfl) rfl rfl rfl rfl (hq_try111 (h := (h.1, I, J, h.2.2.2)) h6 hH hT hBI hVI (b := o) (y := v4) (r := v5) (fun v6 J7 c_v6 d_v6 => ?_) (fun t8 J9 f10 g11 => ?_))
      · refine qm_Ru.go 2 (c' := (125, [.ref 38, .int b, .int o, .int be, .int le, .int q, l6, .int ru, .int w, .int v6, l10, l11], [.int v6], (h.1, I, J7, h.2.2.2))) rfl ?_
        refine hk_zge (ix := v6.toInt) rfl rfl (fun z12 => by exfalso; omega) (fun z12 => ?_)
        refine qm_Ru.go 2 (c' := (198, [.ref 38, .int b, .int o, .int be, .int le, .int q, l6, .int ru, .int (w + 1), .int v6, l10, l11], [], (h.1, I, J7, h.2.2.2))) rfl ?_
        obtain ⟨v13, q_v13, e_v13⟩ := hk_add (x := w) (y := 1) (a := w.toInt) (b := 1) rfl rfl (by omega) (by omega)
        rw [q_v13]
        refine qm_Ru.go 1 (c' := (88, [.ref 38, .int b, .int o, .int be, .int le, .int q, l6, .int ru, .int v13, .int v6, l10, l11], [], (h.1, I, J7, h.2.2.2))) rfl ?_
        exact ih _ (by omega) (I) (J7) be le v13 (.int v6) l10 l11 hBI (fun o ho i => (e o ho i)) hVI (by omega) rfl
      · obtain ⟨f10_y, f10_r, f10_t, f10_f, f10_b⟩ := f10
        obtain ⟨g11_b, g11_n, _⟩ := g11
        refine qm_Ru.go 2 (c' := (125, [.ref 38, .int b, .int o, .int be, .int le, .int q, l6, .int ru, .int w, .int t8, l10, l11], [.int t8], (h.1, I, J9, h.2.2.2))) rfl ?_
        refine hk_zge (ix := t8.toInt) rfl rfl (fun z14 => ?_) (fun z14 => by exfalso; omega)
        refine qm_Ru.go 3 (c' := (135, [.ref 38, .int b, .int o, .int be, .int le, .int q, l6, .int ru, .int w, .int t8, l10, l11], [.int (w * 4)], (h.1, I, J9, h.2.2.2))) rfl ?_
        obtain ⟨v15, q_v15, e_v15⟩ := hk_mul (x := w) (y := 4) (a := w.toInt) (b := 4) rfl rfl (by omega) (by omega)
        rw [q_v15]
        refine qm_Ru.go 2 (c' := (138, [.ref 38, .int b, .int o, .int be, .int le, .int q, l6, .int ru, .int w, .int t8, l10, l11], [.int (v15 + t8)], (h.1, I, J9, h.2.2.2))) rfl ?_
        obtain ⟨v16, q_v16, e_v16⟩ := hk_add (x := v15) (y := t8) (a := v15.toInt) (b := t8.toInt) rfl rfl (by omega) (by omega)
        rw [q_v16]
        refine qm_Ru.go 3 (c' := (143, [.ref 38, .int b, .int o, .int be, .int le, .int q, l6, .int ru, .int w, .int t8, .int v16, l11], [.ref 38, .int ru], (h.1, I, J9, h.2.2.2))) rfl ?_
        refine hk_getr rfl (hH.1 38 (10, 5) rfl) rfl (hH.2 38 2 (some 39) rfl) ?_
        refine qm_Ru.go 1 (c' := (148, [.ref 38, .int b, .int o, .int be, .int le, .int q, l6, .int ru, .int w, .int t8, .int v16, l11], [.int v16, .ref 39, .int ru], (h.1, I, J9, h.2.2.2))) rfl ?_
        obtain ⟨v17, q_v17⟩ : ∃ v_, h.2.1 39 (v16.toInt.toNat) = v_ := ⟨_, rfl⟩
        refine hk_ial (v := v17) rfl (hH.1 39 (0, 80) rfl) (by omega) (by omega) (show (I) 39 (v16.toInt.toNat) = _ from ((e 39 rfl (v16.toInt.toNat)).trans q_v17)) ?_
        refine qm_Ru.go 1 (c' := (150, [.ref 38, .int b, .int o, .int be, .int le, .int q, l6, .int ru, .int w, .int t8, .int v16, l11], [.int (ru + v17)], (h.1, I, J9, h.2.2.2))) rfl ?_
        obtain ⟨v18, q_v18⟩ : ∃ v_, (ru + v17) = v_ := ⟨_, rfl⟩
        rw [q_v18]
        refine qm_Ru.go 4 (c' := (155, [.ref 38, .int b, .int o, .int be, .int le, .int q, l6, .int ru, .int w, .int t8, .int v16, l11], [.int b, .int v16, .int o, .ref 38, .int v18], (h.1, I, J9, h.2.2.2))) rfl ?_
        refine hk_inv (o := 38) (r := [.int v18]) (as := [.ref 38, .int o, .int v16, .int b]) rfl rfl (hH.1 38 (10, 5) rfl) rfl rfl rfl rfl (hs_brw111 (h := (h.1, I, J9, h.2.2.2)) h6 hH hT hBI (v_C_ru hVI) ⟨by show (0 : Int) ≤ o.toInt; omega, by show o.toInt ≤ (29 : Int); omega⟩ ⟨by show (0 : Int) ≤ v16.toInt; omega, by show v16.toInt ≤ (79 : Int); omega⟩ ⟨by show (0 : Int) ≤ b.toInt; omega, by show b.toInt ≤ (29 : Int); omega⟩ (wS_same hW rfl rfl) (by omega) (fun v21 I19 J20 _ hB_I19 e_I19 => ?_))
        have hV_I19 : v_C I19 := v_C_cg9 hVI (fun o ho i => e_I19 o (q9_brw111 ho) i)
        refine qm_Ru.go 1 (c' := (159, [.ref 38, .int b, .int o, .int be, .int le, .int q, l6, .int ru, .int w, .int t8, .int v16, l11], [.int (v18 + v21)], (h.1, I19, J20, h.2.2.2))) rfl ?_
        obtain ⟨v22, q_v22⟩ : ∃ v_, (v18 + v21) = v_ := ⟨_, rfl⟩
        rw [q_v22]
        refine qm_Ru.go 3 (c' := (163, [.ref 38, .int b, .int o, .int be, .int le, .int q, l6, .int ru, .int w, .int t8, .int v16, l11], [.int v16, .int o, .ref 38, .int v22], (h.1, I19, J20, h.2.2.2))) rfl ?_
        obtain ⟨v23, q_v23⟩ : ∃ v_, h.2.1 6 0 = v_ := ⟨_, rfl⟩
        have b_v23 : (0 : Int) ≤ v23.toInt ∧ v23.toInt ≤ 30 := by rw [← q_v23]; exact hB 6 0
        refine hk_inv (o := 38) (r := [.int v22]) (as := [.ref 38, .int o, .int v16]) rfl rfl (hH.1 38 (10, 5) rfl) rfl rfl rfl rfl (hs_ovw4 (h := (h.1, I19, J20, h.2.2.2)) h6 hH hB_I19 hV_I19 (b := o) (x := v16) (n := pI I 6 0) (by omega) (by omega) (by show (I19 6 0).toInt = pI I 6 0; rw [e_I19 6 rfl 0]; exact rfl) g11_n ((congrArg Int32.toInt (show (I19) 11 (o.toInt.toNat) = _ from ((e_I19 11 rfl (o.toInt.toNat)).trans ((e 11 rfl (o.toInt.toNat)).trans q_c11)))).trans (by omega)) (by show (I19 36 v16.toInt.toNat).toInt = -1; rw [e_I19 36 rfl _]; exact (show pI I 36 v16.toInt.toNat = -1 from by rw [show v16.toInt.toNat = (16 * v4.toInt + 4 * v5.toInt + t8.toInt).toNat from by omega]; exact f10_f)) (fun c => by show 0 ≤ (I19 36 (v16.toInt - 1).toNat).toInt; rw [e_I19 36 rfl _]; exact (show 0 ≤ pI I 36 (v16.toInt - 1).toNat from by rw [show (v16.toInt - 1).toNat = (16 * v4.toInt + 4 * v5.toInt + t8.toInt - 1).toNat from by omega]; exact f10_b (by omega))) ((congrArg Int32.toInt (show (I19) 12 (o.toInt.toNat) = _ from ((e_I19 12 rfl (o.toInt.toNat)).trans ((e 12 rfl (o.toInt.toNat)).trans q_c12)))).trans (by omega)) ((congrArg Int32.toInt (show (I19) 13 (o.toInt.toNat) = _ from ((e_I19 13 rfl (o.toInt.toNat)).trans ((e 13 rfl (o.toInt.toNat)).trans q_c13)))).trans (by omega)) ((congrArg Int32.toInt (show (I19) 14 (o.toInt.toNat) = _ from ((e_I19 14 rfl (o.toInt.toNat)).trans ((e 14 rfl (o.toInt.toNat)).trans q_c14)))).trans (by omega)) (fun v25 J24 => ?_))
        refine qm_Ru.go 1 (c' := (167, [.ref 38, .int b, .int o, .int be, .int le, .int q, l6, .int ru, .int w, .int t8, .int v16, l11], [.int (v22 + v25)], (h.1, I19, J24, h.2.2.2))) rfl ?_
        obtain ⟨v26, q_v26⟩ : ∃ v_, (v22 + v25) = v_ := ⟨_, rfl⟩
        rw [q_v26]
        refine qm_Ru.go 3 (c' := (173, [.ref 38, .int b, .int o, .int be, .int le, .int q, l6, .int ru, .int w, .int t8, .int v16, .int v26], [.int le, .int v26], (h.1, I19, J24, h.2.2.2))) rfl ?_
        refine hk_cge (ix := v26.toInt) (iy := le.toInt) rfl rfl rfl (fun z27 => ?_) (fun z27 => ?_)
        · refine qm_Ru.go 1 (c' := (198, [.ref 38, .int b, .int o, .int be, .int le, .int q, l6, .int ru, .int (w + 1), .int t8, .int v16, .int v26], [], (h.1, I19, J24, h.2.2.2))) rfl ?_
          obtain ⟨v28, q_v28, e_v28⟩ := hk_add (x := w) (y := 1) (a := w.toInt) (b := 1) rfl rfl (by omega) (by omega)
          rw [q_v28]
          refine qm_Ru.go 1 (c' := (88, [.ref 38, .int b, .int o, .int be, .int le, .int q, l6, .int ru, .int v28, .int t8, .int v16, .int v26], [], (h.1, I19, J24, h.2.2.2))) rfl ?_
          exact ih _ (by omega) (I19) (J24) be le v28 (.int t8) (.int v16) (.int v26) hB_I19 (fun o ho i => ((e_I19 o (hk_ms rfl ho) i).trans (e o ho i))) hV_I19 (by omega) rfl
        · refine qm_Ru.go 4 (c' := (184, [.ref 38, .int b, .int o, .int be, .int v26, .int q, l6, .int ru, .int w, .int t8, .int v16, .int v26], [.int q, .int 100], (h.1, I19, J24, h.2.2.2))) rfl ?_
          refine qm_Ru.call (j := 235) (as := [.int q]) (c' := (187, [.ref 38, .int b, .int o, .int be, .int v26, .int q, l6, .int ru, .int w, .int t8, .int v16, .int v26], [.int 100], (h.1, I19, J24, h.2.2.2))) rfl rfl rfl ?_
          refine qm_Ru.go 4 (c' := (5, [.int q], [.int (q / 4), .int 10], (h.1, I19, J24, h.2.2.2))) rfl ?_
          obtain ⟨v29, q_v29, e_v29⟩ := hk_div (x := q) (y := 4) (a := q.toInt) (b := 4) rfl rfl (by omega) (by omega)
          rw [q_v29]
          refine qm_Ru.go 1 (c' := (6, [.int q], [.int (10 * v29)], (h.1, I19, J24, h.2.2.2))) rfl ?_
          obtain ⟨v30, q_v30, e_v30⟩ := hk_mul (x := 10) (y := v29) (a := 10) (b := v29.toInt) rfl rfl (by omega) (by omega)
          rw [q_v30]
          refine qm_Ru.go 3 (c' := (9, [.int q], [.int (q - q / 4 * 4), .int v30], (h.1, I19, J24, h.2.2.2))) rfl ?_
          obtain ⟨v31, q_v31, e_v31⟩ := hk_rem (x := q) (y := 4) (a := q.toInt) (b := 4) rfl rfl (by omega) (by omega)
          rw [q_v31]
          refine qm_Ru.go 1 (c' := (10, [.int q], [.int (v30 + v31)], (h.1, I19, J24, h.2.2.2))) rfl ?_
          obtain ⟨v32, q_v32, e_v32⟩ := hk_add (x := v30) (y := v31) (a := v30.toInt) (b := v31.toInt) rfl rfl (by omega) (by omega)
          rw [q_v32]
          refine qm_Ru.rt (v := (some (.int v32))) (h' := (h.1, I19, J24, h.2.2.2)) rfl ?_
          refine qm_Ru.go 1 (c' := (188, [.ref 38, .int b, .int o, .int be, .int v26, .int q, l6, .int ru, .int w, .int t8, .int v16, .int v26], [.int (100 * v32)], (h.1, I19, J24, h.2.2.2))) rfl ?_
          obtain ⟨v33, q_v33, e_v33⟩ := hk_mul (x := 100) (y := v32) (a := 100) (b := v32.toInt) rfl rfl (by omega) (by omega)
          rw [q_v33]
          refine qm_Ru.go 1 (c' := (190, [.ref 38, .int b, .int o, .int be, .int v26, .int q, l6, .int ru, .int w, .int t8, .int v16, .int v26], [.int w, .int v33], (h.1, I19, J24, h.2.2.2))) rfl ?_
          refine qm_Ru.call (j := 235) (as := [.int w]) (c' := (193, [.ref 38, .int b, .int o, .int be, .int v26, .int q, l6, .int ru, .int w, .int t8, .int v16, .int v26], [.int v33], (h.1, I19, J24, h.2.2.2))) rfl rfl rfl ?_
          refine qm_Ru.go 4 (c' := (5, [.int w], [.int (w / 4), .int 10], (h.1, I19, J24, h.2.2.2))) rfl ?_
          rw [q_v4]
          refine qm_Ru.go 1 (c' := (6, [.int w], [.int (10 * v4)], (h.1, I19, J24, h.2.2.2))) rfl ?_
          obtain ⟨v35, q_v35, e_v35⟩ := hk_mul (x := 10) (y := v4) (a := 10) (b := v4.toInt) rfl rfl (by omega) (by omega)
          rw [q_v35]
          refine qm_Ru.go 3 (c' := (9, [.int w], [.int (w - w / 4 * 4), .int v35], (h.1, I19, J24, h.2.2.2))) rfl ?_
          rw [q_v5]
          refine qm_Ru.go 1 (c' := (10, [.int w], [.int (v35 + v5)], (h.1, I19, J24, h.2.2.2))) rfl ?_
          obtain ⟨v37, q_v37, e_v37⟩ := hk_add (x := v35) (y := v5) (a := v35.toInt) (b := v5.toInt) rfl rfl (by omega) (by omega)
          rw [q_v37]
          refine qm_Ru.rt (v := (some (.int v37))) (h' := (h.1, I19, J24, h.2.2.2)) rfl ?_
          refine qm_Ru.go 1 (c' := (194, [.ref 38, .int b, .int o, .int be, .int v26, .int q, l6, .int ru, .int w, .int t8, .int v16, .int v26], [.int (v33 + v37)], (h.1, I19, J24, h.2.2.2))) rfl ?_
          obtain ⟨v38, q_v38, e_v38⟩ := hk_add (x := v33) (y := v37) (a := v33.toInt) (b := v37.toInt) rfl rfl (by omega) (by omega)
          rw [q_v38]
          refine qm_Ru.go 2 (c' := (198, [.ref 38, .int b, .int o, .int v38, .int v26, .int q, l6, .int ru, .int (w + 1), .int t8, .int v16, .int v26], [], (h.1, I19, J24, h.2.2.2))) rfl ?_
          obtain ⟨v39, q_v39, e_v39⟩ := hk_add (x := w) (y := 1) (a := w.toInt) (b := 1) rfl rfl (by omega) (by omega)
          rw [q_v39]
          refine qm_Ru.go 1 (c' := (88, [.ref 38, .int b, .int o, .int v38, .int v26, .int q, l6, .int ru, .int v39, .int t8, .int v16, .int v26], [], (h.1, I19, J24, h.2.2.2))) rfl ?_
          exact ih _ (by omega) (I19) (J24) v38 v26 v39 (.int t8) (.int v16) (.int v26) hB_I19 (fun o ho i => ((e_I19 o (hk_ms rfl ho) i).trans (e o ho i))) hV_I19 (by omega) rfl
theorem hl4_ctwo2_111 {L : Nat} {xs : Nat → Int32} {d : Nat} {Z : Option Value → qm_H → Prop} {h : qm_H} (h6 : 6 ≤ L) (hH : hk_H h) (hB : hk_B h.2.1) (hT : h.2.2.2 0 9 = some 29 ∧ h.2.2.2 28 2 = some 111) (hW : wS h 111) {b o : Int32} (b_b : (0 : Int) ≤ b.toInt ∧ b.toInt ≤ 29) (b_o : (0 : Int) ≤ o.toInt ∧ o.toInt ≤ 29) (hbo : b.toInt ≠ o.toInt) {a11 : Int32} (q_a11 : h.2.1 11 (b.toInt.toNat) = a11) (f_a11 : a11.toInt = 0) {a12 : Int32} (q_a12 : h.2.1 12 (b.toInt.toNat) = a12) (f_a12 : a12.toInt = -1) {a13 : Int32} (q_a13 : h.2.1 13 (b.toInt.toNat) = a13) (f_a13 : a13.toInt = -1) {a14 : Int32} (q_a14 : h.2.1 14 (b.toInt.toNat) = a14) (f_a14 : a14.toInt = -1) {c11 : Int32} (q_c11 : h.2.1 11 (o.toInt.toNat) = c11) (f_c11 : c11.toInt = 0) {c12 : Int32} (q_c12 : h.2.1 12 (o.toInt.toNat) = c12) (f_c12 : c12.toInt = -1) {c13 : Int32} (q_c13 : h.2.1 13 (o.toInt.toNat) = c13) (f_c13 : c13.toInt = -1) {c14 : Int32} (q_c14 : h.2.1 14 (o.toInt.toNat) = c14) (f_c14 : c14.toInt = -1) (k : ∀ (v : Int32) (I : Nat → Nat → Int32) (J : Nat → Nat → Int64), hk_B I → v_C I → (∀ o, [116, 192, 193, 194, 195, 196, 197, 198, 199, 200, 201, 202, 203, 204, 205, 206, 207, 208, 209, 210, 211, 212, 213, 214, 215, 216, 217, 218, 219, 220, 221, 222, 223, 224, 225, 226, 227, 228, 229, 230, 231, 232, 233].contains o = false → ∀ i, I o i = h.2.1 o i) → Z (some (.int v)) (h.1, I, J, h.2.2.2)) : ∀ (m : Nat) (I : Nat → Nat → Int32) (J : Nat → Nat → Int64) (be : Int32) (le : Int32) (q : Int32) (l6 l7 l8 l9 l10 l11 : Value), hk_B I → (∀ o, [116, 192, 193, 194, 195, 196, 197, 198, 199, 200, 201, 202, 203, 204, 205, 206, 207, 208, 209, 210, 211, 212, 213, 214, 215, 216, 217, 218, 219, 220, 221, 222, 223, 224, 225, 226, 227, 228, 229, 230, 231, 232, 233].contains o = false → ∀ i, I o i = h.2.1 o i) → (v_C I) → ((0 : Int) ≤ q.toInt ∧ q.toInt ≤ 20) → (20 - q.toInt).toNat = m → qm_Ru (some (L, xs)) (d + 100) cd_238 (10, [.ref 38, .int b, .int o, .int be, .int le, .int q, l6, l7, l8, l9, l10, l11], [], (h.1, I, J, h.2.2.2)) Z := by
  intro m
  induction m using Nat.strongRecOn with
  | ind m ih =>
    intro I J be le q l6 l7 l8 l9 l10 l11 hBI e hVI hq hm
    refine qm_Ru.go 1 (c' := (12, [.ref 38, .int b, .int o, .int be, .int le, .int q, l6, l7, l8, l9, l10, l11], [.int q], (h.1, I, J, h.2.2.2))) rfl ?_
    have hne : b.toInt.toNat ≠ o.toInt.toNat := by omega
    refine qm_Ru.go 1 (c' := (13, [.ref 38, .int b, .int o, .int be, .int le, .int q, l6, l7, l8, l9, l10, l11], [.ref 38, .int q], (h.1, I, J, h.2.2.2))) rfl ?_
    refine hk_getr rfl (hH.1 38 (10, 5) rfl) rfl (hH.2 38 1 (some 28) rfl) ?_
    refine qm_Ru.go 0 (c' := (16, [.ref 38, .int b, .int o, .int be, .int le, .int q, l6, l7, l8, l9, l10, l11], [.ref 28, .int q], (h.1, I, J, h.2.2.2))) rfl ?_
    refine hk_getr rfl (hH.1 28 (9, 8) rfl) rfl hT.2 ?_
    refine qm_Ru.go 0 (c' := (19, [.ref 38, .int b, .int o, .int be, .int le, .int q, l6, l7, l8, l9, l10, l11], [.ref 111, .int q], (h.1, I, J, h.2.2.2))) rfl ?_
    obtain ⟨v1, q_v1⟩ : ∃ v_, h.2.1 111 0 = v_ := ⟨_, rfl⟩
    have b_v1 : (2 : Int) ≤ v1.toInt ∧ v1.toInt ≤ 5 := by rw [← q_v1]; exact hB 111 0
    refine hk_geti (v := v1) rfl (hH.1 111 (11, 16) rfl) rfl (show (I) 111 0 = _ from ((e 111 rfl 0).trans q_v1)) ?_
    refine qm_Ru.go 2 (c' := (24, [.ref 38, .int b, .int o, .int be, .int le, .int q, l6, l7, l8, l9, l10, l11], [.int (v1 * 4), .int q], (h.1, I, J, h.2.2.2))) rfl ?_
    obtain ⟨v2, q_v2, e_v2⟩ := hk_mul (x := v1) (y := 4) (a := v1.toInt) (b := 4) rfl rfl (by omega) (by omega)
    rw [q_v2]
    refine hk_cge (ix := q.toInt) (iy := v2.toInt) rfl rfl rfl (fun z3 => ?_) (fun z3 => ?_)
    · refine qm_Ru.go 1 (c' := (216, [.ref 38, .int b, .int o, .int be, .int le, .int q, l6, l7, l8, l9, l10, l11], [.int be], (h.1, I, J, h.2.2.2))) rfl ?_
      refine qm_Ru.rt (v := (some (.int be))) (h' := (h.1, I, J, h.2.2.2)) rfl ?_
      exact k be (I) (J) hBI hVI (fun o ho i => (e o ho i))
    · refine qm_Ru.go 1 (c' := (28, [.ref 38, .int b, .int o, .int be, .int le, .int q, l6, l7, l8, l9, l10, l11], [.ref 38], (h.1, I, J, h.2.2.2))) rfl ?_
      refine hk_getr rfl (hH.1 38 (10, 5) rfl) rfl (hH.2 38 1 (some 28) rfl) ?_
      refine qm_Ru.go 4 (c' := (36, [.ref 38, .int b, .int o, .int be, .int le, .int q, l6, l7, l8, l9, l10, l11], [.int (q / 4), .int b, .ref 28], (h.1, I, J, h.2.2.2))) rfl ?_
      obtain ⟨v4, q_v4, e_v4⟩ := hk_div (x := q) (y := 4) (a := q.toInt) (b := 4) rfl rfl (by omega) (by omega)
      rw [q_v4]
      refine qm_Ru.go 3 (c' := (40, [.ref 38, .int b, .int o, .int be, .int le, .int q, l6, l7, l8, l9, l10, l11], [.int (q - q / 4 * 4), .int v4, .int b, .ref 28], (h.1, I, J, h.2.2.2))) rfl ?_
      obtain ⟨v5, q_v5, e_v5⟩ := hk_rem (x := q) (y := 4) (a := q.toInt) (b := 4) rfl rfl (by omega) (by omega)
      rw [q_v5]
      refine hk_inv (o := 28) (r := []) (as := [.ref 28, .int b, .int v4, .int v5]) rfl rfl (hH.1 28 (9, 8) rfl) rfl rfl rfl rfl (hq_try111 (h := (h.1, I, J, h.2.2.2)) h6 hH hT hBI hVI (b := b) (y := v4) (r := v5) (fun v6 J7 c_v6 d_v6 => ?_) (fun t8 J9 f10 g11 => ?_))
      · refine qm_Ru.go 2 (c' := (47, [.ref 38, .int b, .int o, .int be, .int le, .int q, .int v6, l7, l8, l9, l10, l11], [.int v6], (h.1, I, J7, h.2.2.2))) rfl ?_
        refine hk_zge (ix := v6.toInt) rfl rfl (fun z12 => by exfalso; omega) (fun z12 => ?_)
        refine qm_Ru.go 2 (c' := (212, [.ref 38, .int b, .int o, .int be, .int le, .int (q + 1), .int v6, l7, l8, l9, l10, l11], [], (h.1, I, J7, h.2.2.2))) rfl ?_
        obtain ⟨v13, q_v13, e_v13⟩ := hk_add (x := q) (y := 1) (a := q.toInt) (b := 1) rfl rfl (by omega) (by omega)
        rw [q_v13]
        refine qm_Ru.go 1 (c' := (10, [.ref 38, .int b, .int o, .int be, .int le, .int v13, .int v6, l7, l8, l9, l10, l11], [], (h.1, I, J7, h.2.2.2))) rfl ?_
        exact ih _ (by omega) (I) (J7) be le v13 (.int v6) l7 l8 l9 l10 l11 hBI (fun o ho i => (e o ho i)) hVI (by omega) rfl
      · obtain ⟨f10_y, f10_r, f10_t, f10_f, f10_b⟩ := f10
        obtain ⟨g11_b, g11_n, _⟩ := g11
        refine qm_Ru.go 2 (c' := (47, [.ref 38, .int b, .int o, .int be, .int le, .int q, .int t8, l7, l8, l9, l10, l11], [.int t8], (h.1, I, J9, h.2.2.2))) rfl ?_
        refine hk_zge (ix := t8.toInt) rfl rfl (fun z14 => ?_) (fun z14 => by exfalso; omega)
        refine qm_Ru.go 5 (c' := (59, [.ref 38, .int b, .int o, .int be, .int le, .int q, .int t8, l7, l8, l9, l10, l11], [.int (q * 4), .int b, .ref 38], (h.1, I, J9, h.2.2.2))) rfl ?_
        obtain ⟨v15, q_v15, e_v15⟩ := hk_mul (x := q) (y := 4) (a := q.toInt) (b := 4) rfl rfl (by omega) (by omega)
        rw [q_v15]
        refine qm_Ru.go 2 (c' := (62, [.ref 38, .int b, .int o, .int be, .int le, .int q, .int t8, l7, l8, l9, l10, l11], [.int (v15 + t8), .int b, .ref 38], (h.1, I, J9, h.2.2.2))) rfl ?_
        obtain ⟨v16, q_v16, e_v16⟩ := hk_add (x := v15) (y := t8) (a := v15.toInt) (b := t8.toInt) rfl rfl (by omega) (by omega)
        rw [q_v16]
        refine hk_inv (o := 38) (r := []) (as := [.ref 38, .int b, .int v16]) rfl rfl (hH.1 38 (10, 5) rfl) rfl rfl rfl rfl (hs_brk111 (h := (h.1, I, J9, h.2.2.2)) h6 hH hT hBI (v_C_ru hVI) ⟨by show (0 : Int) ≤ b.toInt; omega, by show b.toInt ≤ (29 : Int); omega⟩ ⟨by show (0 : Int) ≤ v16.toInt; omega, by show v16.toInt ≤ (79 : Int); omega⟩ (wS_same hW rfl rfl) (by omega) (fun v19 I17 J18 _ hB_I17 e_I17 => ?_))
        have hV_I17 : v_C I17 := v_C_cg9 hVI (fun o ho i => e_I17 o (q9_brk111 ho) i)
        refine qm_Ru.go 2 (c' := (68, [.ref 38, .int b, .int o, .int be, .int le, .int q, .int t8, .int v19, l8, l9, l10, l11], [.ref 38], (h.1, I17, J18, h.2.2.2))) rfl ?_
        refine hk_getr rfl (hH.1 38 (10, 5) rfl) rfl (hH.2 38 1 (some 28) rfl) ?_
        refine qm_Ru.go 4 (c' := (76, [.ref 38, .int b, .int o, .int be, .int le, .int q, .int t8, .int v19, l8, l9, l10, l11], [.int (q / 4), .int b, .ref 28], (h.1, I17, J18, h.2.2.2))) rfl ?_
        rw [q_v4]
        refine qm_Ru.go 3 (c' := (80, [.ref 38, .int b, .int o, .int be, .int le, .int q, .int t8, .int v19, l8, l9, l10, l11], [.int (q - q / 4 * 4), .int v4, .int b, .ref 28], (h.1, I17, J18, h.2.2.2))) rfl ?_
        rw [q_v5]
        refine qm_Ru.go 1 (c' := (82, [.ref 38, .int b, .int o, .int be, .int le, .int q, .int t8, .int v19, l8, l9, l10, l11], [.int t8, .int v5, .int v4, .int b, .ref 28], (h.1, I17, J18, h.2.2.2))) rfl ?_
        refine hk_inv (o := 28) (r := []) (as := [.ref 28, .int b, .int v4, .int v5, .int t8]) rfl rfl (hH.1 28 (9, 8) rfl) rfl rfl rfl rfl (hm_sput4 (h := (h.1, I17, J18, h.2.2.2)) hH (b := b) (y := v4) (r := v5) (t := t8) (by omega) (by omega) (by omega) (by omega) (fun v22 v23 v24 v25 e_v22 z266 z267 z265 => ?_))
        obtain ⟨z26c, z26n, z265⟩ := z265
        refine qm_Ru.go 2 (c' := (88, [.ref 38, .int b, .int o, .int be, .int le, .int q, .int t8, .int v19, .int 0, l9, l10, l11], [], (h.1, qm_up (qm_up (qm_up (qm_up (qm_up (qm_up (qm_up (qm_up I17 36 (v22.toInt.toNat) b) 28 6 v23) 37 (v4.toInt.toNat) v24) 28 5 v25) 11 (b.toInt.toNat) 1) 12 (b.toInt.toNat) v4) 13 (b.toInt.toNat) v5) 14 (b.toInt.toNat) t8, J18, h.2.2.2))) rfl ?_
        refine hl4_ctwo1_111 (h := (h.1, qm_up (qm_up (qm_up (qm_up (qm_up (qm_up (qm_up (qm_up I17 36 (v22.toInt.toNat) b) 28 6 v23) 37 (v4.toInt.toNat) v24) 28 5 v25) 11 (b.toInt.toNat) 1) 12 (b.toInt.toNat) v4) 13 (b.toInt.toNat) v5) 14 (b.toInt.toNat) t8, J18, h.2.2.2)) h6 hH (hb_up (o := 14) (k := b.toInt.toNat) (x := t8) (hb_up (o := 13) (k := b.toInt.toNat) (x := v5) (hb_up (o := 12) (k := b.toInt.toNat) (x := v4) (hb_up (o := 11) (k := b.toInt.toNat) (x := 1) (hb_up (o := 28) (k := 5) (x := v25) (hb_up (o := 37) (k := v4.toInt.toNat) (x := v24) (hb_up (o := 28) (k := 6) (x := v23) (hb_up (o := 36) (k := v22.toInt.toNat) (x := b) hB_I17 ⟨by show (-1 : Int) ≤ b.toInt; omega, by show b.toInt ≤ (29 : Int); omega⟩) (qa_in_full _)) (qa_in_full _)) (qa_in_full _)) ⟨(show (0 : Int) ≤ 1 from by decide), (show (1 : Int) ≤ 2 from by decide)⟩) ⟨by show (-1 : Int) ≤ v4.toInt; omega, by show v4.toInt ≤ (4 : Int); omega⟩) ⟨by show (-1 : Int) ≤ v5.toInt; omega, by show v5.toInt ≤ (3 : Int); omega⟩) ⟨by show (-1 : Int) ≤ t8.toInt; omega, by show t8.toInt ≤ (3 : Int); omega⟩) hT (wS_same hW rfl rfl) b_b b_o hbo (show (qm_up (qm_up (qm_up (qm_up (qm_up (qm_up (qm_up (qm_up I17 36 (v22.toInt.toNat) b) 28 6 v23) 37 (v4.toInt.toNat) v24) 28 5 v25) 11 (b.toInt.toNat) 1) 12 (b.toInt.toNat) v4) 13 (b.toInt.toNat) v5) 14 (b.toInt.toNat) t8) 11 (o.toInt.toNat) = _ from ((hk_ot rfl).trans ((hk_ot rfl).trans ((hk_ot rfl).trans ((hk_neq (by omega)).trans ((hk_ot rfl).trans ((hk_ot rfl).trans ((hk_ot rfl).trans ((hk_ot rfl).trans ((e_I17 11 rfl (o.toInt.toNat)).trans ((e 11 rfl (o.toInt.toNat)).trans q_c11))))))))))) (by omega) (show (qm_up (qm_up (qm_up (qm_up (qm_up (qm_up (qm_up (qm_up I17 36 (v22.toInt.toNat) b) 28 6 v23) 37 (v4.toInt.toNat) v24) 28 5 v25) 11 (b.toInt.toNat) 1) 12 (b.toInt.toNat) v4) 13 (b.toInt.toNat) v5) 14 (b.toInt.toNat) t8) 12 (o.toInt.toNat) = _ from ((hk_ot rfl).trans ((hk_ot rfl).trans ((hk_neq (by omega)).trans ((hk_ot rfl).trans ((hk_ot rfl).trans ((hk_ot rfl).trans ((hk_ot rfl).trans ((hk_ot rfl).trans ((e_I17 12 rfl (o.toInt.toNat)).trans ((e 12 rfl (o.toInt.toNat)).trans q_c12))))))))))) (by omega) (show (qm_up (qm_up (qm_up (qm_up (qm_up (qm_up (qm_up (qm_up I17 36 (v22.toInt.toNat) b) 28 6 v23) 37 (v4.toInt.toNat) v24) 28 5 v25) 11 (b.toInt.toNat) 1) 12 (b.toInt.toNat) v4) 13 (b.toInt.toNat) v5) 14 (b.toInt.toNat) t8) 13 (o.toInt.toNat) = _ from ((hk_ot rfl).trans ((hk_neq (by omega)).trans ((hk_ot rfl).trans ((hk_ot rfl).trans ((hk_ot rfl).trans ((hk_ot rfl).trans ((hk_ot rfl).trans ((hk_ot rfl).trans ((e_I17 13 rfl (o.toInt.toNat)).trans ((e 13 rfl (o.toInt.toNat)).trans q_c13))))))))))) (by omega) (show (qm_up (qm_up (qm_up (qm_up (qm_up (qm_up (qm_up (qm_up I17 36 (v22.toInt.toNat) b) 28 6 v23) 37 (v4.toInt.toNat) v24) 28 5 v25) 11 (b.toInt.toNat) 1) 12 (b.toInt.toNat) v4) 13 (b.toInt.toNat) v5) 14 (b.toInt.toNat) t8) 14 (o.toInt.toNat) = _ from ((hk_neq (by omega)).trans ((hk_ot rfl).trans ((hk_ot rfl).trans ((hk_ot rfl).trans ((hk_ot rfl).trans ((hk_ot rfl).trans ((hk_ot rfl).trans ((hk_ot rfl).trans ((e_I17 14 rfl (o.toInt.toNat)).trans ((e 14 rfl (o.toInt.toNat)).trans q_c14))))))))))) (by omega) (q := q) (ru := v19) (l6 := (.int t8)) (by omega) (fun I30 J31 be le w l9 l10 l11 B29 e27 V28 => ?_) _ (qm_up (qm_up (qm_up (qm_up (qm_up (qm_up (qm_up (qm_up I17 36 (v22.toInt.toNat) b) 28 6 v23) 37 (v4.toInt.toNat) v24) 28 5 v25) 11 (b.toInt.toNat) 1) 12 (b.toInt.toNat) v4) 13 (b.toInt.toNat) v5) 14 (b.toInt.toNat) t8) (J18) be le 0 l9 l10 l11 (hb_up (o := 14) (k := b.toInt.toNat) (x := t8) (hb_up (o := 13) (k := b.toInt.toNat) (x := v5) (hb_up (o := 12) (k := b.toInt.toNat) (x := v4) (hb_up (o := 11) (k := b.toInt.toNat) (x := 1) (hb_up (o := 28) (k := 5) (x := v25) (hb_up (o := 37) (k := v4.toInt.toNat) (x := v24) (hb_up (o := 28) (k := 6) (x := v23) (hb_up (o := 36) (k := v22.toInt.toNat) (x := b) hB_I17 ⟨by show (-1 : Int) ≤ b.toInt; omega, by show b.toInt ≤ (29 : Int); omega⟩) (qa_in_full _)) (qa_in_full _)) (qa_in_full _)) ⟨(show (0 : Int) ≤ 1 from by decide), (show (1 : Int) ≤ 2 from by decide)⟩) ⟨by show (-1 : Int) ≤ v4.toInt; omega, by show v4.toInt ≤ (4 : Int); omega⟩) ⟨by show (-1 : Int) ≤ v5.toInt; omega, by show v5.toInt ≤ (3 : Int); omega⟩) ⟨by show (-1 : Int) ≤ t8.toInt; omega, by show t8.toInt ≤ (3 : Int); omega⟩) (fun _ _ _ => rfl) ⟨⟨(mC_put (I := I17) (I' := qm_up (qm_up (qm_up (qm_up (qm_up (qm_up (qm_up (qm_up I17 36 (v22.toInt.toNat) b) 28 6 v23) 37 (v4.toInt.toNat) v24) 28 5 v25) 11 (b.toInt.toNat) 1) 12 (b.toInt.toNat) v4) 13 (b.toInt.toNat) v5) 14 (b.toInt.toNat) t8) hV_I17.1.1 ((pI_sk rfl).trans ((pI_sk rfl).trans ((pI_sk rfl).trans (pI_up.trans (congrArg (fun f => fu_up f b.toInt.toNat (Int32.toInt 1)) ((pI_sk rfl).trans ((pI_sk rfl).trans ((pI_sk rfl).trans ((pI_sk rfl).trans rfl))))))))) ((pI_sk rfl).trans ((pI_sk rfl).trans (pI_up.trans (congrArg (fun f => fu_up f b.toInt.toNat (Int32.toInt v4)) ((pI_sk rfl).trans ((pI_sk rfl).trans ((pI_sk rfl).trans ((pI_sk rfl).trans ((pI_sk rfl).trans rfl))))))))) ((pI_sk rfl).trans (pI_up.trans (congrArg (fun f => fu_up f b.toInt.toNat (Int32.toInt v5)) ((pI_sk rfl).trans ((pI_sk rfl).trans ((pI_sk rfl).trans ((pI_sk rfl).trans ((pI_sk rfl).trans ((pI_sk rfl).trans rfl))))))))) (pI_up.trans (congrArg (fun f => fu_up f b.toInt.toNat (Int32.toInt t8)) ((pI_sk rfl).trans ((pI_sk rfl).trans ((pI_sk rfl).trans ((pI_sk rfl).trans ((pI_sk rfl).trans ((pI_sk rfl).trans ((pI_sk rfl).trans rfl))))))))) ((pI_sk rfl).trans ((pI_sk rfl).trans ((pI_sk rfl).trans ((pI_sk rfl).trans ((pI_sk rfl).trans ((pI_sk rfl).trans ((pI_sk rfl).trans (pI_up.trans rfl)))))))) ((pI_sk rfl).trans ((pI_sk rfl).trans ((pI_sk rfl).trans ((pI_sk rfl).trans ((pI_sk rfl).trans ((pI_sk rfl).trans ((pI_sk rfl).trans ((pI_sk rfl).trans rfl)))))))) ((pI_sk rfl).trans ((pI_sk rfl).trans ((pI_sk rfl).trans ((pI_sk rfl).trans ((pI_sk rfl).trans ((pI_sk rfl).trans ((pI_sk rfl).trans ((pI_sk rfl).trans rfl)))))))) (congrArg Int32.toInt ((hk_ot rfl).trans ((hk_ot rfl).trans ((hk_ot rfl).trans ((hk_ot rfl).trans ((hk_ot rfl).trans ((hk_ot rfl).trans ((hk_ot rfl).trans ((hk_ot rfl).trans rfl))))))))) ((congrArg Int32.toInt (show (I17) 11 (b.toInt.toNat) = _ from ((e_I17 11 rfl (b.toInt.toNat)).trans ((e 11 rfl (b.toInt.toNat)).trans q_a11)))).trans (by omega)) (show (I17 6 0).toInt = pI I 6 0 from by rw [e_I17 6 rfl 0]; exact rfl) rfl (by omega) (by omega) (by omega) (by omega) (by omega) (by have h9 : b.toInt < pI I 6 0 := g11_n; omega)), (mB_put (I := I17) (I' := qm_up (qm_up (qm_up (qm_up (qm_up (qm_up (qm_up (qm_up I17 36 (v22.toInt.toNat) b) 28 6 v23) 37 (v4.toInt.toNat) v24) 28 5 v25) 11 (b.toInt.toNat) 1) 12 (b.toInt.toNat) v4) 13 (b.toInt.toNat) v5) 14 (b.toInt.toNat) t8) (y := v4.toInt) (r := v5.toInt) (t := t8.toInt) hV_I17.1.2 ((pI_sk rfl).trans ((pI_sk rfl).trans ((pI_sk rfl).trans ((pI_sk rfl).trans ((pI_sk rfl).trans ((pI_sk rfl).trans ((pI_sk rfl).trans (pI_up.trans rfl)))))))) (by omega) (by omega) (fun c => by show 0 ≤ (I17 36 (16 * v4.toInt + 4 * v5.toInt + t8.toInt - 1).toNat).toInt; rw [e_I17 36 rfl _]; exact f10_b (by omega)))⟩, hV_I17.2⟩ (by decide) rfl
        have e27 : ∀ o, [116, 192, 193, 194, 195, 196, 197, 198, 199, 200, 201, 202, 203, 204, 205, 206, 207, 208, 209, 210, 211, 212, 213, 214, 215, 216, 217, 218, 219, 220, 221, 222, 223, 224, 225, 226, 227, 228, 229, 230, 231, 232, 233].contains o = false → ∀ i, I30 o i = (qm_up (qm_up (qm_up (qm_up (qm_up (qm_up (qm_up (qm_up I17 36 (v22.toInt.toNat) b) 28 6 v23) 37 (v4.toInt.toNat) v24) 28 5 v25) 11 (b.toInt.toNat) 1) 12 (b.toInt.toNat) v4) 13 (b.toInt.toNat) v5) 14 (b.toInt.toNat) t8) o i := e27
        refine qm_Ru.go 1 (c' := (202, [.ref 38, .int b, .int o, .int be, .int le, .int q, .int t8, .int v19, .int w, l9, l10, l11], [.ref 38], (h.1, I30, J31, h.2.2.2))) rfl ?_
        refine hk_getr rfl (hH.1 38 (10, 5) rfl) rfl (hH.2 38 1 (some 28) rfl) ?_
        refine qm_Ru.go 1 (c' := (206, [.ref 38, .int b, .int o, .int be, .int le, .int q, .int t8, .int v19, .int w, l9, l10, l11], [.int b, .ref 28], (h.1, I30, J31, h.2.2.2))) rfl ?_
        refine hk_inv (o := 28) (r := []) (as := [.ref 28, .int b]) rfl rfl (hH.1 28 (9, 8) rfl) rfl rfl rfl rfl (hm_rem4 (h := (h.1, I30, J31, h.2.2.2)) hH (b := b) (y1 := v4) (r1 := v5) (t1 := t8) (by omega) (show (I30) 12 (b.toInt.toNat) = _ from ((e27 12 rfl (b.toInt.toNat)).trans ((hk_ot rfl).trans ((hk_ot rfl).trans (hk_same))))) (by omega) (show (I30) 13 (b.toInt.toNat) = _ from ((e27 13 rfl (b.toInt.toNat)).trans ((hk_ot rfl).trans (hk_same)))) (by omega) (show (I30) 14 (b.toInt.toNat) = _ from ((e27 14 rfl (b.toInt.toNat)).trans (hk_same))) (by omega) (fun v32 v33 v34 v35 e_v32 z366 z367 z365 => ?_))
        obtain ⟨z36c, z36n, z365⟩ := z365
        refine qm_Ru.go 1 (c' := (212, [.ref 38, .int b, .int o, .int be, .int le, .int (q + 1), .int t8, .int v19, .int w, l9, l10, l11], [], (h.1, qm_up (qm_up (qm_up (qm_up (qm_up (qm_up (qm_up (qm_up I30 36 (v32.toInt.toNat) (-1)) 28 6 v33) 37 (v4.toInt.toNat) v34) 28 5 v35) 11 (b.toInt.toNat) 0) 12 (b.toInt.toNat) (-1)) 13 (b.toInt.toNat) (-1)) 14 (b.toInt.toNat) (-1), J31, h.2.2.2))) rfl ?_
        obtain ⟨v37, q_v37, e_v37⟩ := hk_add (x := q) (y := 1) (a := q.toInt) (b := 1) rfl rfl (by omega) (by omega)
        rw [q_v37]
        refine qm_Ru.go 1 (c' := (10, [.ref 38, .int b, .int o, .int be, .int le, .int v37, .int t8, .int v19, .int w, l9, l10, l11], [], (h.1, qm_up (qm_up (qm_up (qm_up (qm_up (qm_up (qm_up (qm_up I30 36 (v32.toInt.toNat) (-1)) 28 6 v33) 37 (v4.toInt.toNat) v34) 28 5 v35) 11 (b.toInt.toNat) 0) 12 (b.toInt.toNat) (-1)) 13 (b.toInt.toNat) (-1)) 14 (b.toInt.toNat) (-1), J31, h.2.2.2))) rfl ?_
        have r386 : v33 = (I17) 28 6 := ar1 z366 (show (I30) 28 (6) = v23 from ((e27 28 rfl 6).trans ((hk_ot rfl).trans ((hk_ot rfl).trans ((hk_ot rfl).trans ((hk_ot rfl).trans ((hk_neq (by decide)).trans ((hk_ot rfl).trans (hk_same))))))))) (show (I30) 7 (b.toInt.toNat) = (I17) 7 (b.toInt.toNat) from ((e27 7 rfl (b.toInt.toNat)).trans ((hk_ot rfl).trans ((hk_ot rfl).trans ((hk_ot rfl).trans ((hk_ot rfl).trans ((hk_ot rfl).trans ((hk_ot rfl).trans ((hk_ot rfl).trans ((hk_ot rfl).trans rfl)))))))))) z266
        have r387 : v34 = (I17) 37 (v4.toInt.toNat) := ar1 z367 (show (I30) 37 (v4.toInt.toNat) = v24 from ((e27 37 rfl (v4.toInt.toNat)).trans ((hk_ot rfl).trans ((hk_ot rfl).trans ((hk_ot rfl).trans ((hk_ot rfl).trans ((hk_ot rfl).trans (hk_same)))))))) (show (I30) 7 (b.toInt.toNat) = (I17) 7 (b.toInt.toNat) from ((e27 7 rfl (b.toInt.toNat)).trans ((hk_ot rfl).trans ((hk_ot rfl).trans ((hk_ot rfl).trans ((hk_ot rfl).trans ((hk_ot rfl).trans ((hk_ot rfl).trans ((hk_ot rfl).trans ((hk_ot rfl).trans rfl)))))))))) z267
        have r385 : v35 = (I17) 28 5 := ar2 z365 z36n (show (I30) 28 (5) = v25 from ((e27 28 rfl 5).trans ((hk_ot rfl).trans ((hk_ot rfl).trans ((hk_ot rfl).trans ((hk_ot rfl).trans (hk_same))))))) (show (I30) 7 (b.toInt.toNat) = (I17) 7 (b.toInt.toNat) from ((e27 7 rfl (b.toInt.toNat)).trans ((hk_ot rfl).trans ((hk_ot rfl).trans ((hk_ot rfl).trans ((hk_ot rfl).trans ((hk_ot rfl).trans ((hk_ot rfl).trans ((hk_ot rfl).trans ((hk_ot rfl).trans rfl)))))))))) z265 (by omega)
        have r3811 : ∀ i, (qm_up (qm_up (qm_up (qm_up (qm_up (qm_up (qm_up (qm_up I30 36 (v32.toInt.toNat) (-1)) 28 6 v33) 37 (v4.toInt.toNat) v34) 28 5 v35) 11 (b.toInt.toNat) 0) 12 (b.toInt.toNat) (-1)) 13 (b.toInt.toNat) (-1)) 14 (b.toInt.toNat) (-1)) 11 i = (I17) 11 i := fun i => by
          by_cases c : i = b.toInt.toNat
          · subst c
            exact hk_i0 (congrArg Int32.toInt ((hk_ot rfl).trans ((hk_ot rfl).trans ((hk_ot rfl).trans (hk_same))))) ((congrArg Int32.toInt (show (I17) 11 (b.toInt.toNat) = _ from ((e_I17 11 rfl (b.toInt.toNat)).trans ((e 11 rfl (b.toInt.toNat)).trans q_a11)))).trans (by omega))
          · exact ((hk_ot rfl).trans ((hk_ot rfl).trans ((hk_ot rfl).trans ((hk_neq c).trans ((hk_ot rfl).trans ((hk_ot rfl).trans ((hk_ot rfl).trans ((hk_ot rfl).trans ((e27 11 rfl i).trans ((hk_ot rfl).trans ((hk_ot rfl).trans ((hk_ot rfl).trans ((hk_neq c).trans ((hk_ot rfl).trans ((hk_ot rfl).trans ((hk_ot rfl).trans ((hk_ot rfl).trans rfl)))))))))))))))))
        have r3812 : ∀ i, (qm_up (qm_up (qm_up (qm_up (qm_up (qm_up (qm_up (qm_up I30 36 (v32.toInt.toNat) (-1)) 28 6 v33) 37 (v4.toInt.toNat) v34) 28 5 v35) 11 (b.toInt.toNat) 0) 12 (b.toInt.toNat) (-1)) 13 (b.toInt.toNat) (-1)) 14 (b.toInt.toNat) (-1)) 12 i = (I17) 12 i := fun i => by
          by_cases c : i = b.toInt.toNat
          · subst c
            exact hk_i1 (congrArg Int32.toInt ((hk_ot rfl).trans ((hk_ot rfl).trans (hk_same)))) ((congrArg Int32.toInt (show (I17) 12 (b.toInt.toNat) = _ from ((e_I17 12 rfl (b.toInt.toNat)).trans ((e 12 rfl (b.toInt.toNat)).trans q_a12)))).trans (by omega))
          · exact ((hk_ot rfl).trans ((hk_ot rfl).trans ((hk_neq c).trans ((hk_ot rfl).trans ((hk_ot rfl).trans ((hk_ot rfl).trans ((hk_ot rfl).trans ((hk_ot rfl).trans ((e27 12 rfl i).trans ((hk_ot rfl).trans ((hk_ot rfl).trans ((hk_neq c).trans ((hk_ot rfl).trans ((hk_ot rfl).trans ((hk_ot rfl).trans ((hk_ot rfl).trans ((hk_ot rfl).trans rfl)))))))))))))))))
        have r3813 : ∀ i, (qm_up (qm_up (qm_up (qm_up (qm_up (qm_up (qm_up (qm_up I30 36 (v32.toInt.toNat) (-1)) 28 6 v33) 37 (v4.toInt.toNat) v34) 28 5 v35) 11 (b.toInt.toNat) 0) 12 (b.toInt.toNat) (-1)) 13 (b.toInt.toNat) (-1)) 14 (b.toInt.toNat) (-1)) 13 i = (I17) 13 i := fun i => by
          by_cases c : i = b.toInt.toNat
          · subst c
            exact hk_i1 (congrArg Int32.toInt ((hk_ot rfl).trans (hk_same))) ((congrArg Int32.toInt (show (I17) 13 (b.toInt.toNat) = _ from ((e_I17 13 rfl (b.toInt.toNat)).trans ((e 13 rfl (b.toInt.toNat)).trans q_a13)))).trans (by omega))
          · exact ((hk_ot rfl).trans ((hk_neq c).trans ((hk_ot rfl).trans ((hk_ot rfl).trans ((hk_ot rfl).trans ((hk_ot rfl).trans ((hk_ot rfl).trans ((hk_ot rfl).trans ((e27 13 rfl i).trans ((hk_ot rfl).trans ((hk_neq c).trans ((hk_ot rfl).trans ((hk_ot rfl).trans ((hk_ot rfl).trans ((hk_ot rfl).trans ((hk_ot rfl).trans ((hk_ot rfl).trans rfl)))))))))))))))))
        have r3814 : ∀ i, (qm_up (qm_up (qm_up (qm_up (qm_up (qm_up (qm_up (qm_up I30 36 (v32.toInt.toNat) (-1)) 28 6 v33) 37 (v4.toInt.toNat) v34) 28 5 v35) 11 (b.toInt.toNat) 0) 12 (b.toInt.toNat) (-1)) 13 (b.toInt.toNat) (-1)) 14 (b.toInt.toNat) (-1)) 14 i = (I17) 14 i := fun i => by
          by_cases c : i = b.toInt.toNat
          · subst c
            exact hk_i1 (congrArg Int32.toInt (hk_same)) ((congrArg Int32.toInt (show (I17) 14 (b.toInt.toNat) = _ from ((e_I17 14 rfl (b.toInt.toNat)).trans ((e 14 rfl (b.toInt.toNat)).trans q_a14)))).trans (by omega))
          · exact ((hk_neq c).trans ((hk_ot rfl).trans ((hk_ot rfl).trans ((hk_ot rfl).trans ((hk_ot rfl).trans ((hk_ot rfl).trans ((hk_ot rfl).trans ((hk_ot rfl).trans ((e27 14 rfl i).trans ((hk_neq c).trans ((hk_ot rfl).trans ((hk_ot rfl).trans ((hk_ot rfl).trans ((hk_ot rfl).trans ((hk_ot rfl).trans ((hk_ot rfl).trans ((hk_ot rfl).trans rfl)))))))))))))))))
        have r3828 : ∀ i, (qm_up (qm_up (qm_up (qm_up (qm_up (qm_up (qm_up (qm_up I30 36 (v32.toInt.toNat) (-1)) 28 6 v33) 37 (v4.toInt.toNat) v34) 28 5 v35) 11 (b.toInt.toNat) 0) 12 (b.toInt.toNat) (-1)) 13 (b.toInt.toNat) (-1)) 14 (b.toInt.toNat) (-1)) 28 i = (I17) 28 i := fun i => by
          by_cases c5 : i = 5
          · subst c5
            exact (((hk_ot rfl).trans ((hk_ot rfl).trans ((hk_ot rfl).trans ((hk_ot rfl).trans (hk_same)))))).trans r385
          · by_cases c6 : i = 6
            · subst c6
              exact (((hk_ot rfl).trans ((hk_ot rfl).trans ((hk_ot rfl).trans ((hk_ot rfl).trans ((hk_neq (by decide)).trans ((hk_ot rfl).trans (hk_same)))))))).trans r386
            · exact ((hk_ot rfl).trans ((hk_ot rfl).trans ((hk_ot rfl).trans ((hk_ot rfl).trans ((hk_neq c5).trans ((hk_ot rfl).trans ((hk_neq c6).trans ((hk_ot rfl).trans ((e27 28 rfl i).trans ((hk_ot rfl).trans ((hk_ot rfl).trans ((hk_ot rfl).trans ((hk_ot rfl).trans ((hk_neq c5).trans ((hk_ot rfl).trans ((hk_neq c6).trans ((hk_ot rfl).trans rfl)))))))))))))))))
        have r3837 : ∀ i, (qm_up (qm_up (qm_up (qm_up (qm_up (qm_up (qm_up (qm_up I30 36 (v32.toInt.toNat) (-1)) 28 6 v33) 37 (v4.toInt.toNat) v34) 28 5 v35) 11 (b.toInt.toNat) 0) 12 (b.toInt.toNat) (-1)) 13 (b.toInt.toNat) (-1)) 14 (b.toInt.toNat) (-1)) 37 i = (I17) 37 i := fun i => by
          by_cases c : i = v4.toInt.toNat
          · subst c
            exact (((hk_ot rfl).trans ((hk_ot rfl).trans ((hk_ot rfl).trans ((hk_ot rfl).trans ((hk_ot rfl).trans (hk_same))))))).trans r387
          · exact ((hk_ot rfl).trans ((hk_ot rfl).trans ((hk_ot rfl).trans ((hk_ot rfl).trans ((hk_ot rfl).trans ((hk_neq c).trans ((hk_ot rfl).trans ((hk_ot rfl).trans ((e27 37 rfl i).trans ((hk_ot rfl).trans ((hk_ot rfl).trans ((hk_ot rfl).trans ((hk_ot rfl).trans ((hk_ot rfl).trans ((hk_neq c).trans ((hk_ot rfl).trans ((hk_ot rfl).trans rfl)))))))))))))))))
        have r3836 : ∀ i, (qm_up (qm_up (qm_up (qm_up (qm_up (qm_up (qm_up (qm_up I30 36 (v32.toInt.toNat) (-1)) 28 6 v33) 37 (v4.toInt.toNat) v34) 28 5 v35) 11 (b.toInt.toNat) 0) 12 (b.toInt.toNat) (-1)) 13 (b.toInt.toNat) (-1)) 14 (b.toInt.toNat) (-1)) 36 i = (I17) 36 i := fun i => by
          by_cases c : i = v32.toInt.toNat
          · rw [c]
            exact hk_i1 (congrArg Int32.toInt ((hk_ot rfl).trans ((hk_ot rfl).trans ((hk_ot rfl).trans ((hk_ot rfl).trans ((hk_ot rfl).trans ((hk_ot rfl).trans ((hk_ot rfl).trans (hk_same))))))))) (by rw [e_I17 36 rfl _]; rw [show v32.toInt.toNat = (16 * v4.toInt + 4 * v5.toInt + t8.toInt).toNat from by omega]; exact (show pI I 36 (16 * v4.toInt + 4 * v5.toInt + t8.toInt).toNat = -1 from f10_f))
          · exact ((hk_ot rfl).trans ((hk_ot rfl).trans ((hk_ot rfl).trans ((hk_ot rfl).trans ((hk_ot rfl).trans ((hk_ot rfl).trans ((hk_ot rfl).trans ((hk_neq (by omega)).trans ((e27 36 rfl i).trans ((hk_ot rfl).trans ((hk_ot rfl).trans ((hk_ot rfl).trans ((hk_ot rfl).trans ((hk_ot rfl).trans ((hk_ot rfl).trans ((hk_ot rfl).trans ((hk_neq (by omega)).trans rfl)))))))))))))))))
        have r38 : ∀ o, [116, 192, 193, 194, 195, 196, 197, 198, 199, 200, 201, 202, 203, 204, 205, 206, 207, 208, 209, 210, 211, 212, 213, 214, 215, 216, 217, 218, 219, 220, 221, 222, 223, 224, 225, 226, 227, 228, 229, 230, 231, 232, 233].contains o = false → ∀ i, (qm_up (qm_up (qm_up (qm_up (qm_up (qm_up (qm_up (qm_up I30 36 (v32.toInt.toNat) (-1)) 28 6 v33) 37 (v4.toInt.toNat) v34) 28 5 v35) 11 (b.toInt.toNat) 0) 12 (b.toInt.toNat) (-1)) 13 (b.toInt.toNat) (-1)) 14 (b.toInt.toNat) (-1)) o i = (I17) o i := eq7m (mod := [116, 192, 193, 194, 195, 196, 197, 198, 199, 200, 201, 202, 203, 204, 205, 206, 207, 208, 209, 210, 211, 212, 213, 214, 215, 216, 217, 218, 219, 220, 221, 222, 223, 224, 225, 226, 227, 228, 229, 230, 231, 232, 233]) (I := I17) (I' := qm_up (qm_up (qm_up (qm_up (qm_up (qm_up (qm_up (qm_up I30 36 (v32.toInt.toNat) (-1)) 28 6 v33) 37 (v4.toInt.toNat) v34) 28 5 v35) 11 (b.toInt.toNat) 0) 12 (b.toInt.toNat) (-1)) 13 (b.toInt.toNat) (-1)) 14 (b.toInt.toNat) (-1)) (fun o ho i => ((hk_mod ho rfl).trans ((hk_mod ho rfl).trans ((hk_mod ho rfl).trans ((hk_mod ho rfl).trans ((hk_mod ho rfl).trans ((hk_mod ho rfl).trans ((hk_mod ho rfl).trans ((hk_mod ho rfl).trans ((e27 o (hk_ms rfl ho) i).trans ((hk_mod ho rfl).trans ((hk_mod ho rfl).trans ((hk_mod ho rfl).trans ((hk_mod ho rfl).trans ((hk_mod ho rfl).trans ((hk_mod ho rfl).trans ((hk_mod ho rfl).trans ((hk_mod ho rfl).trans rfl)))))))))))))))))) r3811 r3812 r3813 r3814 r3828 r3836 r3837
        exact ih _ (by omega) (qm_up (qm_up (qm_up (qm_up (qm_up (qm_up (qm_up (qm_up I30 36 (v32.toInt.toNat) (-1)) 28 6 v33) 37 (v4.toInt.toNat) v34) 28 5 v35) 11 (b.toInt.toNat) 0) 12 (b.toInt.toNat) (-1)) 13 (b.toInt.toNat) (-1)) 14 (b.toInt.toNat) (-1)) (J31) be le v37 (.int t8) (.int v19) (.int w) l9 l10 l11 (hb_up (o := 14) (k := b.toInt.toNat) (x := (-1)) (hb_up (o := 13) (k := b.toInt.toNat) (x := (-1)) (hb_up (o := 12) (k := b.toInt.toNat) (x := (-1)) (hb_up (o := 11) (k := b.toInt.toNat) (x := 0) (hb_up (o := 28) (k := 5) (x := v35) (hb_up (o := 37) (k := v4.toInt.toNat) (x := v34) (hb_up (o := 28) (k := 6) (x := v33) (hb_up (o := 36) (k := v32.toInt.toNat) (x := (-1)) B29 ⟨(show (-1 : Int) ≤ -1 from by decide), (show (-1 : Int) ≤ 29 from by decide)⟩) (qa_in_full _)) (qa_in_full _)) (qa_in_full _)) ⟨(show (0 : Int) ≤ 0 from by decide), (show (0 : Int) ≤ 2 from by decide)⟩) ⟨(show (-1 : Int) ≤ -1 from by decide), (show (-1 : Int) ≤ 4 from by decide)⟩) ⟨(show (-1 : Int) ≤ -1 from by decide), (show (-1 : Int) ≤ 3 from by decide)⟩) ⟨(show (-1 : Int) ≤ -1 from by decide), (show (-1 : Int) ≤ 3 from by decide)⟩) (fun o ho i => (r38 o ho i).trans ((e_I17 o (hk_ms rfl ho) i).trans (e o ho i))) (v_C_cg9 hV_I17 (fun o ho i => r38 o (q9_brk111 ho) i)) (by omega) rfl
theorem hs4_ctwo111 {L : Nat} {xs : Nat → Int32} {d : Nat} {Z : Option Value → qm_H → Prop} {h : qm_H} (h6 : 6 ≤ L) (hH : hk_H h) (hB : hk_B h.2.1) (hT : h.2.2.2 0 9 = some 29 ∧ h.2.2.2 28 2 = some 111) (hW : wS h 111) {b o : Int32} (b_b : (0 : Int) ≤ b.toInt ∧ b.toInt ≤ 29) (b_o : (0 : Int) ≤ o.toInt ∧ o.toInt ≤ 29) (hbo : b.toInt ≠ o.toInt) {a11 : Int32} (q_a11 : h.2.1 11 (b.toInt.toNat) = a11) (f_a11 : a11.toInt = 0) {a12 : Int32} (q_a12 : h.2.1 12 (b.toInt.toNat) = a12) (f_a12 : a12.toInt = -1) {a13 : Int32} (q_a13 : h.2.1 13 (b.toInt.toNat) = a13) (f_a13 : a13.toInt = -1) {a14 : Int32} (q_a14 : h.2.1 14 (b.toInt.toNat) = a14) (f_a14 : a14.toInt = -1) {c11 : Int32} (q_c11 : h.2.1 11 (o.toInt.toNat) = c11) (f_c11 : c11.toInt = 0) {c12 : Int32} (q_c12 : h.2.1 12 (o.toInt.toNat) = c12) (f_c12 : c12.toInt = -1) {c13 : Int32} (q_c13 : h.2.1 13 (o.toInt.toNat) = c13) (f_c13 : c13.toInt = -1) {c14 : Int32} (q_c14 : h.2.1 14 (o.toInt.toNat) = c14) (f_c14 : c14.toInt = -1) (hV : v_C h.2.1) (k : ∀ (v : Int32) (I : Nat → Nat → Int32) (J : Nat → Nat → Int64), hk_B I → v_C I → (∀ o, [116, 192, 193, 194, 195, 196, 197, 198, 199, 200, 201, 202, 203, 204, 205, 206, 207, 208, 209, 210, 211, 212, 213, 214, 215, 216, 217, 218, 219, 220, 221, 222, 223, 224, 225, 226, 227, 228, 229, 230, 231, 232, 233].contains o = false → ∀ i, I o i = h.2.1 o i) → Z (some (.int v)) (h.1, I, J, h.2.2.2)) : qm_Ru (some (L, xs)) (d + 100) cd_238 (qm_ent 12 [.ref 38, .int b, .int o] h) Z := by
  refine qm_Ru.go 6 (c' := (10, [.ref 38, .int b, .int o, .int (-2), .int 1000000, .int 0, .float 0, .float 0, .float 0, .float 0, .float 0, .float 0], [], h)) rfl ?_
  exact hl4_ctwo2_111 h6 hH hB hT hW b_b b_o hbo q_a11 f_a11 q_a12 f_a12 q_a13 f_a13 q_a14 f_a14 q_c11 f_c11 q_c12 f_c12 q_c13 f_c13 q_c14 f_c14 k _ h.2.1 h.2.2.1 (-2) 1000000 0 _ _ _ _ _ _ hB (fun _ _ _ => rfl) hV (by decide) rfl
theorem hc4_ctwo111 : hk_ct v_C (fun h => ((h.2.2.2 0 9 = some 29 ∧ h.2.2.2 28 2 = some 111) ∧ wS h 111) ∧ zAw h) (fun as I => ∃ b o : Int32, as = [.ref 0, .int b, .int o]) 236 (some (-2147483648, 2147483647)) [39, 116, 192, 193, 194, 195, 196, 197, 198, 199, 200, 201, 202, 203, 204, 205, 206, 207, 208, 209, 210, 211, 212, 213, 214, 215, 216, 217, 218, 219, 220, 221, 222, 223, 224, 225, 226, 227, 228, 229, 230, 231, 232, 233] 120 := by
  intro L xs d Z h as h6 hH hT2 hB hV hp hd k
  obtain ⟨⟨hT, hW⟩, hZ⟩ := hT2
  obtain ⟨b, o, rfl⟩ := hp
  obtain ⟨d, rfl⟩ : ∃ e, d = e + 120 := ⟨d - 120, by omega⟩
  show qm_Ru (some (L, xs)) (d + 120) cd_236 (qm_ent 3 [.ref 0, .int b, .int o] h) Z
  refine qm_Ru.go 1 (c' := (1, [.ref 0, .int b, .int o], [.ref 0], h)) rfl ?_
  refine hk_getr rfl (hH.1 0 (16, 10) rfl) rfl (hH.2 0 2 (some 6) rfl) ?_
  refine qm_Ru.go 1 (c' := (5, [.ref 0, .int b, .int o], [.int b, .ref 6], h)) rfl ?_
  refine hk_inv (o := 6) (r := []) (as := [.ref 6, .int b]) rfl rfl (hH.1 6 (6, 9) rfl) rfl rfl rfl rfl ?_
  refine qm_Ru.go 2 (c' := (2, [.ref 6, .int b], [.int b, .ref 6], h)) rfl ?_
  refine hk_inv (o := 6) (r := []) (as := [.ref 6, .int b]) rfl rfl (hH.1 6 (6, 9) rfl) rfl rfl rfl rfl ?_
  refine qm_Ru.go 1 (c' := (1, [.ref 6, .int b], [.int b], h)) rfl ?_
  refine hk_zlt (ix := b.toInt) rfl rfl (fun z1 => ?_) (fun z1 => ?_)
  · refine qm_Ru.go 1 (c' := (17, [.ref 6, .int b], [.int 0], h)) rfl ?_
    refine qm_Ru.rt (v := (some (.int 0))) (h' := h) rfl ?_
    refine qm_Ru.go 2 (c' := (22, [.ref 6, .int b], [.int 0], h)) rfl ?_
    refine qm_Ru.rt (v := (some (.int 0))) (h' := h) rfl ?_
    refine qm_Ru.go 2 (c' := (28, [.ref 0, .int b, .int o], [.int (-1)], h)) rfl ?_
    refine qm_Ru.rt (v := (some (.int (-1)))) (h' := h) rfl ?_
    exact k (some (.int (-1))) (h.2.1) (h.2.2.1) ⟨_, rfl, qa_in_full _⟩ hB hV (fun o ho i => rfl)
  · refine qm_Ru.go 2 (c' := (6, [.ref 6, .int b], [.ref 6, .int b], h)) rfl ?_
    obtain ⟨v2, q_v2⟩ : ∃ v_, h.2.1 6 0 = v_ := ⟨_, rfl⟩
    have b_v2 : (0 : Int) ≤ v2.toInt ∧ v2.toInt ≤ 30 := by rw [← q_v2]; exact hB 6 0
    refine hk_geti (v := v2) rfl (hH.1 6 (6, 9) rfl) rfl q_v2 ?_
    refine qm_Ru.go 0 (c' := (9, [.ref 6, .int b], [.int v2, .int b], h)) rfl ?_
    refine hk_cge (ix := b.toInt) (iy := v2.toInt) rfl rfl rfl (fun z3 => ?_) (fun z3 => ?_)
    · refine qm_Ru.go 1 (c' := (17, [.ref 6, .int b], [.int 0], h)) rfl ?_
      refine qm_Ru.rt (v := (some (.int 0))) (h' := h) rfl ?_
      refine qm_Ru.go 2 (c' := (22, [.ref 6, .int b], [.int 0], h)) rfl ?_
      refine qm_Ru.rt (v := (some (.int 0))) (h' := h) rfl ?_
      refine qm_Ru.go 2 (c' := (28, [.ref 0, .int b, .int o], [.int (-1)], h)) rfl ?_
      refine qm_Ru.rt (v := (some (.int (-1)))) (h' := h) rfl ?_
      exact k (some (.int (-1))) (h.2.1) (h.2.2.1) ⟨_, rfl, qa_in_full _⟩ hB hV (fun o ho i => rfl)
    · refine qm_Ru.go 2 (c' := (17, [.ref 6, .int b], [.int 1], h)) rfl ?_
      refine qm_Ru.rt (v := (some (.int 1))) (h' := h) rfl ?_
      refine qm_Ru.go 2 (c' := (9, [.ref 6, .int b], [.ref 6], h)) rfl ?_
      refine hk_getr rfl (hH.1 6 (6, 9) rfl) rfl (hH.2 6 5 (some 11) rfl) ?_
      refine qm_Ru.go 1 (c' := (13, [.ref 6, .int b], [.int b, .ref 11], h)) rfl ?_
      obtain ⟨v4, q_v4⟩ : ∃ v_, h.2.1 11 (b.toInt.toNat) = v_ := ⟨_, rfl⟩
      have b_v4 : (0 : Int) ≤ v4.toInt ∧ v4.toInt ≤ 2 := by rw [← q_v4]; exact hB 11 (b.toInt.toNat)
      refine hk_ial (v := v4) rfl (hH.1 11 (0, 30) rfl) (by omega) (by omega) q_v4 ?_
      refine qm_Ru.go 0 (c' := (14, [.ref 6, .int b], [.int v4], h)) rfl ?_
      refine hk_zne (ix := v4.toInt) rfl rfl (fun z5 => ?_) (fun z5 => ?_)
      · refine qm_Ru.go 1 (c' := (22, [.ref 6, .int b], [.int 0], h)) rfl ?_
        refine qm_Ru.rt (v := (some (.int 0))) (h' := h) rfl ?_
        refine qm_Ru.go 2 (c' := (28, [.ref 0, .int b, .int o], [.int (-1)], h)) rfl ?_
        refine qm_Ru.rt (v := (some (.int (-1)))) (h' := h) rfl ?_
        exact k (some (.int (-1))) (h.2.1) (h.2.2.1) ⟨_, rfl, qa_in_full _⟩ hB hV (fun o ho i => rfl)
      · refine qm_Ru.go 2 (c' := (22, [.ref 6, .int b], [.int 1], h)) rfl ?_
        refine qm_Ru.rt (v := (some (.int 1))) (h' := h) rfl ?_
        refine qm_Ru.go 2 (c' := (12, [.ref 0, .int b, .int o], [.ref 0], h)) rfl ?_
        refine hk_getr rfl (hH.1 0 (16, 10) rfl) rfl (hH.2 0 2 (some 6) rfl) ?_
        refine qm_Ru.go 1 (c' := (16, [.ref 0, .int b, .int o], [.int o, .ref 6], h)) rfl ?_
        refine hk_inv (o := 6) (r := []) (as := [.ref 6, .int o]) rfl rfl (hH.1 6 (6, 9) rfl) rfl rfl rfl rfl ?_
        refine qm_Ru.go 2 (c' := (2, [.ref 6, .int o], [.int o, .ref 6], h)) rfl ?_
        refine hk_inv (o := 6) (r := []) (as := [.ref 6, .int o]) rfl rfl (hH.1 6 (6, 9) rfl) rfl rfl rfl rfl ?_
        refine qm_Ru.go 1 (c' := (1, [.ref 6, .int o], [.int o], h)) rfl ?_
        refine hk_zlt (ix := o.toInt) rfl rfl (fun z6 => ?_) (fun z6 => ?_)
        · refine qm_Ru.go 1 (c' := (17, [.ref 6, .int o], [.int 0], h)) rfl ?_
          refine qm_Ru.rt (v := (some (.int 0))) (h' := h) rfl ?_
          refine qm_Ru.go 2 (c' := (22, [.ref 6, .int o], [.int 0], h)) rfl ?_
          refine qm_Ru.rt (v := (some (.int 0))) (h' := h) rfl ?_
          refine qm_Ru.go 2 (c' := (28, [.ref 0, .int b, .int o], [.int (-1)], h)) rfl ?_
          refine qm_Ru.rt (v := (some (.int (-1)))) (h' := h) rfl ?_
          exact k (some (.int (-1))) (h.2.1) (h.2.2.1) ⟨_, rfl, qa_in_full _⟩ hB hV (fun o ho i => rfl)
        · refine qm_Ru.go 2 (c' := (6, [.ref 6, .int o], [.ref 6, .int o], h)) rfl ?_
          refine hk_geti (v := v2) rfl (hH.1 6 (6, 9) rfl) rfl q_v2 ?_
          refine qm_Ru.go 0 (c' := (9, [.ref 6, .int o], [.int v2, .int o], h)) rfl ?_
          refine hk_cge (ix := o.toInt) (iy := v2.toInt) rfl rfl rfl (fun z7 => ?_) (fun z7 => ?_)
          · refine qm_Ru.go 1 (c' := (17, [.ref 6, .int o], [.int 0], h)) rfl ?_
            refine qm_Ru.rt (v := (some (.int 0))) (h' := h) rfl ?_
            refine qm_Ru.go 2 (c' := (22, [.ref 6, .int o], [.int 0], h)) rfl ?_
            refine qm_Ru.rt (v := (some (.int 0))) (h' := h) rfl ?_
            refine qm_Ru.go 2 (c' := (28, [.ref 0, .int b, .int o], [.int (-1)], h)) rfl ?_
            refine qm_Ru.rt (v := (some (.int (-1)))) (h' := h) rfl ?_
            exact k (some (.int (-1))) (h.2.1) (h.2.2.1) ⟨_, rfl, qa_in_full _⟩ hB hV (fun o ho i => rfl)
          · refine qm_Ru.go 2 (c' := (17, [.ref 6, .int o], [.int 1], h)) rfl ?_
            refine qm_Ru.rt (v := (some (.int 1))) (h' := h) rfl ?_
            refine qm_Ru.go 2 (c' := (9, [.ref 6, .int o], [.ref 6], h)) rfl ?_
            refine hk_getr rfl (hH.1 6 (6, 9) rfl) rfl (hH.2 6 5 (some 11) rfl) ?_
            refine qm_Ru.go 1 (c' := (13, [.ref 6, .int o], [.int o, .ref 11], h)) rfl ?_
            obtain ⟨v8, q_v8⟩ : ∃ v_, h.2.1 11 (o.toInt.toNat) = v_ := ⟨_, rfl⟩
            have b_v8 : (0 : Int) ≤ v8.toInt ∧ v8.toInt ≤ 2 := by rw [← q_v8]; exact hB 11 (o.toInt.toNat)
            refine hk_ial (v := v8) rfl (hH.1 11 (0, 30) rfl) (by omega) (by omega) q_v8 ?_
            refine qm_Ru.go 0 (c' := (14, [.ref 6, .int o], [.int v8], h)) rfl ?_
            refine hk_zne (ix := v8.toInt) rfl rfl (fun z9 => ?_) (fun z9 => ?_)
            · refine qm_Ru.go 1 (c' := (22, [.ref 6, .int o], [.int 0], h)) rfl ?_
              refine qm_Ru.rt (v := (some (.int 0))) (h' := h) rfl ?_
              refine qm_Ru.go 2 (c' := (28, [.ref 0, .int b, .int o], [.int (-1)], h)) rfl ?_
              refine qm_Ru.rt (v := (some (.int (-1)))) (h' := h) rfl ?_
              exact k (some (.int (-1))) (h.2.1) (h.2.2.1) ⟨_, rfl, qa_in_full _⟩ hB hV (fun o ho i => rfl)
            · refine qm_Ru.go 2 (c' := (22, [.ref 6, .int o], [.int 1], h)) rfl ?_
              refine qm_Ru.rt (v := (some (.int 1))) (h' := h) rfl ?_
              refine qm_Ru.go 3 (c' := (24, [.ref 0, .int b, .int o], [.int o, .int b], h)) rfl ?_
              refine hk_cne (ix := b.toInt) (iy := o.toInt) rfl rfl rfl (fun z10 => ?_) (fun z10 => ?_)
              · refine qm_Ru.go 1 (c' := (30, [.ref 0, .int b, .int o], [.ref 0], h)) rfl ?_
                refine hk_getr rfl (hH.1 0 (16, 10) rfl) rfl (hH.2 0 5 (some 38) rfl) ?_
                refine qm_Ru.go 1 (c' := (34, [.ref 0, .int b, .int o], [.int o, .ref 38], h)) rfl ?_
                refine hk_inv (o := 38) (r := []) (as := [.ref 38, .int o]) rfl rfl (hH.1 38 (10, 5) rfl) rfl rfl rfl rfl (hs_lone111 (h := h) h6 hH hT hB (v_C_ru hV) ⟨by show (0 : Int) ≤ o.toInt; omega, by show o.toInt ≤ (29 : Int); omega⟩ (wS_same hW rfl rfl) (by omega) (fun I11 J12 hB_I11 e_I11 => ?_))
                have hV_I11 : v_C I11 := v_C_cg9 hV (fun o ho i => e_I11 o (q9_lone111 ho) i)
                refine qm_Ru.go 1 (c' := (38, [.ref 0, .int b, .int o], [.ref 0], (h.1, I11, J12, h.2.2.2))) rfl ?_
                refine hk_getr rfl (hH.1 0 (16, 10) rfl) rfl (hH.2 0 5 (some 38) rfl) ?_
                refine qm_Ru.go 2 (c' := (43, [.ref 0, .int b, .int o], [.int o, .int b, .ref 38], (h.1, I11, J12, h.2.2.2))) rfl ?_
                have z13 := hZ (b.toInt.toNat) (by rw [q_v4]; omega) (by rw [q_v2]; omega)
                obtain ⟨v14, q_v14⟩ : ∃ v_, h.2.1 12 (b.toInt.toNat) = v_ := ⟨_, rfl⟩
                have f_v14 : v14.toInt = -1 := by rw [← q_v14]; exact z13.1
                obtain ⟨v15, q_v15⟩ : ∃ v_, h.2.1 13 (b.toInt.toNat) = v_ := ⟨_, rfl⟩
                have f_v15 : v15.toInt = -1 := by rw [← q_v15]; exact z13.2.1
                obtain ⟨v16, q_v16⟩ : ∃ v_, h.2.1 14 (b.toInt.toNat) = v_ := ⟨_, rfl⟩
                have f_v16 : v16.toInt = -1 := by rw [← q_v16]; exact z13.2.2
                have z17 := hZ (o.toInt.toNat) (by rw [q_v8]; omega) (by rw [q_v2]; omega)
                obtain ⟨v18, q_v18⟩ : ∃ v_, h.2.1 12 (o.toInt.toNat) = v_ := ⟨_, rfl⟩
                have f_v18 : v18.toInt = -1 := by rw [← q_v18]; exact z17.1
                obtain ⟨v19, q_v19⟩ : ∃ v_, h.2.1 13 (o.toInt.toNat) = v_ := ⟨_, rfl⟩
                have f_v19 : v19.toInt = -1 := by rw [← q_v19]; exact z17.2.1
                obtain ⟨v20, q_v20⟩ : ∃ v_, h.2.1 14 (o.toInt.toNat) = v_ := ⟨_, rfl⟩
                have f_v20 : v20.toInt = -1 := by rw [← q_v20]; exact z17.2.2
                refine hk_inv (o := 38) (r := []) (as := [.ref 38, .int b, .int o]) rfl rfl (hH.1 38 (10, 5) rfl) rfl rfl rfl rfl (hs4_ctwo111 (h := (h.1, I11, J12, h.2.2.2)) h6 hH hB_I11 hT (wS_same hW rfl rfl) (b := b) (o := o) (by omega) (by omega) (by omega) (show (I11) 11 (b.toInt.toNat) = _ from ((e_I11 11 rfl (b.toInt.toNat)).trans q_v4)) (by omega) (show (I11) 12 (b.toInt.toNat) = _ from ((e_I11 12 rfl (b.toInt.toNat)).trans q_v14)) (by omega) (show (I11) 13 (b.toInt.toNat) = _ from ((e_I11 13 rfl (b.toInt.toNat)).trans q_v15)) (by omega) (show (I11) 14 (b.toInt.toNat) = _ from ((e_I11 14 rfl (b.toInt.toNat)).trans q_v16)) (by omega) (show (I11) 11 (o.toInt.toNat) = _ from ((e_I11 11 rfl (o.toInt.toNat)).trans q_v8)) (by omega) (show (I11) 12 (o.toInt.toNat) = _ from ((e_I11 12 rfl (o.toInt.toNat)).trans q_v18)) (by omega) (show (I11) 13 (o.toInt.toNat) = _ from ((e_I11 13 rfl (o.toInt.toNat)).trans q_v19)) (by omega) (show (I11) 14 (o.toInt.toNat) = _ from ((e_I11 14 rfl (o.toInt.toNat)).trans q_v20)) (by omega) hV_I11 (fun v23 I21 J22 hB_I21 hV_I21 e_I21 => ?_))
                refine qm_Ru.go 0 (c' := (46, [.ref 0, .int b, .int o], [.int v23], (h.1, I21, J22, h.2.2.2))) rfl ?_
                refine qm_Ru.rt (v := (some (.int v23))) (h' := (h.1, I21, J22, h.2.2.2)) rfl ?_
                exact k (some (.int v23)) (I21) (J22) ⟨_, rfl, qa_in_full _⟩ hB_I21 hV_I21 (fun o ho i => ((e_I21 o (hk_ms rfl ho) i).trans ((e_I11 o (hk_ms rfl ho) i).trans rfl)))
              · refine qm_Ru.go 1 (c' := (28, [.ref 0, .int b, .int o], [.int (-1)], h)) rfl ?_
                refine qm_Ru.rt (v := (some (.int (-1)))) (h' := h) rfl ?_
                exact k (some (.int (-1))) (h.2.1) (h.2.2.1) ⟨_, rfl, qa_in_full _⟩ hB hV (fun o ho i => rfl)
