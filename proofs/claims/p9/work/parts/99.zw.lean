/-! by hand -/
theorem q9_brw29 {o : Nat} (h : [6, 11, 12, 13, 14, 16, 17, 36, 150, 151].contains o = true) : qm_brw29.contains o = false := by
  have key : ∀ o ∈ [6, 11, 12, 13, 14, 16, 17, 36, 150, 151], qm_brw29.contains o = false := by decide +kernel
  exact key o (List.contains_iff_mem.mp h)
theorem q9_lone29 {o : Nat} (h : [6, 11, 12, 13, 14, 16, 17, 36, 150, 151].contains o = true) : qm_lone29.contains o = false := by
  have key : ∀ o ∈ [6, 11, 12, 13, 14, 16, 17, 36, 150, 151], qm_lone29.contains o = false := by decide +kernel
  exact key o (List.contains_iff_mem.mp h)
theorem hl_ctwo1_29 {L : Nat} {xs : Nat → Int32} {d : Nat} {Z : Option Value → qm_H → Prop} {h : qm_H} (h6 : 6 ≤ L) (hH : hk_H h) (hB : hk_B h.2.1) (hT : h.2.2.2 0 9 = some 111 ∧ h.2.2.2 28 2 = some 29) (hW : wS h 29) {b o : Int32} (b_b : (0 : Int) ≤ b.toInt ∧ b.toInt ≤ 29) (b_o : (0 : Int) ≤ o.toInt ∧ o.toInt ≤ 29) (hbo : b.toInt ≠ o.toInt) {f36 : Nat → Int32} {y0 r0 t0 q ru : Int32} {l6 : Value} (hq : (0 : Int) ≤ q.toInt ∧ q.toInt ≤ 19) (ko : ∀ (I : Nat → Nat → Int32) (J : Nat → Nat → Int64) (be le w : Int32) (l9 l10 l11 : Value), hk_B I → (∀ o, [11, 12, 13, 14, 28, 34, 36, 37, 39, 192, 193, 194, 195, 196, 197, 198, 199, 200, 201, 202, 203, 204, 205, 206, 207, 208, 209, 210, 211, 212, 213, 214, 215, 216, 217, 218, 219, 220, 221, 222, 223, 224, 225, 226, 227, 228, 229, 230, 231, 232, 233].contains o = false → ∀ i, I o i = h.2.1 o i) → (v_C I) → ((I 11 (b.toInt.toNat)).toInt = 1) → (∀ i, I 36 i = f36 i) → (I 12 (b.toInt.toNat) = y0 ∧ I 13 (b.toInt.toNat) = r0 ∧ I 14 (b.toInt.toNat) = t0) → ((I 11 (o.toInt.toNat)).toInt = 0) → qm_Ru (some (L, xs)) (d + 100) cd_238 (201, [.ref 38, .int b, .int o, .int be, .int le, .int q, l6, .int ru, .int w, l9, l10, l11], [], (h.1, I, J, h.2.2.2)) Z) : ∀ (m : Nat) (I : Nat → Nat → Int32) (J : Nat → Nat → Int64) (be : Int32) (le : Int32) (w : Int32) (l9 l10 l11 : Value), hk_B I → (∀ o, [11, 12, 13, 14, 28, 34, 36, 37, 39, 192, 193, 194, 195, 196, 197, 198, 199, 200, 201, 202, 203, 204, 205, 206, 207, 208, 209, 210, 211, 212, 213, 214, 215, 216, 217, 218, 219, 220, 221, 222, 223, 224, 225, 226, 227, 228, 229, 230, 231, 232, 233].contains o = false → ∀ i, I o i = h.2.1 o i) → (v_C I) → ((I 11 (b.toInt.toNat)).toInt = 1) → (∀ i, I 36 i = f36 i) → (I 12 (b.toInt.toNat) = y0 ∧ I 13 (b.toInt.toNat) = r0 ∧ I 14 (b.toInt.toNat) = t0) → ((I 11 (o.toInt.toNat)).toInt = 0) → ((0 : Int) ≤ w.toInt ∧ w.toInt ≤ 20) → (20 - w.toInt).toNat = m → qm_Ru (some (L, xs)) (d + 100) cd_238 (88, [.ref 38, .int b, .int o, .int be, .int le, .int q, l6, .int ru, .int w, l9, l10, l11], [], (h.1, I, J, h.2.2.2)) Z := by
  intro m
  induction m using Nat.strongRecOn with
  | ind m ih =>
    intro I J be le w l9 l10 l11 hBI e hVI h1 h36 hyb ho hw hm
    refine qm_Ru.go 1 (c' := (90, [.ref 38, .int b, .int o, .int be, .int le, .int q, l6, .int ru, .int w, l9, l10, l11], [.int w], (h.1, I, J, h.2.2.2))) rfl ?_
    have hne : b.toInt.toNat ≠ o.toInt.toNat := by omega
    obtain ⟨v1, q_v1⟩ : ∃ v, I 11 (o.toInt.toNat) = v := ⟨_, rfl⟩
    have f_v1 : v1.toInt = 0 := by rw [← q_v1]; exact ho
    refine qm_Ru.go 1 (c' := (91, [.ref 38, .int b, .int o, .int be, .int le, .int q, l6, .int ru, .int w, l9, l10, l11], [.ref 38, .int w], (h.1, I, J, h.2.2.2))) rfl ?_
    refine hk_getr rfl (hH.1 38 (10, 5) rfl) rfl (hH.2 38 1 (some 28) rfl) ?_
    refine qm_Ru.go 0 (c' := (94, [.ref 38, .int b, .int o, .int be, .int le, .int q, l6, .int ru, .int w, l9, l10, l11], [.ref 28, .int w], (h.1, I, J, h.2.2.2))) rfl ?_
    refine hk_getr rfl (hH.1 28 (9, 8) rfl) rfl hT.2 ?_
    refine qm_Ru.go 0 (c' := (97, [.ref 38, .int b, .int o, .int be, .int le, .int q, l6, .int ru, .int w, l9, l10, l11], [.ref 29, .int w], (h.1, I, J, h.2.2.2))) rfl ?_
    obtain ⟨v2, q_v2⟩ : ∃ v, h.2.1 29 0 = v := ⟨_, rfl⟩
    have b_v2 : (2 : Int) ≤ v2.toInt ∧ v2.toInt ≤ 5 := by rw [← q_v2]; exact hB 29 0
    refine hk_geti (v := v2) rfl (hH.1 29 (11, 16) rfl) rfl (show (I) 29 0 = _ from ((e 29 rfl 0).trans q_v2)) ?_
    refine qm_Ru.go 2 (c' := (102, [.ref 38, .int b, .int o, .int be, .int le, .int q, l6, .int ru, .int w, l9, l10, l11], [.int (v2 * 4), .int w], (h.1, I, J, h.2.2.2))) rfl ?_
    obtain ⟨v3, q_v3, e_v3⟩ := hk_mul (x := v2) (y := 4) (a := v2.toInt) (b := 4) rfl rfl (by omega) (by omega)
    rw [q_v3]
    refine hk_cge (ix := w.toInt) (iy := v3.toInt) rfl rfl rfl (fun z4 => ?_) (fun z4 => ?_)
    · refine qm_Ru.go 0 (c' := (201, [.ref 38, .int b, .int o, .int be, .int le, .int q, l6, .int ru, .int w, l9, l10, l11], [], (h.1, I, J, h.2.2.2))) rfl ?_
      exact ko (I) (J) be le w l9 l10 l11 hBI (fun o ho i => (e o ho i)) hVI ((congrArg Int32.toInt rfl).trans h1) (fun i => (h36 i)) ⟨(rfl).trans hyb.1, (rfl).trans hyb.2.1, (rfl).trans hyb.2.2⟩ ((congrArg Int32.toInt q_v1).trans (by omega))
    · refine qm_Ru.go 1 (c' := (106, [.ref 38, .int b, .int o, .int be, .int le, .int q, l6, .int ru, .int w, l9, l10, l11], [.ref 38], (h.1, I, J, h.2.2.2))) rfl ?_
      refine hk_getr rfl (hH.1 38 (10, 5) rfl) rfl (hH.2 38 1 (some 28) rfl) ?_
      refine qm_Ru.go 4 (c' := (114, [.ref 38, .int b, .int o, .int be, .int le, .int q, l6, .int ru, .int w, l9, l10, l11], [.int (w / 4), .int o, .ref 28], (h.1, I, J, h.2.2.2))) rfl ?_
      obtain ⟨v5, q_v5, e_v5⟩ := hk_div (x := w) (y := 4) (a := w.toInt) (b := 4) rfl rfl (by omega) (by omega)
      rw [q_v5]
      refine qm_Ru.go 3 (c' := (118, [.ref 38, .int b, .int o, .int be, .int le, .int q, l6, .int ru, .int w, l9, l10, l11], [.int (w - w / 4 * 4), .int v5, .int o, .ref 28], (h.1, I, J, h.2.2.2))) rfl ?_
      obtain ⟨v6, q_v6, e_v6⟩ := hk_rem (x := w) (y := 4) (a := w.toInt) (b := 4) rfl rfl (by omega) (by omega)
      rw [q_v6]
      refine hk_inv (o := 28) (r := []) (as := [.ref 28, .int o, .int v5, .int v6]) rfl rfl (hH.1 28 (9, 8) rfl) rfl rfl rfl rfl (hq_try29 (h := (h.1, I, J, h.2.2.2)) h6 hH hT hBI hVI (b := o) (y := v5) (r := v6) (fun v7 J8 c_v7 d_v7 => ?_) (fun t9 J10 f11 g12 => ?_))
      · refine qm_Ru.go 2 (c' := (125, [.ref 38, .int b, .int o, .int be, .int le, .int q, l6, .int ru, .int w, .int v7, l10, l11], [.int v7], (h.1, I, J8, h.2.2.2))) rfl ?_
        refine hk_zge (ix := v7.toInt) rfl rfl (fun z13 => by exfalso; omega) (fun z13 => ?_)
        refine qm_Ru.go 2 (c' := (198, [.ref 38, .int b, .int o, .int be, .int le, .int q, l6, .int ru, .int (w + 1), .int v7, l10, l11], [], (h.1, I, J8, h.2.2.2))) rfl ?_
        obtain ⟨v14, q_v14, e_v14⟩ := hk_add (x := w) (y := 1) (a := w.toInt) (b := 1) rfl rfl (by omega) (by omega)
        rw [q_v14]
        refine qm_Ru.go 1 (c' := (88, [.ref 38, .int b, .int o, .int be, .int le, .int q, l6, .int ru, .int v14, .int v7, l10, l11], [], (h.1, I, J8, h.2.2.2))) rfl ?_
        exact ih _ (by omega) (I) (J8) be le v14 (.int v7) l10 l11 hBI (fun o ho i => (e o ho i)) hVI ((congrArg Int32.toInt rfl).trans h1) (fun i => (h36 i)) ⟨(rfl).trans hyb.1, (rfl).trans hyb.2.1, (rfl).trans hyb.2.2⟩ ((congrArg Int32.toInt q_v1).trans (by omega)) (by omega) rfl
      · obtain ⟨f11_y, f11_r, f11_t, f11_f, f11_b⟩ := f11
        obtain ⟨g12_b, g12_n, _⟩ := g12
        refine qm_Ru.go 2 (c' := (125, [.ref 38, .int b, .int o, .int be, .int le, .int q, l6, .int ru, .int w, .int t9, l10, l11], [.int t9], (h.1, I, J10, h.2.2.2))) rfl ?_
        refine hk_zge (ix := t9.toInt) rfl rfl (fun z15 => ?_) (fun z15 => by exfalso; omega)
        refine qm_Ru.go 3 (c' := (135, [.ref 38, .int b, .int o, .int be, .int le, .int q, l6, .int ru, .int w, .int t9, l10, l11], [.int (w * 4)], (h.1, I, J10, h.2.2.2))) rfl ?_
        obtain ⟨v16, q_v16, e_v16⟩ := hk_mul (x := w) (y := 4) (a := w.toInt) (b := 4) rfl rfl (by omega) (by omega)
        rw [q_v16]
        refine qm_Ru.go 2 (c' := (138, [.ref 38, .int b, .int o, .int be, .int le, .int q, l6, .int ru, .int w, .int t9, l10, l11], [.int (v16 + t9)], (h.1, I, J10, h.2.2.2))) rfl ?_
        obtain ⟨v17, q_v17, e_v17⟩ := hk_add (x := v16) (y := t9) (a := v16.toInt) (b := t9.toInt) rfl rfl (by omega) (by omega)
        rw [q_v17]
        refine qm_Ru.go 3 (c' := (143, [.ref 38, .int b, .int o, .int be, .int le, .int q, l6, .int ru, .int w, .int t9, .int v17, l11], [.ref 38, .int ru], (h.1, I, J10, h.2.2.2))) rfl ?_
        refine hk_getr rfl (hH.1 38 (10, 5) rfl) rfl (hH.2 38 2 (some 39) rfl) ?_
        refine qm_Ru.go 1 (c' := (148, [.ref 38, .int b, .int o, .int be, .int le, .int q, l6, .int ru, .int w, .int t9, .int v17, l11], [.int v17, .ref 39, .int ru], (h.1, I, J10, h.2.2.2))) rfl ?_
        obtain ⟨v18, q_v18⟩ : ∃ v, I 39 (v17.toInt.toNat) = v := ⟨_, rfl⟩
        refine hk_ial (v := v18) rfl (hH.1 39 (0, 80) rfl) (by omega) (by omega) q_v18 ?_
        refine qm_Ru.go 1 (c' := (150, [.ref 38, .int b, .int o, .int be, .int le, .int q, l6, .int ru, .int w, .int t9, .int v17, l11], [.int (ru + v18)], (h.1, I, J10, h.2.2.2))) rfl ?_
        obtain ⟨v19, q_v19⟩ : ∃ v, (ru + v18) = v := ⟨_, rfl⟩
        rw [q_v19]
        refine qm_Ru.go 4 (c' := (155, [.ref 38, .int b, .int o, .int be, .int le, .int q, l6, .int ru, .int w, .int t9, .int v17, l11], [.int b, .int v17, .int o, .ref 38, .int v19], (h.1, I, J10, h.2.2.2))) rfl ?_
        refine hk_inv (o := 38) (r := [.int v19]) (as := [.ref 38, .int o, .int v17, .int b]) rfl rfl (hH.1 38 (10, 5) rfl) rfl rfl rfl rfl (hs_brw29 (h := (h.1, I, J10, h.2.2.2)) h6 hH hT hBI (v_C_ru hVI) ⟨by show (0 : Int) ≤ o.toInt; omega, by show o.toInt ≤ (29 : Int); omega⟩ ⟨by show (0 : Int) ≤ v17.toInt; omega, by show v17.toInt ≤ (79 : Int); omega⟩ ⟨by show (0 : Int) ≤ b.toInt; omega, by show b.toInt ≤ (29 : Int); omega⟩ (wS_same hW rfl rfl) (by omega) (fun v22 I20 J21 _ hB_I20 e_I20 => ?_))
        have hV_I20 : v_C I20 := v_C_cg9 hVI (fun o ho i => e_I20 o (q9_brw29 ho) i)
        refine qm_Ru.go 1 (c' := (159, [.ref 38, .int b, .int o, .int be, .int le, .int q, l6, .int ru, .int w, .int t9, .int v17, l11], [.int (v19 + v22)], (h.1, I20, J21, h.2.2.2))) rfl ?_
        obtain ⟨v23, q_v23⟩ : ∃ v, (v19 + v22) = v := ⟨_, rfl⟩
        rw [q_v23]
        refine qm_Ru.go 3 (c' := (163, [.ref 38, .int b, .int o, .int be, .int le, .int q, l6, .int ru, .int w, .int t9, .int v17, l11], [.int v17, .int o, .ref 38, .int v23], (h.1, I20, J21, h.2.2.2))) rfl ?_
        obtain ⟨v24, q_v24⟩ : ∃ v, h.2.1 6 0 = v := ⟨_, rfl⟩
        have b_v24 : (0 : Int) ≤ v24.toInt ∧ v24.toInt ≤ 30 := by rw [← q_v24]; exact hB 6 0
        refine hk_inv (o := 38) (r := [.int v23]) (as := [.ref 38, .int o, .int v17]) rfl rfl (hH.1 38 (10, 5) rfl) rfl rfl rfl rfl (hs_ovw (h := (h.1, I20, J21, h.2.2.2)) h6 hH hB_I20 hV_I20 (b := o) (x := v17) (n := pI I 6 0) (by omega) (by omega) (by show (I20 6 0).toInt = pI I 6 0; rw [e_I20 6 rfl 0]; exact rfl) g12_n ((congrArg Int32.toInt (show (I20) 11 (o.toInt.toNat) = _ from ((e_I20 11 rfl (o.toInt.toNat)).trans q_v1))).trans (by omega)) (by show (I20 36 v17.toInt.toNat).toInt = -1; rw [e_I20 36 rfl _]; exact (show pI I 36 v17.toInt.toNat = -1 from by rw [show v17.toInt.toNat = (16 * v5.toInt + 4 * v6.toInt + t9.toInt).toNat from by omega]; exact f11_f)) (fun c => by show 0 ≤ (I20 36 (v17.toInt - 1).toNat).toInt; rw [e_I20 36 rfl _]; exact (show 0 ≤ pI I 36 (v17.toInt - 1).toNat from by rw [show (v17.toInt - 1).toNat = (16 * v5.toInt + 4 * v6.toInt + t9.toInt - 1).toNat from by omega]; exact f11_b (by omega))) (fun v27 I25 J26 hB_I25 hV_I25 p_I25 e_I25 s_I25 o_I25 => ?_))
        obtain ⟨v28, q_v28⟩ : ∃ v, I25 11 (o.toInt.toNat) = v := ⟨_, rfl⟩
        have f_v28 : v28.toInt = 0 := by rw [← q_v28]; exact p_I25
        refine qm_Ru.go 1 (c' := (167, [.ref 38, .int b, .int o, .int be, .int le, .int q, l6, .int ru, .int w, .int t9, .int v17, l11], [.int (v23 + v27)], (h.1, I25, J26, h.2.2.2))) rfl ?_
        obtain ⟨v29, q_v29⟩ : ∃ v, (v23 + v27) = v := ⟨_, rfl⟩
        rw [q_v29]
        refine qm_Ru.go 3 (c' := (173, [.ref 38, .int b, .int o, .int be, .int le, .int q, l6, .int ru, .int w, .int t9, .int v17, .int v29], [.int le, .int v29], (h.1, I25, J26, h.2.2.2))) rfl ?_
        refine hk_cge (ix := v29.toInt) (iy := le.toInt) rfl rfl rfl (fun z30 => ?_) (fun z30 => ?_)
        · refine qm_Ru.go 1 (c' := (198, [.ref 38, .int b, .int o, .int be, .int le, .int q, l6, .int ru, .int (w + 1), .int t9, .int v17, .int v29], [], (h.1, I25, J26, h.2.2.2))) rfl ?_
          obtain ⟨v31, q_v31, e_v31⟩ := hk_add (x := w) (y := 1) (a := w.toInt) (b := 1) rfl rfl (by omega) (by omega)
          rw [q_v31]
          refine qm_Ru.go 1 (c' := (88, [.ref 38, .int b, .int o, .int be, .int le, .int q, l6, .int ru, .int v31, .int t9, .int v17, .int v29], [], (h.1, I25, J26, h.2.2.2))) rfl ?_
          exact ih _ (by omega) (I25) (J26) be le v31 (.int t9) (.int v17) (.int v29) hB_I25 (fun o ho i => ((e_I25 o (hk_ms rfl ho) i).trans ((e_I20 o (hk_ms rfl ho) i).trans (e o ho i)))) hV_I25 ((congrArg Int32.toInt (((o_I25 b.toInt.toNat hne).1).trans ((e_I20 11 rfl (b.toInt.toNat)).trans rfl))).trans h1) (fun i => ((s_I25 i).trans ((e_I20 36 rfl i).trans (h36 i)))) ⟨((((o_I25 b.toInt.toNat hne).2.1).trans ((e_I20 12 rfl (b.toInt.toNat)).trans rfl))).trans hyb.1, ((((o_I25 b.toInt.toNat hne).2.2.1).trans ((e_I20 13 rfl (b.toInt.toNat)).trans rfl))).trans hyb.2.1, ((((o_I25 b.toInt.toNat hne).2.2.2).trans ((e_I20 14 rfl (b.toInt.toNat)).trans rfl))).trans hyb.2.2⟩ ((congrArg Int32.toInt q_v28).trans (by omega)) (by omega) rfl
        · refine qm_Ru.go 4 (c' := (184, [.ref 38, .int b, .int o, .int be, .int v29, .int q, l6, .int ru, .int w, .int t9, .int v17, .int v29], [.int q, .int 100], (h.1, I25, J26, h.2.2.2))) rfl ?_
          refine qm_Ru.call (j := 235) (as := [.int q]) (c' := (187, [.ref 38, .int b, .int o, .int be, .int v29, .int q, l6, .int ru, .int w, .int t9, .int v17, .int v29], [.int 100], (h.1, I25, J26, h.2.2.2))) rfl rfl rfl ?_
          refine qm_Ru.go 4 (c' := (5, [.int q], [.int (q / 4), .int 10], (h.1, I25, J26, h.2.2.2))) rfl ?_
          obtain ⟨v32, q_v32, e_v32⟩ := hk_div (x := q) (y := 4) (a := q.toInt) (b := 4) rfl rfl (by omega) (by omega)
          rw [q_v32]
          refine qm_Ru.go 1 (c' := (6, [.int q], [.int (10 * v32)], (h.1, I25, J26, h.2.2.2))) rfl ?_
          obtain ⟨v33, q_v33, e_v33⟩ := hk_mul (x := 10) (y := v32) (a := 10) (b := v32.toInt) rfl rfl (by omega) (by omega)
          rw [q_v33]
          refine qm_Ru.go 3 (c' := (9, [.int q], [.int (q - q / 4 * 4), .int v33], (h.1, I25, J26, h.2.2.2))) rfl ?_
          obtain ⟨v34, q_v34, e_v34⟩ := hk_rem (x := q) (y := 4) (a := q.toInt) (b := 4) rfl rfl (by omega) (by omega)
          rw [q_v34]
          refine qm_Ru.go 1 (c' := (10, [.int q], [.int (v33 + v34)], (h.1, I25, J26, h.2.2.2))) rfl ?_
          obtain ⟨v35, q_v35, e_v35⟩ := hk_add (x := v33) (y := v34) (a := v33.toInt) (b := v34.toInt) rfl rfl (by omega) (by omega)
          rw [q_v35]
          refine qm_Ru.rt (v := (some (.int v35))) (h' := (h.1, I25, J26, h.2.2.2)) rfl ?_
          refine qm_Ru.go 1 (c' := (188, [.ref 38, .int b, .int o, .int be, .int v29, .int q, l6, .int ru, .int w, .int t9, .int v17, .int v29], [.int (100 * v35)], (h.1, I25, J26, h.2.2.2))) rfl ?_
          obtain ⟨v36, q_v36, e_v36⟩ := hk_mul (x := 100) (y := v35) (a := 100) (b := v35.toInt) rfl rfl (by omega) (by omega)
          rw [q_v36]
          refine qm_Ru.go 1 (c' := (190, [.ref 38, .int b, .int o, .int be, .int v29, .int q, l6, .int ru, .int w, .int t9, .int v17, .int v29], [.int w, .int v36], (h.1, I25, J26, h.2.2.2))) rfl ?_
          refine qm_Ru.call (j := 235) (as := [.int w]) (c' := (193, [.ref 38, .int b, .int o, .int be, .int v29, .int q, l6, .int ru, .int w, .int t9, .int v17, .int v29], [.int v36], (h.1, I25, J26, h.2.2.2))) rfl rfl rfl ?_
          refine qm_Ru.go 4 (c' := (5, [.int w], [.int (w / 4), .int 10], (h.1, I25, J26, h.2.2.2))) rfl ?_
          rw [q_v5]
          refine qm_Ru.go 1 (c' := (6, [.int w], [.int (10 * v5)], (h.1, I25, J26, h.2.2.2))) rfl ?_
          obtain ⟨v38, q_v38, e_v38⟩ := hk_mul (x := 10) (y := v5) (a := 10) (b := v5.toInt) rfl rfl (by omega) (by omega)
          rw [q_v38]
          refine qm_Ru.go 3 (c' := (9, [.int w], [.int (w - w / 4 * 4), .int v38], (h.1, I25, J26, h.2.2.2))) rfl ?_
          rw [q_v6]
          refine qm_Ru.go 1 (c' := (10, [.int w], [.int (v38 + v6)], (h.1, I25, J26, h.2.2.2))) rfl ?_
          obtain ⟨v40, q_v40, e_v40⟩ := hk_add (x := v38) (y := v6) (a := v38.toInt) (b := v6.toInt) rfl rfl (by omega) (by omega)
          rw [q_v40]
          refine qm_Ru.rt (v := (some (.int v40))) (h' := (h.1, I25, J26, h.2.2.2)) rfl ?_
          refine qm_Ru.go 1 (c' := (194, [.ref 38, .int b, .int o, .int be, .int v29, .int q, l6, .int ru, .int w, .int t9, .int v17, .int v29], [.int (v36 + v40)], (h.1, I25, J26, h.2.2.2))) rfl ?_
          obtain ⟨v41, q_v41, e_v41⟩ := hk_add (x := v36) (y := v40) (a := v36.toInt) (b := v40.toInt) rfl rfl (by omega) (by omega)
          rw [q_v41]
          refine qm_Ru.go 2 (c' := (198, [.ref 38, .int b, .int o, .int v41, .int v29, .int q, l6, .int ru, .int (w + 1), .int t9, .int v17, .int v29], [], (h.1, I25, J26, h.2.2.2))) rfl ?_
          obtain ⟨v42, q_v42, e_v42⟩ := hk_add (x := w) (y := 1) (a := w.toInt) (b := 1) rfl rfl (by omega) (by omega)
          rw [q_v42]
          refine qm_Ru.go 1 (c' := (88, [.ref 38, .int b, .int o, .int v41, .int v29, .int q, l6, .int ru, .int v42, .int t9, .int v17, .int v29], [], (h.1, I25, J26, h.2.2.2))) rfl ?_
          exact ih _ (by omega) (I25) (J26) v41 v29 v42 (.int t9) (.int v17) (.int v29) hB_I25 (fun o ho i => ((e_I25 o (hk_ms rfl ho) i).trans ((e_I20 o (hk_ms rfl ho) i).trans (e o ho i)))) hV_I25 ((congrArg Int32.toInt (((o_I25 b.toInt.toNat hne).1).trans ((e_I20 11 rfl (b.toInt.toNat)).trans rfl))).trans h1) (fun i => ((s_I25 i).trans ((e_I20 36 rfl i).trans (h36 i)))) ⟨((((o_I25 b.toInt.toNat hne).2.1).trans ((e_I20 12 rfl (b.toInt.toNat)).trans rfl))).trans hyb.1, ((((o_I25 b.toInt.toNat hne).2.2.1).trans ((e_I20 13 rfl (b.toInt.toNat)).trans rfl))).trans hyb.2.1, ((((o_I25 b.toInt.toNat hne).2.2.2).trans ((e_I20 14 rfl (b.toInt.toNat)).trans rfl))).trans hyb.2.2⟩ ((congrArg Int32.toInt q_v28).trans (by omega)) (by omega) rfl
theorem hl_ctwo2_29 {L : Nat} {xs : Nat → Int32} {d : Nat} {Z : Option Value → qm_H → Prop} {h : qm_H} (h6 : 6 ≤ L) (hH : hk_H h) (hB : hk_B h.2.1) (hT : h.2.2.2 0 9 = some 111 ∧ h.2.2.2 28 2 = some 29) (hW : wS h 29) {b o : Int32} (b_b : (0 : Int) ≤ b.toInt ∧ b.toInt ≤ 29) (b_o : (0 : Int) ≤ o.toInt ∧ o.toInt ≤ 29) (hbo : b.toInt ≠ o.toInt) (k : ∀ (v : Int32) (I : Nat → Nat → Int32) (J : Nat → Nat → Int64), hk_B I → v_C I → (∀ o, [11, 12, 13, 14, 28, 34, 36, 37, 39, 192, 193, 194, 195, 196, 197, 198, 199, 200, 201, 202, 203, 204, 205, 206, 207, 208, 209, 210, 211, 212, 213, 214, 215, 216, 217, 218, 219, 220, 221, 222, 223, 224, 225, 226, 227, 228, 229, 230, 231, 232, 233].contains o = false → ∀ i, I o i = h.2.1 o i) → Z (some (.int v)) (h.1, I, J, h.2.2.2)) : ∀ (m : Nat) (I : Nat → Nat → Int32) (J : Nat → Nat → Int64) (be : Int32) (le : Int32) (q : Int32) (l6 l7 l8 l9 l10 l11 : Value), hk_B I → (∀ o, [11, 12, 13, 14, 28, 34, 36, 37, 39, 192, 193, 194, 195, 196, 197, 198, 199, 200, 201, 202, 203, 204, 205, 206, 207, 208, 209, 210, 211, 212, 213, 214, 215, 216, 217, 218, 219, 220, 221, 222, 223, 224, 225, 226, 227, 228, 229, 230, 231, 232, 233].contains o = false → ∀ i, I o i = h.2.1 o i) → (v_C I) → ((I 11 (b.toInt.toNat)).toInt = 0) → ((I 11 (o.toInt.toNat)).toInt = 0) → ((0 : Int) ≤ q.toInt ∧ q.toInt ≤ 20) → (20 - q.toInt).toNat = m → qm_Ru (some (L, xs)) (d + 100) cd_238 (10, [.ref 38, .int b, .int o, .int be, .int le, .int q, l6, l7, l8, l9, l10, l11], [], (h.1, I, J, h.2.2.2)) Z := by
  intro m
  induction m using Nat.strongRecOn with
  | ind m ih =>
    intro I J be le q l6 l7 l8 l9 l10 l11 hBI e hVI h1 ho hq hm
    refine qm_Ru.go 1 (c' := (12, [.ref 38, .int b, .int o, .int be, .int le, .int q, l6, l7, l8, l9, l10, l11], [.int q], (h.1, I, J, h.2.2.2))) rfl ?_
    have hne : b.toInt.toNat ≠ o.toInt.toNat := by omega
    obtain ⟨v1, q_v1⟩ : ∃ v, I 11 (b.toInt.toNat) = v := ⟨_, rfl⟩
    have f_v1 : v1.toInt = 0 := by rw [← q_v1]; exact h1
    obtain ⟨v2, q_v2⟩ : ∃ v, I 11 (o.toInt.toNat) = v := ⟨_, rfl⟩
    have f_v2 : v2.toInt = 0 := by rw [← q_v2]; exact ho
    refine qm_Ru.go 1 (c' := (13, [.ref 38, .int b, .int o, .int be, .int le, .int q, l6, l7, l8, l9, l10, l11], [.ref 38, .int q], (h.1, I, J, h.2.2.2))) rfl ?_
    refine hk_getr rfl (hH.1 38 (10, 5) rfl) rfl (hH.2 38 1 (some 28) rfl) ?_
    refine qm_Ru.go 0 (c' := (16, [.ref 38, .int b, .int o, .int be, .int le, .int q, l6, l7, l8, l9, l10, l11], [.ref 28, .int q], (h.1, I, J, h.2.2.2))) rfl ?_
    refine hk_getr rfl (hH.1 28 (9, 8) rfl) rfl hT.2 ?_
    refine qm_Ru.go 0 (c' := (19, [.ref 38, .int b, .int o, .int be, .int le, .int q, l6, l7, l8, l9, l10, l11], [.ref 29, .int q], (h.1, I, J, h.2.2.2))) rfl ?_
    obtain ⟨v3, q_v3⟩ : ∃ v, h.2.1 29 0 = v := ⟨_, rfl⟩
    have b_v3 : (2 : Int) ≤ v3.toInt ∧ v3.toInt ≤ 5 := by rw [← q_v3]; exact hB 29 0
    refine hk_geti (v := v3) rfl (hH.1 29 (11, 16) rfl) rfl (show (I) 29 0 = _ from ((e 29 rfl 0).trans q_v3)) ?_
    refine qm_Ru.go 2 (c' := (24, [.ref 38, .int b, .int o, .int be, .int le, .int q, l6, l7, l8, l9, l10, l11], [.int (v3 * 4), .int q], (h.1, I, J, h.2.2.2))) rfl ?_
    obtain ⟨v4, q_v4, e_v4⟩ := hk_mul (x := v3) (y := 4) (a := v3.toInt) (b := 4) rfl rfl (by omega) (by omega)
    rw [q_v4]
    refine hk_cge (ix := q.toInt) (iy := v4.toInt) rfl rfl rfl (fun z5 => ?_) (fun z5 => ?_)
    · refine qm_Ru.go 1 (c' := (216, [.ref 38, .int b, .int o, .int be, .int le, .int q, l6, l7, l8, l9, l10, l11], [.int be], (h.1, I, J, h.2.2.2))) rfl ?_
      refine qm_Ru.rt (v := (some (.int be))) (h' := (h.1, I, J, h.2.2.2)) rfl ?_
      exact k be (I) (J) hBI hVI (fun o ho i => (e o ho i))
    · refine qm_Ru.go 1 (c' := (28, [.ref 38, .int b, .int o, .int be, .int le, .int q, l6, l7, l8, l9, l10, l11], [.ref 38], (h.1, I, J, h.2.2.2))) rfl ?_
      refine hk_getr rfl (hH.1 38 (10, 5) rfl) rfl (hH.2 38 1 (some 28) rfl) ?_
      refine qm_Ru.go 4 (c' := (36, [.ref 38, .int b, .int o, .int be, .int le, .int q, l6, l7, l8, l9, l10, l11], [.int (q / 4), .int b, .ref 28], (h.1, I, J, h.2.2.2))) rfl ?_
      obtain ⟨v6, q_v6, e_v6⟩ := hk_div (x := q) (y := 4) (a := q.toInt) (b := 4) rfl rfl (by omega) (by omega)
      rw [q_v6]
      refine qm_Ru.go 3 (c' := (40, [.ref 38, .int b, .int o, .int be, .int le, .int q, l6, l7, l8, l9, l10, l11], [.int (q - q / 4 * 4), .int v6, .int b, .ref 28], (h.1, I, J, h.2.2.2))) rfl ?_
      obtain ⟨v7, q_v7, e_v7⟩ := hk_rem (x := q) (y := 4) (a := q.toInt) (b := 4) rfl rfl (by omega) (by omega)
      rw [q_v7]
      refine hk_inv (o := 28) (r := []) (as := [.ref 28, .int b, .int v6, .int v7]) rfl rfl (hH.1 28 (9, 8) rfl) rfl rfl rfl rfl (hq_try29 (h := (h.1, I, J, h.2.2.2)) h6 hH hT hBI hVI (b := b) (y := v6) (r := v7) (fun v8 J9 c_v8 d_v8 => ?_) (fun t10 J11 f12 g13 => ?_))
      · refine qm_Ru.go 2 (c' := (47, [.ref 38, .int b, .int o, .int be, .int le, .int q, .int v8, l7, l8, l9, l10, l11], [.int v8], (h.1, I, J9, h.2.2.2))) rfl ?_
        refine hk_zge (ix := v8.toInt) rfl rfl (fun z14 => by exfalso; omega) (fun z14 => ?_)
        refine qm_Ru.go 2 (c' := (212, [.ref 38, .int b, .int o, .int be, .int le, .int (q + 1), .int v8, l7, l8, l9, l10, l11], [], (h.1, I, J9, h.2.2.2))) rfl ?_
        obtain ⟨v15, q_v15, e_v15⟩ := hk_add (x := q) (y := 1) (a := q.toInt) (b := 1) rfl rfl (by omega) (by omega)
        rw [q_v15]
        refine qm_Ru.go 1 (c' := (10, [.ref 38, .int b, .int o, .int be, .int le, .int v15, .int v8, l7, l8, l9, l10, l11], [], (h.1, I, J9, h.2.2.2))) rfl ?_
        exact ih _ (by omega) (I) (J9) be le v15 (.int v8) l7 l8 l9 l10 l11 hBI (fun o ho i => (e o ho i)) hVI ((congrArg Int32.toInt q_v1).trans (by omega)) ((congrArg Int32.toInt q_v2).trans (by omega)) (by omega) rfl
      · obtain ⟨f12_y, f12_r, f12_t, f12_f, f12_b⟩ := f12
        obtain ⟨g13_b, g13_n, _⟩ := g13
        refine qm_Ru.go 2 (c' := (47, [.ref 38, .int b, .int o, .int be, .int le, .int q, .int t10, l7, l8, l9, l10, l11], [.int t10], (h.1, I, J11, h.2.2.2))) rfl ?_
        refine hk_zge (ix := t10.toInt) rfl rfl (fun z16 => ?_) (fun z16 => by exfalso; omega)
        refine qm_Ru.go 5 (c' := (59, [.ref 38, .int b, .int o, .int be, .int le, .int q, .int t10, l7, l8, l9, l10, l11], [.int (q * 4), .int b, .ref 38], (h.1, I, J11, h.2.2.2))) rfl ?_
        obtain ⟨v17, q_v17, e_v17⟩ := hk_mul (x := q) (y := 4) (a := q.toInt) (b := 4) rfl rfl (by omega) (by omega)
        rw [q_v17]
        refine qm_Ru.go 2 (c' := (62, [.ref 38, .int b, .int o, .int be, .int le, .int q, .int t10, l7, l8, l9, l10, l11], [.int (v17 + t10), .int b, .ref 38], (h.1, I, J11, h.2.2.2))) rfl ?_
        obtain ⟨v18, q_v18, e_v18⟩ := hk_add (x := v17) (y := t10) (a := v17.toInt) (b := t10.toInt) rfl rfl (by omega) (by omega)
        rw [q_v18]
        refine hk_inv (o := 38) (r := []) (as := [.ref 38, .int b, .int v18]) rfl rfl (hH.1 38 (10, 5) rfl) rfl rfl rfl rfl (hs_brk29 (h := (h.1, I, J11, h.2.2.2)) h6 hH hT hBI (v_C_ru hVI) ⟨by show (0 : Int) ≤ b.toInt; omega, by show b.toInt ≤ (29 : Int); omega⟩ ⟨by show (0 : Int) ≤ v18.toInt; omega, by show v18.toInt ≤ (79 : Int); omega⟩ (wS_same hW rfl rfl) (by omega) (fun v21 I19 J20 _ hB_I19 e_I19 => ?_))
        have hV_I19 : v_C I19 := v_C_cg9 hVI (fun o ho i => e_I19 o (q9_brk29 ho) i)
        refine qm_Ru.go 2 (c' := (68, [.ref 38, .int b, .int o, .int be, .int le, .int q, .int t10, .int v21, l8, l9, l10, l11], [.ref 38], (h.1, I19, J20, h.2.2.2))) rfl ?_
        refine hk_getr rfl (hH.1 38 (10, 5) rfl) rfl (hH.2 38 1 (some 28) rfl) ?_
        refine qm_Ru.go 4 (c' := (76, [.ref 38, .int b, .int o, .int be, .int le, .int q, .int t10, .int v21, l8, l9, l10, l11], [.int (q / 4), .int b, .ref 28], (h.1, I19, J20, h.2.2.2))) rfl ?_
        rw [q_v6]
        refine qm_Ru.go 3 (c' := (80, [.ref 38, .int b, .int o, .int be, .int le, .int q, .int t10, .int v21, l8, l9, l10, l11], [.int (q - q / 4 * 4), .int v6, .int b, .ref 28], (h.1, I19, J20, h.2.2.2))) rfl ?_
        rw [q_v7]
        refine qm_Ru.go 1 (c' := (82, [.ref 38, .int b, .int o, .int be, .int le, .int q, .int t10, .int v21, l8, l9, l10, l11], [.int t10, .int v7, .int v6, .int b, .ref 28], (h.1, I19, J20, h.2.2.2))) rfl ?_
        refine hk_inv (o := 28) (r := []) (as := [.ref 28, .int b, .int v6, .int v7, .int t10]) rfl rfl (hH.1 28 (9, 8) rfl) rfl rfl rfl rfl (hm_sput (h := (h.1, I19, J20, h.2.2.2)) hH (b := b) (y := v6) (r := v7) (t := t10) (by omega) (by omega) (by omega) (by omega) (fun v24 v25 v26 v27 e_v24 => ?_))
        refine qm_Ru.go 2 (c' := (88, [.ref 38, .int b, .int o, .int be, .int le, .int q, .int t10, .int v21, .int 0, l9, l10, l11], [], (h.1, qm_up (qm_up (qm_up (qm_up (qm_up (qm_up (qm_up (qm_up I19 36 (v24.toInt.toNat) b) 28 6 v25) 37 (v6.toInt.toNat) v26) 28 5 v27) 11 (b.toInt.toNat) 1) 12 (b.toInt.toNat) v6) 13 (b.toInt.toNat) v7) 14 (b.toInt.toNat) t10, J20, h.2.2.2))) rfl ?_
        obtain ⟨v28, q_v28⟩ : ∃ v, h.2.1 6 0 = v := ⟨_, rfl⟩
        have b_v28 : (0 : Int) ≤ v28.toInt ∧ v28.toInt ≤ 30 := by rw [← q_v28]; exact hB 6 0
        refine hl_ctwo1_29 h6 hH hB hT hW b_b b_o hbo (f36 := fun i => (qm_up (qm_up (qm_up (qm_up (qm_up (qm_up (qm_up (qm_up I19 36 (v24.toInt.toNat) b) 28 6 v25) 37 (v6.toInt.toNat) v26) 28 5 v27) 11 (b.toInt.toNat) 1) 12 (b.toInt.toNat) v6) 13 (b.toInt.toNat) v7) 14 (b.toInt.toNat) t10) 36 i) (y0 := v6) (r0 := v7) (t0 := t10) (q := q) (ru := v21) (l6 := (.int t10)) (by omega) (fun I32 J33 be le w l9 l10 l11 B31 e29 V30 h1b h36b hyb hob => ?_) _ (qm_up (qm_up (qm_up (qm_up (qm_up (qm_up (qm_up (qm_up I19 36 (v24.toInt.toNat) b) 28 6 v25) 37 (v6.toInt.toNat) v26) 28 5 v27) 11 (b.toInt.toNat) 1) 12 (b.toInt.toNat) v6) 13 (b.toInt.toNat) v7) 14 (b.toInt.toNat) t10) (J20) be le 0 l9 l10 l11 (hb_up (o := 14) (k := b.toInt.toNat) (x := t10) (hb_up (o := 13) (k := b.toInt.toNat) (x := v7) (hb_up (o := 12) (k := b.toInt.toNat) (x := v6) (hb_up (o := 11) (k := b.toInt.toNat) (x := 1) (hb_up (o := 28) (k := 5) (x := v27) (hb_up (o := 37) (k := v6.toInt.toNat) (x := v26) (hb_up (o := 28) (k := 6) (x := v25) (hb_up (o := 36) (k := v24.toInt.toNat) (x := b) hB_I19 ⟨by show (-1 : Int) ≤ b.toInt; omega, by show b.toInt ≤ (29 : Int); omega⟩) (qa_in_full _)) (qa_in_full _)) (qa_in_full _)) ⟨(show (0 : Int) ≤ 1 from by decide), (show (1 : Int) ≤ 2 from by decide)⟩) ⟨by show (-1 : Int) ≤ v6.toInt; omega, by show v6.toInt ≤ (4 : Int); omega⟩) ⟨by show (-1 : Int) ≤ v7.toInt; omega, by show v7.toInt ≤ (3 : Int); omega⟩) ⟨by show (-1 : Int) ≤ t10.toInt; omega, by show t10.toInt ≤ (3 : Int); omega⟩) (fun o ho i => ((hk_mod ho rfl).trans ((hk_mod ho rfl).trans ((hk_mod ho rfl).trans ((hk_mod ho rfl).trans ((hk_mod ho rfl).trans ((hk_mod ho rfl).trans ((hk_mod ho rfl).trans ((hk_mod ho rfl).trans ((e_I19 o (hk_ms rfl ho) i).trans (e o ho i))))))))))) ⟨⟨(mC_put (I := I19) (I' := qm_up (qm_up (qm_up (qm_up (qm_up (qm_up (qm_up (qm_up I19 36 (v24.toInt.toNat) b) 28 6 v25) 37 (v6.toInt.toNat) v26) 28 5 v27) 11 (b.toInt.toNat) 1) 12 (b.toInt.toNat) v6) 13 (b.toInt.toNat) v7) 14 (b.toInt.toNat) t10) hV_I19.1.1 ((pI_sk rfl).trans ((pI_sk rfl).trans ((pI_sk rfl).trans (pI_up.trans (congrArg (fun f => fu_up f b.toInt.toNat (Int32.toInt 1)) ((pI_sk rfl).trans ((pI_sk rfl).trans ((pI_sk rfl).trans ((pI_sk rfl).trans rfl))))))))) ((pI_sk rfl).trans ((pI_sk rfl).trans (pI_up.trans (congrArg (fun f => fu_up f b.toInt.toNat (Int32.toInt v6)) ((pI_sk rfl).trans ((pI_sk rfl).trans ((pI_sk rfl).trans ((pI_sk rfl).trans ((pI_sk rfl).trans rfl))))))))) ((pI_sk rfl).trans (pI_up.trans (congrArg (fun f => fu_up f b.toInt.toNat (Int32.toInt v7)) ((pI_sk rfl).trans ((pI_sk rfl).trans ((pI_sk rfl).trans ((pI_sk rfl).trans ((pI_sk rfl).trans ((pI_sk rfl).trans rfl))))))))) (pI_up.trans (congrArg (fun f => fu_up f b.toInt.toNat (Int32.toInt t10)) ((pI_sk rfl).trans ((pI_sk rfl).trans ((pI_sk rfl).trans ((pI_sk rfl).trans ((pI_sk rfl).trans ((pI_sk rfl).trans ((pI_sk rfl).trans rfl))))))))) ((pI_sk rfl).trans ((pI_sk rfl).trans ((pI_sk rfl).trans ((pI_sk rfl).trans ((pI_sk rfl).trans ((pI_sk rfl).trans ((pI_sk rfl).trans (pI_up.trans rfl)))))))) ((pI_sk rfl).trans ((pI_sk rfl).trans ((pI_sk rfl).trans ((pI_sk rfl).trans ((pI_sk rfl).trans ((pI_sk rfl).trans ((pI_sk rfl).trans ((pI_sk rfl).trans rfl)))))))) ((pI_sk rfl).trans ((pI_sk rfl).trans ((pI_sk rfl).trans ((pI_sk rfl).trans ((pI_sk rfl).trans ((pI_sk rfl).trans ((pI_sk rfl).trans ((pI_sk rfl).trans rfl)))))))) (congrArg Int32.toInt ((hk_ot rfl).trans ((hk_ot rfl).trans ((hk_ot rfl).trans ((hk_ot rfl).trans ((hk_ot rfl).trans ((hk_ot rfl).trans ((hk_ot rfl).trans ((hk_ot rfl).trans rfl))))))))) ((congrArg Int32.toInt (show (I19) 11 (b.toInt.toNat) = _ from ((e_I19 11 rfl (b.toInt.toNat)).trans q_v1))).trans (by omega)) (show (I19 6 0).toInt = pI I 6 0 from by rw [e_I19 6 rfl 0]; exact rfl) rfl (by omega) (by omega) (by omega) (by omega) (by omega) (by have h9 : b.toInt < pI I 6 0 := g13_n; omega)), (mB_put (I := I19) (I' := qm_up (qm_up (qm_up (qm_up (qm_up (qm_up (qm_up (qm_up I19 36 (v24.toInt.toNat) b) 28 6 v25) 37 (v6.toInt.toNat) v26) 28 5 v27) 11 (b.toInt.toNat) 1) 12 (b.toInt.toNat) v6) 13 (b.toInt.toNat) v7) 14 (b.toInt.toNat) t10) (y := v6.toInt) (r := v7.toInt) (t := t10.toInt) hV_I19.1.2 ((pI_sk rfl).trans ((pI_sk rfl).trans ((pI_sk rfl).trans ((pI_sk rfl).trans ((pI_sk rfl).trans ((pI_sk rfl).trans ((pI_sk rfl).trans (pI_up.trans rfl)))))))) (by omega) (by omega) (fun c => by show 0 ≤ (I19 36 (16 * v6.toInt + 4 * v7.toInt + t10.toInt - 1).toNat).toInt; rw [e_I19 36 rfl _]; exact f12_b (by omega)))⟩, hV_I19.2⟩ (congrArg Int32.toInt ((hk_ot rfl).trans ((hk_ot rfl).trans ((hk_ot rfl).trans (hk_same))))) (fun _ => rfl) ⟨((hk_ot rfl).trans ((hk_ot rfl).trans (hk_same))), ((hk_ot rfl).trans (hk_same)), (hk_same)⟩ ((congrArg Int32.toInt (show (qm_up (qm_up (qm_up (qm_up (qm_up (qm_up (qm_up (qm_up I19 36 (v24.toInt.toNat) b) 28 6 v25) 37 (v6.toInt.toNat) v26) 28 5 v27) 11 (b.toInt.toNat) 1) 12 (b.toInt.toNat) v6) 13 (b.toInt.toNat) v7) 14 (b.toInt.toNat) t10) 11 (o.toInt.toNat) = _ from ((hk_ot rfl).trans ((hk_ot rfl).trans ((hk_ot rfl).trans ((hk_neq (by omega)).trans ((hk_ot rfl).trans ((hk_ot rfl).trans ((hk_ot rfl).trans ((hk_ot rfl).trans ((e_I19 11 rfl (o.toInt.toNat)).trans q_v2))))))))))).trans (by omega)) (by decide) rfl
        obtain ⟨hy12, hy13, hy14⟩ := hyb
        obtain ⟨v34, q_v34⟩ : ∃ v, I32 12 (b.toInt.toNat) = v := ⟨_, rfl⟩
        have x_v34 : v34 = v6 := q_v34.symm.trans hy12
        have z_v34 : v34.toInt = v6.toInt := by rw [x_v34]
        obtain ⟨v35, q_v35⟩ : ∃ v, I32 13 (b.toInt.toNat) = v := ⟨_, rfl⟩
        have x_v35 : v35 = v7 := q_v35.symm.trans hy13
        have z_v35 : v35.toInt = v7.toInt := by rw [x_v35]
        obtain ⟨v36, q_v36⟩ : ∃ v, I32 14 (b.toInt.toNat) = v := ⟨_, rfl⟩
        have x_v36 : v36 = t10 := q_v36.symm.trans hy14
        have z_v36 : v36.toInt = t10.toInt := by rw [x_v36]
        obtain ⟨v37, q_v37⟩ : ∃ v, I32 11 (b.toInt.toNat) = v := ⟨_, rfl⟩
        have f_v37 : v37.toInt = 1 := by rw [← q_v37]; exact h1b
        obtain ⟨v38, q_v38⟩ : ∃ v, I32 11 (o.toInt.toNat) = v := ⟨_, rfl⟩
        have f_v38 : v38.toInt = 0 := by rw [← q_v38]; exact hob
        refine qm_Ru.go 1 (c' := (202, [.ref 38, .int b, .int o, .int be, .int le, .int q, .int t10, .int v21, .int w, l9, l10, l11], [.ref 38], (h.1, I32, J33, h.2.2.2))) rfl ?_
        refine hk_getr rfl (hH.1 38 (10, 5) rfl) rfl (hH.2 38 1 (some 28) rfl) ?_
        refine qm_Ru.go 1 (c' := (206, [.ref 38, .int b, .int o, .int be, .int le, .int q, .int t10, .int v21, .int w, l9, l10, l11], [.int b, .ref 28], (h.1, I32, J33, h.2.2.2))) rfl ?_
        refine hk_inv (o := 28) (r := []) (as := [.ref 28, .int b]) rfl rfl (hH.1 28 (9, 8) rfl) rfl rfl rfl rfl (hm_rem (h := (h.1, I32, J33, h.2.2.2)) hH (b := b) (y1 := v34) (r1 := v35) (t1 := v36) (by omega) q_v34 (by omega) q_v35 (by omega) q_v36 (by omega) (fun v39 v40 v41 v42 e_v39 => ?_))
        refine qm_Ru.go 1 (c' := (212, [.ref 38, .int b, .int o, .int be, .int le, .int (q + 1), .int t10, .int v21, .int w, l9, l10, l11], [], (h.1, qm_up (qm_up (qm_up (qm_up (qm_up (qm_up (qm_up (qm_up I32 36 (v39.toInt.toNat) (-1)) 28 6 v40) 37 (v34.toInt.toNat) v41) 28 5 v42) 11 (b.toInt.toNat) 0) 12 (b.toInt.toNat) (-1)) 13 (b.toInt.toNat) (-1)) 14 (b.toInt.toNat) (-1), J33, h.2.2.2))) rfl ?_
        obtain ⟨v43, q_v43, e_v43⟩ := hk_add (x := q) (y := 1) (a := q.toInt) (b := 1) rfl rfl (by omega) (by omega)
        rw [q_v43]
        refine qm_Ru.go 1 (c' := (10, [.ref 38, .int b, .int o, .int be, .int le, .int v43, .int t10, .int v21, .int w, l9, l10, l11], [], (h.1, qm_up (qm_up (qm_up (qm_up (qm_up (qm_up (qm_up (qm_up I32 36 (v39.toInt.toNat) (-1)) 28 6 v40) 37 (v34.toInt.toNat) v41) 28 5 v42) 11 (b.toInt.toNat) 0) 12 (b.toInt.toNat) (-1)) 13 (b.toInt.toNat) (-1)) 14 (b.toInt.toNat) (-1), J33, h.2.2.2))) rfl ?_
        exact ih _ (by omega) (qm_up (qm_up (qm_up (qm_up (qm_up (qm_up (qm_up (qm_up I32 36 (v39.toInt.toNat) (-1)) 28 6 v40) 37 (v34.toInt.toNat) v41) 28 5 v42) 11 (b.toInt.toNat) 0) 12 (b.toInt.toNat) (-1)) 13 (b.toInt.toNat) (-1)) 14 (b.toInt.toNat) (-1)) (J33) be le v43 (.int t10) (.int v21) (.int w) l9 l10 l11 (hb_up (o := 14) (k := b.toInt.toNat) (x := (-1)) (hb_up (o := 13) (k := b.toInt.toNat) (x := (-1)) (hb_up (o := 12) (k := b.toInt.toNat) (x := (-1)) (hb_up (o := 11) (k := b.toInt.toNat) (x := 0) (hb_up (o := 28) (k := 5) (x := v42) (hb_up (o := 37) (k := v34.toInt.toNat) (x := v41) (hb_up (o := 28) (k := 6) (x := v40) (hb_up (o := 36) (k := v39.toInt.toNat) (x := (-1)) B31 ⟨(show (-1 : Int) ≤ -1 from by decide), (show (-1 : Int) ≤ 29 from by decide)⟩) (qa_in_full _)) (qa_in_full _)) (qa_in_full _)) ⟨(show (0 : Int) ≤ 0 from by decide), (show (0 : Int) ≤ 2 from by decide)⟩) ⟨(show (-1 : Int) ≤ -1 from by decide), (show (-1 : Int) ≤ 4 from by decide)⟩) ⟨(show (-1 : Int) ≤ -1 from by decide), (show (-1 : Int) ≤ 3 from by decide)⟩) ⟨(show (-1 : Int) ≤ -1 from by decide), (show (-1 : Int) ≤ 3 from by decide)⟩) (fun o ho i => ((hk_mod ho rfl).trans ((hk_mod ho rfl).trans ((hk_mod ho rfl).trans ((hk_mod ho rfl).trans ((hk_mod ho rfl).trans ((hk_mod ho rfl).trans ((hk_mod ho rfl).trans ((hk_mod ho rfl).trans ((e29 o (hk_ms rfl ho) i).trans rfl)))))))))) ⟨⟨(mC_rem (I := I32) (I' := qm_up (qm_up (qm_up (qm_up (qm_up (qm_up (qm_up (qm_up I32 36 (v39.toInt.toNat) (-1)) 28 6 v40) 37 (v34.toInt.toNat) v41) 28 5 v42) 11 (b.toInt.toNat) 0) 12 (b.toInt.toNat) (-1)) 13 (b.toInt.toNat) (-1)) 14 (b.toInt.toNat) (-1)) V30.1.1 ((pI_sk rfl).trans ((pI_sk rfl).trans ((pI_sk rfl).trans (pI_up.trans (congrArg (fun f => fu_up f b.toInt.toNat (Int32.toInt 0)) ((pI_sk rfl).trans ((pI_sk rfl).trans ((pI_sk rfl).trans ((pI_sk rfl).trans rfl))))))))) ((pI_sk rfl).trans ((pI_sk rfl).trans (pI_up.trans (congrArg (fun f => fu_up f b.toInt.toNat (Int32.toInt ((-1)))) ((pI_sk rfl).trans ((pI_sk rfl).trans ((pI_sk rfl).trans ((pI_sk rfl).trans ((pI_sk rfl).trans rfl))))))))) ((pI_sk rfl).trans (pI_up.trans (congrArg (fun f => fu_up f b.toInt.toNat (Int32.toInt ((-1)))) ((pI_sk rfl).trans ((pI_sk rfl).trans ((pI_sk rfl).trans ((pI_sk rfl).trans ((pI_sk rfl).trans ((pI_sk rfl).trans rfl))))))))) (pI_up.trans (congrArg (fun f => fu_up f b.toInt.toNat (Int32.toInt ((-1)))) ((pI_sk rfl).trans ((pI_sk rfl).trans ((pI_sk rfl).trans ((pI_sk rfl).trans ((pI_sk rfl).trans ((pI_sk rfl).trans ((pI_sk rfl).trans rfl))))))))) ((pI_sk rfl).trans ((pI_sk rfl).trans ((pI_sk rfl).trans ((pI_sk rfl).trans ((pI_sk rfl).trans ((pI_sk rfl).trans ((pI_sk rfl).trans (pI_up.trans rfl)))))))) ((pI_sk rfl).trans ((pI_sk rfl).trans ((pI_sk rfl).trans ((pI_sk rfl).trans ((pI_sk rfl).trans ((pI_sk rfl).trans ((pI_sk rfl).trans ((pI_sk rfl).trans rfl)))))))) ((pI_sk rfl).trans ((pI_sk rfl).trans ((pI_sk rfl).trans ((pI_sk rfl).trans ((pI_sk rfl).trans ((pI_sk rfl).trans ((pI_sk rfl).trans ((pI_sk rfl).trans rfl)))))))) (congrArg Int32.toInt ((hk_ot rfl).trans ((hk_ot rfl).trans ((hk_ot rfl).trans ((hk_ot rfl).trans ((hk_ot rfl).trans ((hk_ot rfl).trans ((hk_ot rfl).trans ((hk_ot rfl).trans rfl))))))))) h1b rfl hk_m1 (by rw [show pI I32 12 (b.toInt.toNat) = v34.toInt from congrArg Int32.toInt q_v34, show pI I32 13 (b.toInt.toNat) = v35.toInt from congrArg Int32.toInt q_v35, show pI I32 14 (b.toInt.toNat) = v36.toInt from congrArg Int32.toInt q_v36]; omega)), (mB_rem (I := I32) (I' := qm_up (qm_up (qm_up (qm_up (qm_up (qm_up (qm_up (qm_up I32 36 (v39.toInt.toNat) (-1)) 28 6 v40) 37 (v34.toInt.toNat) v41) 28 5 v42) 11 (b.toInt.toNat) 0) 12 (b.toInt.toNat) (-1)) 13 (b.toInt.toNat) (-1)) 14 (b.toInt.toNat) (-1)) V30.1.2 ((pI_sk rfl).trans ((pI_sk rfl).trans ((pI_sk rfl).trans ((pI_sk rfl).trans ((pI_sk rfl).trans ((pI_sk rfl).trans ((pI_sk rfl).trans (pI_up.trans rfl)))))))) hk_m1 (fun c => by show (I32 36 (v39.toInt.toNat + 1)).toInt < 0; rw [h36b]; show ((qm_up (qm_up (qm_up (qm_up (qm_up (qm_up (qm_up (qm_up I19 36 (v24.toInt.toNat) b) 28 6 v25) 37 (v6.toInt.toNat) v26) 28 5 v27) 11 (b.toInt.toNat) 1) 12 (b.toInt.toNat) v6) 13 (b.toInt.toNat) v7) 14 (b.toInt.toNat) t10) 36 (v39.toInt.toNat + 1)).toInt < 0; rw [show (qm_up (qm_up (qm_up (qm_up (qm_up (qm_up (qm_up (qm_up I19 36 (v24.toInt.toNat) b) 28 6 v25) 37 (v6.toInt.toNat) v26) 28 5 v27) 11 (b.toInt.toNat) 1) 12 (b.toInt.toNat) v6) 13 (b.toInt.toNat) v7) 14 (b.toInt.toNat) t10) 36 (v39.toInt.toNat + 1) = I19 36 (v39.toInt.toNat + 1) from ((hk_ot rfl).trans ((hk_ot rfl).trans ((hk_ot rfl).trans ((hk_ot rfl).trans ((hk_ot rfl).trans ((hk_ot rfl).trans ((hk_ot rfl).trans ((hk_neq (by omega)).trans rfl))))))))]; rw [e_I19 36 rfl _]; rw [show v39.toInt.toNat + 1 = (16 * v6.toInt + 4 * v7.toInt + (t10.toInt + 1)).toNat from by omega]; exact Int.not_le.mp (fun z => by have := b_low hVI.1.2 (y := v6.toInt) (r := v7.toInt) (t := t10.toInt) (by omega) (by omega) (by omega) z; rw [f12_f] at this; exact absurd this (by decide))))⟩, V30.2⟩ (congrArg Int32.toInt ((hk_ot rfl).trans ((hk_ot rfl).trans ((hk_ot rfl).trans (hk_same))))) ((congrArg Int32.toInt (show (qm_up (qm_up (qm_up (qm_up (qm_up (qm_up (qm_up (qm_up I32 36 (v39.toInt.toNat) (-1)) 28 6 v40) 37 (v34.toInt.toNat) v41) 28 5 v42) 11 (b.toInt.toNat) 0) 12 (b.toInt.toNat) (-1)) 13 (b.toInt.toNat) (-1)) 14 (b.toInt.toNat) (-1)) 11 (o.toInt.toNat) = _ from ((hk_ot rfl).trans ((hk_ot rfl).trans ((hk_ot rfl).trans ((hk_neq (by omega)).trans ((hk_ot rfl).trans ((hk_ot rfl).trans ((hk_ot rfl).trans ((hk_ot rfl).trans q_v38)))))))))).trans (by omega)) (by omega) rfl
theorem hs_ctwo29 {L : Nat} {xs : Nat → Int32} {d : Nat} {Z : Option Value → qm_H → Prop} {h : qm_H} (h6 : 6 ≤ L) (hH : hk_H h) (hB : hk_B h.2.1) (hT : h.2.2.2 0 9 = some 111 ∧ h.2.2.2 28 2 = some 29) (hW : wS h 29) {b o : Int32} (b_b : (0 : Int) ≤ b.toInt ∧ b.toInt ≤ 29) (b_o : (0 : Int) ≤ o.toInt ∧ o.toInt ≤ 29) (hbo : b.toInt ≠ o.toInt) (hV : v_C h.2.1) (h1 : (h.2.1 11 (b.toInt.toNat)).toInt = 0) (ho : (h.2.1 11 (o.toInt.toNat)).toInt = 0) (k : ∀ (v : Int32) (I : Nat → Nat → Int32) (J : Nat → Nat → Int64), hk_B I → v_C I → (∀ o, [11, 12, 13, 14, 28, 34, 36, 37, 39, 192, 193, 194, 195, 196, 197, 198, 199, 200, 201, 202, 203, 204, 205, 206, 207, 208, 209, 210, 211, 212, 213, 214, 215, 216, 217, 218, 219, 220, 221, 222, 223, 224, 225, 226, 227, 228, 229, 230, 231, 232, 233].contains o = false → ∀ i, I o i = h.2.1 o i) → Z (some (.int v)) (h.1, I, J, h.2.2.2)) : qm_Ru (some (L, xs)) (d + 100) cd_238 (qm_ent 12 [.ref 38, .int b, .int o] h) Z := by
  refine qm_Ru.go 6 (c' := (10, [.ref 38, .int b, .int o, .int (-2), .int 1000000, .int 0, .float 0, .float 0, .float 0, .float 0, .float 0, .float 0], [], h)) rfl ?_
  exact hl_ctwo2_29 h6 hH hB hT hW b_b b_o hbo k _ h.2.1 h.2.2.1 (-2) 1000000 0 _ _ _ _ _ _ hB (fun _ _ _ => rfl) hV h1 ho (by decide) rfl
theorem hc_ctwo29 : hk_ct v_C (fun h => (h.2.2.2 0 9 = some 111 ∧ h.2.2.2 28 2 = some 29) ∧ wS h 29) (fun as I => ∃ b o : Int32, as = [.ref 0, .int b, .int o]) 236 (some (-2147483648, 2147483647)) [11, 12, 13, 14, 28, 34, 36, 37, 39, 192, 193, 194, 195, 196, 197, 198, 199, 200, 201, 202, 203, 204, 205, 206, 207, 208, 209, 210, 211, 212, 213, 214, 215, 216, 217, 218, 219, 220, 221, 222, 223, 224, 225, 226, 227, 228, 229, 230, 231, 232, 233] 120 := by
  intro L xs d Z h as h6 hH hT2 hB hV hp hd k
  obtain ⟨hT, hW⟩ := hT2
  obtain ⟨b, o, rfl⟩ := hp
  obtain ⟨d, rfl⟩ : ∃ e, d = e + 120 := ⟨d - 120, by omega⟩
  show qm_Ru (some (L, xs)) (d + 120) cd_236 (qm_ent 3 [.ref 0, .int b, .int o] h) Z
  refine qm_Ru.go 1 (c' := (1, [.ref 0, .int b, .int o], [.ref 0], h)) rfl ?_
  refine hk_getr rfl (hH.1 0 (16, 10) rfl) rfl (hH.2 0 2 (some 6) rfl) ?_
  refine qm_Ru.go 1 (c' := (5, [.ref 0, .int b, .int o], [.int b, .ref 6], h)) rfl ?_
  refine hk_inv (o := 6) (r := []) (as := [.ref 6, .int b]) rfl rfl (hH.1 6 (6, 9) rfl) rfl rfl rfl rfl ?_
  refine qm_Ru.go 2 (c' := (2, [.ref 6, .int b], [.int b, .ref 6], h)) rfl ?_
  refine hk_inv (o := 6) (r := []) (as := [.ref 6, .int b]) rfl rfl (hH.1 6 (6, 9) rfl) rfl rfl rfl rfl ?_
  refine qm_Ru.go 1 (c' := (1, [.ref 6, .int b], [.int b], h)) rfl ?_
  refine hk_zlt (ix := b.toInt) rfl rfl (fun z1 => ?_) (fun z1 => ?_)
  · refine qm_Ru.go 1 (c' := (17, [.ref 6, .int b], [.int 0], h)) rfl ?_
    refine qm_Ru.rt (v := (some (.int 0))) (h' := h) rfl ?_
    refine qm_Ru.go 2 (c' := (22, [.ref 6, .int b], [.int 0], h)) rfl ?_
    refine qm_Ru.rt (v := (some (.int 0))) (h' := h) rfl ?_
    refine qm_Ru.go 2 (c' := (28, [.ref 0, .int b, .int o], [.int (-1)], h)) rfl ?_
    refine qm_Ru.rt (v := (some (.int (-1)))) (h' := h) rfl ?_
    exact k (some (.int (-1))) (h.2.1) (h.2.2.1) ⟨_, rfl, qa_in_full _⟩ hB hV (fun o ho i => rfl)
  · refine qm_Ru.go 2 (c' := (6, [.ref 6, .int b], [.ref 6, .int b], h)) rfl ?_
    obtain ⟨v2, q_v2⟩ : ∃ v, h.2.1 6 0 = v := ⟨_, rfl⟩
    have b_v2 : (0 : Int) ≤ v2.toInt ∧ v2.toInt ≤ 30 := by rw [← q_v2]; exact hB 6 0
    refine hk_geti (v := v2) rfl (hH.1 6 (6, 9) rfl) rfl q_v2 ?_
    refine qm_Ru.go 0 (c' := (9, [.ref 6, .int b], [.int v2, .int b], h)) rfl ?_
    refine hk_cge (ix := b.toInt) (iy := v2.toInt) rfl rfl rfl (fun z3 => ?_) (fun z3 => ?_)
    · refine qm_Ru.go 1 (c' := (17, [.ref 6, .int b], [.int 0], h)) rfl ?_
      refine qm_Ru.rt (v := (some (.int 0))) (h' := h) rfl ?_
      refine qm_Ru.go 2 (c' := (22, [.ref 6, .int b], [.int 0], h)) rfl ?_
      refine qm_Ru.rt (v := (some (.int 0))) (h' := h) rfl ?_
      refine qm_Ru.go 2 (c' := (28, [.ref 0, .int b, .int o], [.int (-1)], h)) rfl ?_
      refine qm_Ru.rt (v := (some (.int (-1)))) (h' := h) rfl ?_
      exact k (some (.int (-1))) (h.2.1) (h.2.2.1) ⟨_, rfl, qa_in_full _⟩ hB hV (fun o ho i => rfl)
    · refine qm_Ru.go 2 (c' := (17, [.ref 6, .int b], [.int 1], h)) rfl ?_
      refine qm_Ru.rt (v := (some (.int 1))) (h' := h) rfl ?_
      refine qm_Ru.go 2 (c' := (9, [.ref 6, .int b], [.ref 6], h)) rfl ?_
      refine hk_getr rfl (hH.1 6 (6, 9) rfl) rfl (hH.2 6 5 (some 11) rfl) ?_
      refine qm_Ru.go 1 (c' := (13, [.ref 6, .int b], [.int b, .ref 11], h)) rfl ?_
      obtain ⟨v4, q_v4⟩ : ∃ v, h.2.1 11 (b.toInt.toNat) = v := ⟨_, rfl⟩
      have b_v4 : (0 : Int) ≤ v4.toInt ∧ v4.toInt ≤ 2 := by rw [← q_v4]; exact hB 11 (b.toInt.toNat)
      refine hk_ial (v := v4) rfl (hH.1 11 (0, 30) rfl) (by omega) (by omega) q_v4 ?_
      refine qm_Ru.go 0 (c' := (14, [.ref 6, .int b], [.int v4], h)) rfl ?_
      refine hk_zne (ix := v4.toInt) rfl rfl (fun z5 => ?_) (fun z5 => ?_)
      · refine qm_Ru.go 1 (c' := (22, [.ref 6, .int b], [.int 0], h)) rfl ?_
        refine qm_Ru.rt (v := (some (.int 0))) (h' := h) rfl ?_
        refine qm_Ru.go 2 (c' := (28, [.ref 0, .int b, .int o], [.int (-1)], h)) rfl ?_
        refine qm_Ru.rt (v := (some (.int (-1)))) (h' := h) rfl ?_
        exact k (some (.int (-1))) (h.2.1) (h.2.2.1) ⟨_, rfl, qa_in_full _⟩ hB hV (fun o ho i => rfl)
      · refine qm_Ru.go 2 (c' := (22, [.ref 6, .int b], [.int 1], h)) rfl ?_
        refine qm_Ru.rt (v := (some (.int 1))) (h' := h) rfl ?_
        refine qm_Ru.go 2 (c' := (12, [.ref 0, .int b, .int o], [.ref 0], h)) rfl ?_
        refine hk_getr rfl (hH.1 0 (16, 10) rfl) rfl (hH.2 0 2 (some 6) rfl) ?_
        refine qm_Ru.go 1 (c' := (16, [.ref 0, .int b, .int o], [.int o, .ref 6], h)) rfl ?_
        refine hk_inv (o := 6) (r := []) (as := [.ref 6, .int o]) rfl rfl (hH.1 6 (6, 9) rfl) rfl rfl rfl rfl ?_
        refine qm_Ru.go 2 (c' := (2, [.ref 6, .int o], [.int o, .ref 6], h)) rfl ?_
        refine hk_inv (o := 6) (r := []) (as := [.ref 6, .int o]) rfl rfl (hH.1 6 (6, 9) rfl) rfl rfl rfl rfl ?_
        refine qm_Ru.go 1 (c' := (1, [.ref 6, .int o], [.int o], h)) rfl ?_
        refine hk_zlt (ix := o.toInt) rfl rfl (fun z6 => ?_) (fun z6 => ?_)
        · refine qm_Ru.go 1 (c' := (17, [.ref 6, .int o], [.int 0], h)) rfl ?_
          refine qm_Ru.rt (v := (some (.int 0))) (h' := h) rfl ?_
          refine qm_Ru.go 2 (c' := (22, [.ref 6, .int o], [.int 0], h)) rfl ?_
          refine qm_Ru.rt (v := (some (.int 0))) (h' := h) rfl ?_
          refine qm_Ru.go 2 (c' := (28, [.ref 0, .int b, .int o], [.int (-1)], h)) rfl ?_
          refine qm_Ru.rt (v := (some (.int (-1)))) (h' := h) rfl ?_
          exact k (some (.int (-1))) (h.2.1) (h.2.2.1) ⟨_, rfl, qa_in_full _⟩ hB hV (fun o ho i => rfl)
        · refine qm_Ru.go 2 (c' := (6, [.ref 6, .int o], [.ref 6, .int o], h)) rfl ?_
          refine hk_geti (v := v2) rfl (hH.1 6 (6, 9) rfl) rfl q_v2 ?_
          refine qm_Ru.go 0 (c' := (9, [.ref 6, .int o], [.int v2, .int o], h)) rfl ?_
          refine hk_cge (ix := o.toInt) (iy := v2.toInt) rfl rfl rfl (fun z7 => ?_) (fun z7 => ?_)
          · refine qm_Ru.go 1 (c' := (17, [.ref 6, .int o], [.int 0], h)) rfl ?_
            refine qm_Ru.rt (v := (some (.int 0))) (h' := h) rfl ?_
            refine qm_Ru.go 2 (c' := (22, [.ref 6, .int o], [.int 0], h)) rfl ?_
            refine qm_Ru.rt (v := (some (.int 0))) (h' := h) rfl ?_
            refine qm_Ru.go 2 (c' := (28, [.ref 0, .int b, .int o], [.int (-1)], h)) rfl ?_
            refine qm_Ru.rt (v := (some (.int (-1)))) (h' := h) rfl ?_
            exact k (some (.int (-1))) (h.2.1) (h.2.2.1) ⟨_, rfl, qa_in_full _⟩ hB hV (fun o ho i => rfl)
          · refine qm_Ru.go 2 (c' := (17, [.ref 6, .int o], [.int 1], h)) rfl ?_
            refine qm_Ru.rt (v := (some (.int 1))) (h' := h) rfl ?_
            refine qm_Ru.go 2 (c' := (9, [.ref 6, .int o], [.ref 6], h)) rfl ?_
            refine hk_getr rfl (hH.1 6 (6, 9) rfl) rfl (hH.2 6 5 (some 11) rfl) ?_
            refine qm_Ru.go 1 (c' := (13, [.ref 6, .int o], [.int o, .ref 11], h)) rfl ?_
            obtain ⟨v8, q_v8⟩ : ∃ v, h.2.1 11 (o.toInt.toNat) = v := ⟨_, rfl⟩
            have b_v8 : (0 : Int) ≤ v8.toInt ∧ v8.toInt ≤ 2 := by rw [← q_v8]; exact hB 11 (o.toInt.toNat)
            refine hk_ial (v := v8) rfl (hH.1 11 (0, 30) rfl) (by omega) (by omega) q_v8 ?_
            refine qm_Ru.go 0 (c' := (14, [.ref 6, .int o], [.int v8], h)) rfl ?_
            refine hk_zne (ix := v8.toInt) rfl rfl (fun z9 => ?_) (fun z9 => ?_)
            · refine qm_Ru.go 1 (c' := (22, [.ref 6, .int o], [.int 0], h)) rfl ?_
              refine qm_Ru.rt (v := (some (.int 0))) (h' := h) rfl ?_
              refine qm_Ru.go 2 (c' := (28, [.ref 0, .int b, .int o], [.int (-1)], h)) rfl ?_
              refine qm_Ru.rt (v := (some (.int (-1)))) (h' := h) rfl ?_
              exact k (some (.int (-1))) (h.2.1) (h.2.2.1) ⟨_, rfl, qa_in_full _⟩ hB hV (fun o ho i => rfl)
            · refine qm_Ru.go 2 (c' := (22, [.ref 6, .int o], [.int 1], h)) rfl ?_
              refine qm_Ru.rt (v := (some (.int 1))) (h' := h) rfl ?_
              refine qm_Ru.go 3 (c' := (24, [.ref 0, .int b, .int o], [.int o, .int b], h)) rfl ?_
              refine hk_cne (ix := b.toInt) (iy := o.toInt) rfl rfl rfl (fun z10 => ?_) (fun z10 => ?_)
              · refine qm_Ru.go 1 (c' := (30, [.ref 0, .int b, .int o], [.ref 0], h)) rfl ?_
                refine hk_getr rfl (hH.1 0 (16, 10) rfl) rfl (hH.2 0 5 (some 38) rfl) ?_
                refine qm_Ru.go 1 (c' := (34, [.ref 0, .int b, .int o], [.int o, .ref 38], h)) rfl ?_
                refine hk_inv (o := 38) (r := []) (as := [.ref 38, .int o]) rfl rfl (hH.1 38 (10, 5) rfl) rfl rfl rfl rfl (hs_lone29 (h := h) h6 hH hT hB (v_C_ru hV) ⟨by show (0 : Int) ≤ o.toInt; omega, by show o.toInt ≤ (29 : Int); omega⟩ (wS_same hW rfl rfl) (by omega) (fun I11 J12 hB_I11 e_I11 => ?_))
                have hV_I11 : v_C I11 := v_C_cg9 hV (fun o ho i => e_I11 o (q9_lone29 ho) i)
                refine qm_Ru.go 1 (c' := (38, [.ref 0, .int b, .int o], [.ref 0], (h.1, I11, J12, h.2.2.2))) rfl ?_
                refine hk_getr rfl (hH.1 0 (16, 10) rfl) rfl (hH.2 0 5 (some 38) rfl) ?_
                refine qm_Ru.go 2 (c' := (43, [.ref 0, .int b, .int o], [.int o, .int b, .ref 38], (h.1, I11, J12, h.2.2.2))) rfl ?_
                refine hk_inv (o := 38) (r := []) (as := [.ref 38, .int b, .int o]) rfl rfl (hH.1 38 (10, 5) rfl) rfl rfl rfl rfl (hs_ctwo29 (h := (h.1, I11, J12, h.2.2.2)) h6 hH hB_I11 hT (wS_same hW rfl rfl) (b := b) (o := o) (by omega) (by omega) (by omega) hV_I11 ((congrArg Int32.toInt (show (I11) 11 (b.toInt.toNat) = _ from ((e_I11 11 rfl (b.toInt.toNat)).trans q_v4))).trans (by omega)) ((congrArg Int32.toInt (show (I11) 11 (o.toInt.toNat) = _ from ((e_I11 11 rfl (o.toInt.toNat)).trans q_v8))).trans (by omega)) (fun v15 I13 J14 hB_I13 hV_I13 e_I13 => ?_))
                refine qm_Ru.go 0 (c' := (46, [.ref 0, .int b, .int o], [.int v15], (h.1, I13, J14, h.2.2.2))) rfl ?_
                refine qm_Ru.rt (v := (some (.int v15))) (h' := (h.1, I13, J14, h.2.2.2)) rfl ?_
                exact k (some (.int v15)) (I13) (J14) ⟨_, rfl, qa_in_full _⟩ hB_I13 hV_I13 (fun o ho i => ((e_I13 o (hk_ms rfl ho) i).trans ((e_I11 o (hk_ms rfl ho) i).trans rfl)))
              · refine qm_Ru.go 1 (c' := (28, [.ref 0, .int b, .int o], [.int (-1)], h)) rfl ?_
                refine qm_Ru.rt (v := (some (.int (-1)))) (h' := h) rfl ?_
                exact k (some (.int (-1))) (h.2.1) (h.2.2.1) ⟨_, rfl, qa_in_full _⟩ hB hV (fun o ho i => rfl)
theorem q9_brw111 {o : Nat} (h : [6, 11, 12, 13, 14, 16, 17, 36, 150, 151].contains o = true) : qm_brw111.contains o = false := by
  have key : ∀ o ∈ [6, 11, 12, 13, 14, 16, 17, 36, 150, 151], qm_brw111.contains o = false := by decide +kernel
  exact key o (List.contains_iff_mem.mp h)
theorem q9_lone111 {o : Nat} (h : [6, 11, 12, 13, 14, 16, 17, 36, 150, 151].contains o = true) : qm_lone111.contains o = false := by
  have key : ∀ o ∈ [6, 11, 12, 13, 14, 16, 17, 36, 150, 151], qm_lone111.contains o = false := by decide +kernel
  exact key o (List.contains_iff_mem.mp h)
theorem hl_ctwo1_111 {L : Nat} {xs : Nat → Int32} {d : Nat} {Z : Option Value → qm_H → Prop} {h : qm_H} (h6 : 6 ≤ L) (hH : hk_H h) (hB : hk_B h.2.1) (hT : h.2.2.2 0 9 = some 29 ∧ h.2.2.2 28 2 = some 111) (hW : wS h 111) {b o : Int32} (b_b : (0 : Int) ≤ b.toInt ∧ b.toInt ≤ 29) (b_o : (0 : Int) ≤ o.toInt ∧ o.toInt ≤ 29) (hbo : b.toInt ≠ o.toInt) {f36 : Nat → Int32} {y0 r0 t0 q ru : Int32} {l6 : Value} (hq : (0 : Int) ≤ q.toInt ∧ q.toInt ≤ 19) (ko : ∀ (I : Nat → Nat → Int32) (J : Nat → Nat → Int64) (be le w : Int32) (l9 l10 l11 : Value), hk_B I → (∀ o, [11, 12, 13, 14, 28, 36, 37, 39, 116, 192, 193, 194, 195, 196, 197, 198, 199, 200, 201, 202, 203, 204, 205, 206, 207, 208, 209, 210, 211, 212, 213, 214, 215, 216, 217, 218, 219, 220, 221, 222, 223, 224, 225, 226, 227, 228, 229, 230, 231, 232, 233].contains o = false → ∀ i, I o i = h.2.1 o i) → (v_C I) → ((I 11 (b.toInt.toNat)).toInt = 1) → (∀ i, I 36 i = f36 i) → (I 12 (b.toInt.toNat) = y0 ∧ I 13 (b.toInt.toNat) = r0 ∧ I 14 (b.toInt.toNat) = t0) → ((I 11 (o.toInt.toNat)).toInt = 0) → qm_Ru (some (L, xs)) (d + 100) cd_238 (201, [.ref 38, .int b, .int o, .int be, .int le, .int q, l6, .int ru, .int w, l9, l10, l11], [], (h.1, I, J, h.2.2.2)) Z) : ∀ (m : Nat) (I : Nat → Nat → Int32) (J : Nat → Nat → Int64) (be : Int32) (le : Int32) (w : Int32) (l9 l10 l11 : Value), hk_B I → (∀ o, [11, 12, 13, 14, 28, 36, 37, 39, 116, 192, 193, 194, 195, 196, 197, 198, 199, 200, 201, 202, 203, 204, 205, 206, 207, 208, 209, 210, 211, 212, 213, 214, 215, 216, 217, 218, 219, 220, 221, 222, 223, 224, 225, 226, 227, 228, 229, 230, 231, 232, 233].contains o = false → ∀ i, I o i = h.2.1 o i) → (v_C I) → ((I 11 (b.toInt.toNat)).toInt = 1) → (∀ i, I 36 i = f36 i) → (I 12 (b.toInt.toNat) = y0 ∧ I 13 (b.toInt.toNat) = r0 ∧ I 14 (b.toInt.toNat) = t0) → ((I 11 (o.toInt.toNat)).toInt = 0) → ((0 : Int) ≤ w.toInt ∧ w.toInt ≤ 20) → (20 - w.toInt).toNat = m → qm_Ru (some (L, xs)) (d + 100) cd_238 (88, [.ref 38, .int b, .int o, .int be, .int le, .int q, l6, .int ru, .int w, l9, l10, l11], [], (h.1, I, J, h.2.2.2)) Z := by
  intro m
  induction m using Nat.strongRecOn with
  | ind m ih =>
    intro I J be le w l9 l10 l11 hBI e hVI h1 h36 hyb ho hw hm
    refine qm_Ru.go 1 (c' := (90, [.ref 38, .int b, .int o, .int be, .int le, .int q, l6, .int ru, .int w, l9, l10, l11], [.int w], (h.1, I, J, h.2.2.2))) rfl ?_
    have hne : b.toInt.toNat ≠ o.toInt.toNat := by omega
    obtain ⟨v1, q_v1⟩ : ∃ v, I 11 (o.toInt.toNat) = v := ⟨_, rfl⟩
    have f_v1 : v1.toInt = 0 := by rw [← q_v1]; exact ho
    refine qm_Ru.go 1 (c' := (91, [.ref 38, .int b, .int o, .int be, .int le, .int q, l6, .int ru, .int w, l9, l10, l11], [.ref 38, .int w], (h.1, I, J, h.2.2.2))) rfl ?_
    refine hk_getr rfl (hH.1 38 (10, 5) rfl) rfl (hH.2 38 1 (some 28) rfl) ?_
    refine qm_Ru.go 0 (c' := (94, [.ref 38, .int b, .int o, .int be, .int le, .int q, l6, .int ru, .int w, l9, l10, l11], [.ref 28, .int w], (h.1, I, J, h.2.2.2))) rfl ?_
    refine hk_getr rfl (hH.1 28 (9, 8) rfl) rfl hT.2 ?_
    refine qm_Ru.go 0 (c' := (97, [.ref 38, .int b, .int o, .int be, .int le, .int q, l6, .int ru, .int w, l9, l10, l11], [.ref 111, .int w], (h.1, I, J, h.2.2.2))) rfl ?_
    obtain ⟨v2, q_v2⟩ : ∃ v, h.2.1 111 0 = v := ⟨_, rfl⟩
    have b_v2 : (2 : Int) ≤ v2.toInt ∧ v2.toInt ≤ 5 := by rw [← q_v2]; exact hB 111 0
    refine hk_geti (v := v2) rfl (hH.1 111 (11, 16) rfl) rfl (show (I) 111 0 = _ from ((e 111 rfl 0).trans q_v2)) ?_
    refine qm_Ru.go 2 (c' := (102, [.ref 38, .int b, .int o, .int be, .int le, .int q, l6, .int ru, .int w, l9, l10, l11], [.int (v2 * 4), .int w], (h.1, I, J, h.2.2.2))) rfl ?_
    obtain ⟨v3, q_v3, e_v3⟩ := hk_mul (x := v2) (y := 4) (a := v2.toInt) (b := 4) rfl rfl (by omega) (by omega)
    rw [q_v3]
    refine hk_cge (ix := w.toInt) (iy := v3.toInt) rfl rfl rfl (fun z4 => ?_) (fun z4 => ?_)
    · refine qm_Ru.go 0 (c' := (201, [.ref 38, .int b, .int o, .int be, .int le, .int q, l6, .int ru, .int w, l9, l10, l11], [], (h.1, I, J, h.2.2.2))) rfl ?_
      exact ko (I) (J) be le w l9 l10 l11 hBI (fun o ho i => (e o ho i)) hVI ((congrArg Int32.toInt rfl).trans h1) (fun i => (h36 i)) ⟨(rfl).trans hyb.1, (rfl).trans hyb.2.1, (rfl).trans hyb.2.2⟩ ((congrArg Int32.toInt q_v1).trans (by omega))
    · refine qm_Ru.go 1 (c' := (106, [.ref 38, .int b, .int o, .int be, .int le, .int q, l6, .int ru, .int w, l9, l10, l11], [.ref 38], (h.1, I, J, h.2.2.2))) rfl ?_
      refine hk_getr rfl (hH.1 38 (10, 5) rfl) rfl (hH.2 38 1 (some 28) rfl) ?_
      refine qm_Ru.go 4 (c' := (114, [.ref 38, .int b, .int o, .int be, .int le, .int q, l6, .int ru, .int w, l9, l10, l11], [.int (w / 4), .int o, .ref 28], (h.1, I, J, h.2.2.2))) rfl ?_
      obtain ⟨v5, q_v5, e_v5⟩ := hk_div (x := w) (y := 4) (a := w.toInt) (b := 4) rfl rfl (by omega) (by omega)
      rw [q_v5]
      refine qm_Ru.go 3 (c' := (118, [.ref 38, .int b, .int o, .int be, .int le, .int q, l6, .int ru, .int w, l9, l10, l11], [.int (w - w / 4 * 4), .int v5, .int o, .ref 28], (h.1, I, J, h.2.2.2))) rfl ?_
      obtain ⟨v6, q_v6, e_v6⟩ := hk_rem (x := w) (y := 4) (a := w.toInt) (b := 4) rfl rfl (by omega) (by omega)
      rw [q_v6]
      refine hk_inv (o := 28) (r := []) (as := [.ref 28, .int o, .int v5, .int v6]) rfl rfl (hH.1 28 (9, 8) rfl) rfl rfl rfl rfl (hq_try111 (h := (h.1, I, J, h.2.2.2)) h6 hH hT hBI hVI (b := o) (y := v5) (r := v6) (fun v7 J8 c_v7 d_v7 => ?_) (fun t9 J10 f11 g12 => ?_))
      · refine qm_Ru.go 2 (c' := (125, [.ref 38, .int b, .int o, .int be, .int le, .int q, l6, .int ru, .int w, .int v7, l10, l11], [.int v7], (h.1, I, J8, h.2.2.2))) rfl ?_
        refine hk_zge (ix := v7.toInt) rfl rfl (fun z13 => by exfalso; omega) (fun z13 => ?_)
        refine qm_Ru.go 2 (c' := (198, [.ref 38, .int b, .int o, .int be, .int le, .int q, l6, .int ru, .int (w + 1), .int v7, l10, l11], [], (h.1, I, J8, h.2.2.2))) rfl ?_
        obtain ⟨v14, q_v14, e_v14⟩ := hk_add (x := w) (y := 1) (a := w.toInt) (b := 1) rfl rfl (by omega) (by omega)
        rw [q_v14]
        refine qm_Ru.go 1 (c' := (88, [.ref 38, .int b, .int o, .int be, .int le, .int q, l6, .int ru, .int v14, .int v7, l10, l11], [], (h.1, I, J8, h.2.2.2))) rfl ?_
        exact ih _ (by omega) (I) (J8) be le v14 (.int v7) l10 l11 hBI (fun o ho i => (e o ho i)) hVI ((congrArg Int32.toInt rfl).trans h1) (fun i => (h36 i)) ⟨(rfl).trans hyb.1, (rfl).trans hyb.2.1, (rfl).trans hyb.2.2⟩ ((congrArg Int32.toInt q_v1).trans (by omega)) (by omega) rfl
      · obtain ⟨f11_y, f11_r, f11_t, f11_f, f11_b⟩ := f11
        obtain ⟨g12_b, g12_n, _⟩ := g12
        refine qm_Ru.go 2 (c' := (125, [.ref 38, .int b, .int o, .int be, .int le, .int q, l6, .int ru, .int w, .int t9, l10, l11], [.int t9], (h.1, I, J10, h.2.2.2))) rfl ?_
        refine hk_zge (ix := t9.toInt) rfl rfl (fun z15 => ?_) (fun z15 => by exfalso; omega)
        refine qm_Ru.go 3 (c' := (135, [.ref 38, .int b, .int o, .int be, .int le, .int q, l6, .int ru, .int w, .int t9, l10, l11], [.int (w * 4)], (h.1, I, J10, h.2.2.2))) rfl ?_
        obtain ⟨v16, q_v16, e_v16⟩ := hk_mul (x := w) (y := 4) (a := w.toInt) (b := 4) rfl rfl (by omega) (by omega)
        rw [q_v16]
        refine qm_Ru.go 2 (c' := (138, [.ref 38, .int b, .int o, .int be, .int le, .int q, l6, .int ru, .int w, .int t9, l10, l11], [.int (v16 + t9)], (h.1, I, J10, h.2.2.2))) rfl ?_
        obtain ⟨v17, q_v17, e_v17⟩ := hk_add (x := v16) (y := t9) (a := v16.toInt) (b := t9.toInt) rfl rfl (by omega) (by omega)
        rw [q_v17]
        refine qm_Ru.go 3 (c' := (143, [.ref 38, .int b, .int o, .int be, .int le, .int q, l6, .int ru, .int w, .int t9, .int v17, l11], [.ref 38, .int ru], (h.1, I, J10, h.2.2.2))) rfl ?_
        refine hk_getr rfl (hH.1 38 (10, 5) rfl) rfl (hH.2 38 2 (some 39) rfl) ?_
        refine qm_Ru.go 1 (c' := (148, [.ref 38, .int b, .int o, .int be, .int le, .int q, l6, .int ru, .int w, .int t9, .int v17, l11], [.int v17, .ref 39, .int ru], (h.1, I, J10, h.2.2.2))) rfl ?_
        obtain ⟨v18, q_v18⟩ : ∃ v, I 39 (v17.toInt.toNat) = v := ⟨_, rfl⟩
        refine hk_ial (v := v18) rfl (hH.1 39 (0, 80) rfl) (by omega) (by omega) q_v18 ?_
        refine qm_Ru.go 1 (c' := (150, [.ref 38, .int b, .int o, .int be, .int le, .int q, l6, .int ru, .int w, .int t9, .int v17, l11], [.int (ru + v18)], (h.1, I, J10, h.2.2.2))) rfl ?_
        obtain ⟨v19, q_v19⟩ : ∃ v, (ru + v18) = v := ⟨_, rfl⟩
        rw [q_v19]
        refine qm_Ru.go 4 (c' := (155, [.ref 38, .int b, .int o, .int be, .int le, .int q, l6, .int ru, .int w, .int t9, .int v17, l11], [.int b, .int v17, .int o, .ref 38, .int v19], (h.1, I, J10, h.2.2.2))) rfl ?_
        refine hk_inv (o := 38) (r := [.int v19]) (as := [.ref 38, .int o, .int v17, .int b]) rfl rfl (hH.1 38 (10, 5) rfl) rfl rfl rfl rfl (hs_brw111 (h := (h.1, I, J10, h.2.2.2)) h6 hH hT hBI (v_C_ru hVI) ⟨by show (0 : Int) ≤ o.toInt; omega, by show o.toInt ≤ (29 : Int); omega⟩ ⟨by show (0 : Int) ≤ v17.toInt; omega, by show v17.toInt ≤ (79 : Int); omega⟩ ⟨by show (0 : Int) ≤ b.toInt; omega, by show b.toInt ≤ (29 : Int); omega⟩ (wS_same hW rfl rfl) (by omega) (fun v22 I20 J21 _ hB_I20 e_I20 => ?_))
        have hV_I20 : v_C I20 := v_C_cg9 hVI (fun o ho i => e_I20 o (q9_brw111 ho) i)
        refine qm_Ru.go 1 (c' := (159, [.ref 38, .int b, .int o, .int be, .int le, .int q, l6, .int ru, .int w, .int t9, .int v17, l11], [.int (v19 + v22)], (h.1, I20, J21, h.2.2.2))) rfl ?_
        obtain ⟨v23, q_v23⟩ : ∃ v, (v19 + v22) = v := ⟨_, rfl⟩
        rw [q_v23]
        refine qm_Ru.go 3 (c' := (163, [.ref 38, .int b, .int o, .int be, .int le, .int q, l6, .int ru, .int w, .int t9, .int v17, l11], [.int v17, .int o, .ref 38, .int v23], (h.1, I20, J21, h.2.2.2))) rfl ?_
        obtain ⟨v24, q_v24⟩ : ∃ v, h.2.1 6 0 = v := ⟨_, rfl⟩
        have b_v24 : (0 : Int) ≤ v24.toInt ∧ v24.toInt ≤ 30 := by rw [← q_v24]; exact hB 6 0
        refine hk_inv (o := 38) (r := [.int v23]) (as := [.ref 38, .int o, .int v17]) rfl rfl (hH.1 38 (10, 5) rfl) rfl rfl rfl rfl (hs_ovw (h := (h.1, I20, J21, h.2.2.2)) h6 hH hB_I20 hV_I20 (b := o) (x := v17) (n := pI I 6 0) (by omega) (by omega) (by show (I20 6 0).toInt = pI I 6 0; rw [e_I20 6 rfl 0]; exact rfl) g12_n ((congrArg Int32.toInt (show (I20) 11 (o.toInt.toNat) = _ from ((e_I20 11 rfl (o.toInt.toNat)).trans q_v1))).trans (by omega)) (by show (I20 36 v17.toInt.toNat).toInt = -1; rw [e_I20 36 rfl _]; exact (show pI I 36 v17.toInt.toNat = -1 from by rw [show v17.toInt.toNat = (16 * v5.toInt + 4 * v6.toInt + t9.toInt).toNat from by omega]; exact f11_f)) (fun c => by show 0 ≤ (I20 36 (v17.toInt - 1).toNat).toInt; rw [e_I20 36 rfl _]; exact (show 0 ≤ pI I 36 (v17.toInt - 1).toNat from by rw [show (v17.toInt - 1).toNat = (16 * v5.toInt + 4 * v6.toInt + t9.toInt - 1).toNat from by omega]; exact f11_b (by omega))) (fun v27 I25 J26 hB_I25 hV_I25 p_I25 e_I25 s_I25 o_I25 => ?_))
        obtain ⟨v28, q_v28⟩ : ∃ v, I25 11 (o.toInt.toNat) = v := ⟨_, rfl⟩
        have f_v28 : v28.toInt = 0 := by rw [← q_v28]; exact p_I25
        refine qm_Ru.go 1 (c' := (167, [.ref 38, .int b, .int o, .int be, .int le, .int q, l6, .int ru, .int w, .int t9, .int v17, l11], [.int (v23 + v27)], (h.1, I25, J26, h.2.2.2))) rfl ?_
        obtain ⟨v29, q_v29⟩ : ∃ v, (v23 + v27) = v := ⟨_, rfl⟩
        rw [q_v29]
        refine qm_Ru.go 3 (c' := (173, [.ref 38, .int b, .int o, .int be, .int le, .int q, l6, .int ru, .int w, .int t9, .int v17, .int v29], [.int le, .int v29], (h.1, I25, J26, h.2.2.2))) rfl ?_
        refine hk_cge (ix := v29.toInt) (iy := le.toInt) rfl rfl rfl (fun z30 => ?_) (fun z30 => ?_)
        · refine qm_Ru.go 1 (c' := (198, [.ref 38, .int b, .int o, .int be, .int le, .int q, l6, .int ru, .int (w + 1), .int t9, .int v17, .int v29], [], (h.1, I25, J26, h.2.2.2))) rfl ?_
          obtain ⟨v31, q_v31, e_v31⟩ := hk_add (x := w) (y := 1) (a := w.toInt) (b := 1) rfl rfl (by omega) (by omega)
          rw [q_v31]
          refine qm_Ru.go 1 (c' := (88, [.ref 38, .int b, .int o, .int be, .int le, .int q, l6, .int ru, .int v31, .int t9, .int v17, .int v29], [], (h.1, I25, J26, h.2.2.2))) rfl ?_
          exact ih _ (by omega) (I25) (J26) be le v31 (.int t9) (.int v17) (.int v29) hB_I25 (fun o ho i => ((e_I25 o (hk_ms rfl ho) i).trans ((e_I20 o (hk_ms rfl ho) i).trans (e o ho i)))) hV_I25 ((congrArg Int32.toInt (((o_I25 b.toInt.toNat hne).1).trans ((e_I20 11 rfl (b.toInt.toNat)).trans rfl))).trans h1) (fun i => ((s_I25 i).trans ((e_I20 36 rfl i).trans (h36 i)))) ⟨((((o_I25 b.toInt.toNat hne).2.1).trans ((e_I20 12 rfl (b.toInt.toNat)).trans rfl))).trans hyb.1, ((((o_I25 b.toInt.toNat hne).2.2.1).trans ((e_I20 13 rfl (b.toInt.toNat)).trans rfl))).trans hyb.2.1, ((((o_I25 b.toInt.toNat hne).2.2.2).trans ((e_I20 14 rfl (b.toInt.toNat)).trans rfl))).trans hyb.2.2⟩ ((congrArg Int32.toInt q_v28).trans (by omega)) (by omega) rfl
        · refine qm_Ru.go 4 (c' := (184, [.ref 38, .int b, .int o, .int be, .int v29, .int q, l6, .int ru, .int w, .int t9, .int v17, .int v29], [.int q, .int 100], (h.1, I25, J26, h.2.2.2))) rfl ?_
          refine qm_Ru.call (j := 235) (as := [.int q]) (c' := (187, [.ref 38, .int b, .int o, .int be, .int v29, .int q, l6, .int ru, .int w, .int t9, .int v17, .int v29], [.int 100], (h.1, I25, J26, h.2.2.2))) rfl rfl rfl ?_
          refine qm_Ru.go 4 (c' := (5, [.int q], [.int (q / 4), .int 10], (h.1, I25, J26, h.2.2.2))) rfl ?_
          obtain ⟨v32, q_v32, e_v32⟩ := hk_div (x := q) (y := 4) (a := q.toInt) (b := 4) rfl rfl (by omega) (by omega)
          rw [q_v32]
          refine qm_Ru.go 1 (c' := (6, [.int q], [.int (10 * v32)], (h.1, I25, J26, h.2.2.2))) rfl ?_
          obtain ⟨v33, q_v33, e_v33⟩ := hk_mul (x := 10) (y := v32) (a := 10) (b := v32.toInt) rfl rfl (by omega) (by omega)
          rw [q_v33]
          refine qm_Ru.go 3 (c' := (9, [.int q], [.int (q - q / 4 * 4), .int v33], (h.1, I25, J26, h.2.2.2))) rfl ?_
          obtain ⟨v34, q_v34, e_v34⟩ := hk_rem (x := q) (y := 4) (a := q.toInt) (b := 4) rfl rfl (by omega) (by omega)
          rw [q_v34]
          refine qm_Ru.go 1 (c' := (10, [.int q], [.int (v33 + v34)], (h.1, I25, J26, h.2.2.2))) rfl ?_
          obtain ⟨v35, q_v35, e_v35⟩ := hk_add (x := v33) (y := v34) (a := v33.toInt) (b := v34.toInt) rfl rfl (by omega) (by omega)
          rw [q_v35]
          refine qm_Ru.rt (v := (some (.int v35))) (h' := (h.1, I25, J26, h.2.2.2)) rfl ?_
          refine qm_Ru.go 1 (c' := (188, [.ref 38, .int b, .int o, .int be, .int v29, .int q, l6, .int ru, .int w, .int t9, .int v17, .int v29], [.int (100 * v35)], (h.1, I25, J26, h.2.2.2))) rfl ?_
          obtain ⟨v36, q_v36, e_v36⟩ := hk_mul (x := 100) (y := v35) (a := 100) (b := v35.toInt) rfl rfl (by omega) (by omega)
          rw [q_v36]
          refine qm_Ru.go 1 (c' := (190, [.ref 38, .int b, .int o, .int be, .int v29, .int q, l6, .int ru, .int w, .int t9, .int v17, .int v29], [.int w, .int v36], (h.1, I25, J26, h.2.2.2))) rfl ?_
          refine qm_Ru.call (j := 235) (as := [.int w]) (c' := (193, [.ref 38, .int b, .int o, .int be, .int v29, .int q, l6, .int ru, .int w, .int t9, .int v17, .int v29], [.int v36], (h.1, I25, J26, h.2.2.2))) rfl rfl rfl ?_
          refine qm_Ru.go 4 (c' := (5, [.int w], [.int (w / 4), .int 10], (h.1, I25, J26, h.2.2.2))) rfl ?_
          rw [q_v5]
          refine qm_Ru.go 1 (c' := (6, [.int w], [.int (10 * v5)], (h.1, I25, J26, h.2.2.2))) rfl ?_
          obtain ⟨v38, q_v38, e_v38⟩ := hk_mul (x := 10) (y := v5) (a := 10) (b := v5.toInt) rfl rfl (by omega) (by omega)
          rw [q_v38]
          refine qm_Ru.go 3 (c' := (9, [.int w], [.int (w - w / 4 * 4), .int v38], (h.1, I25, J26, h.2.2.2))) rfl ?_
          rw [q_v6]
          refine qm_Ru.go 1 (c' := (10, [.int w], [.int (v38 + v6)], (h.1, I25, J26, h.2.2.2))) rfl ?_
          obtain ⟨v40, q_v40, e_v40⟩ := hk_add (x := v38) (y := v6) (a := v38.toInt) (b := v6.toInt) rfl rfl (by omega) (by omega)
          rw [q_v40]
          refine qm_Ru.rt (v := (some (.int v40))) (h' := (h.1, I25, J26, h.2.2.2)) rfl ?_
          refine qm_Ru.go 1 (c' := (194, [.ref 38, .int b, .int o, .int be, .int v29, .int q, l6, .int ru, .int w, .int t9, .int v17, .int v29], [.int (v36 + v40)], (h.1, I25, J26, h.2.2.2))) rfl ?_
          obtain ⟨v41, q_v41, e_v41⟩ := hk_add (x := v36) (y := v40) (a := v36.toInt) (b := v40.toInt) rfl rfl (by omega) (by omega)
          rw [q_v41]
          refine qm_Ru.go 2 (c' := (198, [.ref 38, .int b, .int o, .int v41, .int v29, .int q, l6, .int ru, .int (w + 1), .int t9, .int v17, .int v29], [], (h.1, I25, J26, h.2.2.2))) rfl ?_
          obtain ⟨v42, q_v42, e_v42⟩ := hk_add (x := w) (y := 1) (a := w.toInt) (b := 1) rfl rfl (by omega) (by omega)
          rw [q_v42]
          refine qm_Ru.go 1 (c' := (88, [.ref 38, .int b, .int o, .int v41, .int v29, .int q, l6, .int ru, .int v42, .int t9, .int v17, .int v29], [], (h.1, I25, J26, h.2.2.2))) rfl ?_
          exact ih _ (by omega) (I25) (J26) v41 v29 v42 (.int t9) (.int v17) (.int v29) hB_I25 (fun o ho i => ((e_I25 o (hk_ms rfl ho) i).trans ((e_I20 o (hk_ms rfl ho) i).trans (e o ho i)))) hV_I25 ((congrArg Int32.toInt (((o_I25 b.toInt.toNat hne).1).trans ((e_I20 11 rfl (b.toInt.toNat)).trans rfl))).trans h1) (fun i => ((s_I25 i).trans ((e_I20 36 rfl i).trans (h36 i)))) ⟨((((o_I25 b.toInt.toNat hne).2.1).trans ((e_I20 12 rfl (b.toInt.toNat)).trans rfl))).trans hyb.1, ((((o_I25 b.toInt.toNat hne).2.2.1).trans ((e_I20 13 rfl (b.toInt.toNat)).trans rfl))).trans hyb.2.1, ((((o_I25 b.toInt.toNat hne).2.2.2).trans ((e_I20 14 rfl (b.toInt.toNat)).trans rfl))).trans hyb.2.2⟩ ((congrArg Int32.toInt q_v28).trans (by omega)) (by omega) rfl
theorem hl_ctwo2_111 {L : Nat} {xs : Nat → Int32} {d : Nat} {Z : Option Value → qm_H → Prop} {h : qm_H} (h6 : 6 ≤ L) (hH : hk_H h) (hB : hk_B h.2.1) (hT : h.2.2.2 0 9 = some 29 ∧ h.2.2.2 28 2 = some 111) (hW : wS h 111) {b o : Int32} (b_b : (0 : Int) ≤ b.toInt ∧ b.toInt ≤ 29) (b_o : (0 : Int) ≤ o.toInt ∧ o.toInt ≤ 29) (hbo : b.toInt ≠ o.toInt) (k : ∀ (v : Int32) (I : Nat → Nat → Int32) (J : Nat → Nat → Int64), hk_B I → v_C I → (∀ o, [11, 12, 13, 14, 28, 36, 37, 39, 116, 192, 193, 194, 195, 196, 197, 198, 199, 200, 201, 202, 203, 204, 205, 206, 207, 208, 209, 210, 211, 212, 213, 214, 215, 216, 217, 218, 219, 220, 221, 222, 223, 224, 225, 226, 227, 228, 229, 230, 231, 232, 233].contains o = false → ∀ i, I o i = h.2.1 o i) → Z (some (.int v)) (h.1, I, J, h.2.2.2)) : ∀ (m : Nat) (I : Nat → Nat → Int32) (J : Nat → Nat → Int64) (be : Int32) (le : Int32) (q : Int32) (l6 l7 l8 l9 l10 l11 : Value), hk_B I → (∀ o, [11, 12, 13, 14, 28, 36, 37, 39, 116, 192, 193, 194, 195, 196, 197, 198, 199, 200, 201, 202, 203, 204, 205, 206, 207, 208, 209, 210, 211, 212, 213, 214, 215, 216, 217, 218, 219, 220, 221, 222, 223, 224, 225, 226, 227, 228, 229, 230, 231, 232, 233].contains o = false → ∀ i, I o i = h.2.1 o i) → (v_C I) → ((I 11 (b.toInt.toNat)).toInt = 0) → ((I 11 (o.toInt.toNat)).toInt = 0) → ((0 : Int) ≤ q.toInt ∧ q.toInt ≤ 20) → (20 - q.toInt).toNat = m → qm_Ru (some (L, xs)) (d + 100) cd_238 (10, [.ref 38, .int b, .int o, .int be, .int le, .int q, l6, l7, l8, l9, l10, l11], [], (h.1, I, J, h.2.2.2)) Z := by
  intro m
  induction m using Nat.strongRecOn with
  | ind m ih =>
    intro I J be le q l6 l7 l8 l9 l10 l11 hBI e hVI h1 ho hq hm
    refine qm_Ru.go 1 (c' := (12, [.ref 38, .int b, .int o, .int be, .int le, .int q, l6, l7, l8, l9, l10, l11], [.int q], (h.1, I, J, h.2.2.2))) rfl ?_
    have hne : b.toInt.toNat ≠ o.toInt.toNat := by omega
    obtain ⟨v1, q_v1⟩ : ∃ v, I 11 (b.toInt.toNat) = v := ⟨_, rfl⟩
    have f_v1 : v1.toInt = 0 := by rw [← q_v1]; exact h1
    obtain ⟨v2, q_v2⟩ : ∃ v, I 11 (o.toInt.toNat) = v := ⟨_, rfl⟩
    have f_v2 : v2.toInt = 0 := by rw [← q_v2]; exact ho
    refine qm_Ru.go 1 (c' := (13, [.ref 38, .int b, .int o, .int be, .int le, .int q, l6, l7, l8, l9, l10, l11], [.ref 38, .int q], (h.1, I, J, h.2.2.2))) rfl ?_
    refine hk_getr rfl (hH.1 38 (10, 5) rfl) rfl (hH.2 38 1 (some 28) rfl) ?_
    refine qm_Ru.go 0 (c' := (16, [.ref 38, .int b, .int o, .int be, .int le, .int q, l6, l7, l8, l9, l10, l11], [.ref 28, .int q], (h.1, I, J, h.2.2.2))) rfl ?_
    refine hk_getr rfl (hH.1 28 (9, 8) rfl) rfl hT.2 ?_
    refine qm_Ru.go 0 (c' := (19, [.ref 38, .int b, .int o, .int be, .int le, .int q, l6, l7, l8, l9, l10, l11], [.ref 111, .int q], (h.1, I, J, h.2.2.2))) rfl ?_
    obtain ⟨v3, q_v3⟩ : ∃ v, h.2.1 111 0 = v := ⟨_, rfl⟩
    have b_v3 : (2 : Int) ≤ v3.toInt ∧ v3.toInt ≤ 5 := by rw [← q_v3]; exact hB 111 0
    refine hk_geti (v := v3) rfl (hH.1 111 (11, 16) rfl) rfl (show (I) 111 0 = _ from ((e 111 rfl 0).trans q_v3)) ?_
    refine qm_Ru.go 2 (c' := (24, [.ref 38, .int b, .int o, .int be, .int le, .int q, l6, l7, l8, l9, l10, l11], [.int (v3 * 4), .int q], (h.1, I, J, h.2.2.2))) rfl ?_
    obtain ⟨v4, q_v4, e_v4⟩ := hk_mul (x := v3) (y := 4) (a := v3.toInt) (b := 4) rfl rfl (by omega) (by omega)
    rw [q_v4]
    refine hk_cge (ix := q.toInt) (iy := v4.toInt) rfl rfl rfl (fun z5 => ?_) (fun z5 => ?_)
    · refine qm_Ru.go 1 (c' := (216, [.ref 38, .int b, .int o, .int be, .int le, .int q, l6, l7, l8, l9, l10, l11], [.int be], (h.1, I, J, h.2.2.2))) rfl ?_
      refine qm_Ru.rt (v := (some (.int be))) (h' := (h.1, I, J, h.2.2.2)) rfl ?_
      exact k be (I) (J) hBI hVI (fun o ho i => (e o ho i))
    · refine qm_Ru.go 1 (c' := (28, [.ref 38, .int b, .int o, .int be, .int le, .int q, l6, l7, l8, l9, l10, l11], [.ref 38], (h.1, I, J, h.2.2.2))) rfl ?_
      refine hk_getr rfl (hH.1 38 (10, 5) rfl) rfl (hH.2 38 1 (some 28) rfl) ?_
      refine qm_Ru.go 4 (c' := (36, [.ref 38, .int b, .int o, .int be, .int le, .int q, l6, l7, l8, l9, l10, l11], [.int (q / 4), .int b, .ref 28], (h.1, I, J, h.2.2.2))) rfl ?_
      obtain ⟨v6, q_v6, e_v6⟩ := hk_div (x := q) (y := 4) (a := q.toInt) (b := 4) rfl rfl (by omega) (by omega)
      rw [q_v6]
      refine qm_Ru.go 3 (c' := (40, [.ref 38, .int b, .int o, .int be, .int le, .int q, l6, l7, l8, l9, l10, l11], [.int (q - q / 4 * 4), .int v6, .int b, .ref 28], (h.1, I, J, h.2.2.2))) rfl ?_
      obtain ⟨v7, q_v7, e_v7⟩ := hk_rem (x := q) (y := 4) (a := q.toInt) (b := 4) rfl rfl (by omega) (by omega)
      rw [q_v7]
      refine hk_inv (o := 28) (r := []) (as := [.ref 28, .int b, .int v6, .int v7]) rfl rfl (hH.1 28 (9, 8) rfl) rfl rfl rfl rfl (hq_try111 (h := (h.1, I, J, h.2.2.2)) h6 hH hT hBI hVI (b := b) (y := v6) (r := v7) (fun v8 J9 c_v8 d_v8 => ?_) (fun t10 J11 f12 g13 => ?_))
      · refine qm_Ru.go 2 (c' := (47, [.ref 38, .int b, .int o, .int be, .int le, .int q, .int v8, l7, l8, l9, l10, l11], [.int v8], (h.1, I, J9, h.2.2.2))) rfl ?_
        refine hk_zge (ix := v8.toInt) rfl rfl (fun z14 => by exfalso; omega) (fun z14 => ?_)
        refine qm_Ru.go 2 (c' := (212, [.ref 38, .int b, .int o, .int be, .int le, .int (q + 1), .int v8, l7, l8, l9, l10, l11], [], (h.1, I, J9, h.2.2.2))) rfl ?_
        obtain ⟨v15, q_v15, e_v15⟩ := hk_add (x := q) (y := 1) (a := q.toInt) (b := 1) rfl rfl (by omega) (by omega)
        rw [q_v15]
        refine qm_Ru.go 1 (c' := (10, [.ref 38, .int b, .int o, .int be, .int le, .int v15, .int v8, l7, l8, l9, l10, l11], [], (h.1, I, J9, h.2.2.2))) rfl ?_
        exact ih _ (by omega) (I) (J9) be le v15 (.int v8) l7 l8 l9 l10 l11 hBI (fun o ho i => (e o ho i)) hVI ((congrArg Int32.toInt q_v1).trans (by omega)) ((congrArg Int32.toInt q_v2).trans (by omega)) (by omega) rfl
      · obtain ⟨f12_y, f12_r, f12_t, f12_f, f12_b⟩ := f12
        obtain ⟨g13_b, g13_n, _⟩ := g13
        refine qm_Ru.go 2 (c' := (47, [.ref 38, .int b, .int o, .int be, .int le, .int q, .int t10, l7, l8, l9, l10, l11], [.int t10], (h.1, I, J11, h.2.2.2))) rfl ?_
        refine hk_zge (ix := t10.toInt) rfl rfl (fun z16 => ?_) (fun z16 => by exfalso; omega)
        refine qm_Ru.go 5 (c' := (59, [.ref 38, .int b, .int o, .int be, .int le, .int q, .int t10, l7, l8, l9, l10, l11], [.int (q * 4), .int b, .ref 38], (h.1, I, J11, h.2.2.2))) rfl ?_
        obtain ⟨v17, q_v17, e_v17⟩ := hk_mul (x := q) (y := 4) (a := q.toInt) (b := 4) rfl rfl (by omega) (by omega)
        rw [q_v17]
        refine qm_Ru.go 2 (c' := (62, [.ref 38, .int b, .int o, .int be, .int le, .int q, .int t10, l7, l8, l9, l10, l11], [.int (v17 + t10), .int b, .ref 38], (h.1, I, J11, h.2.2.2))) rfl ?_
        obtain ⟨v18, q_v18, e_v18⟩ := hk_add (x := v17) (y := t10) (a := v17.toInt) (b := t10.toInt) rfl rfl (by omega) (by omega)
        rw [q_v18]
        refine hk_inv (o := 38) (r := []) (as := [.ref 38, .int b, .int v18]) rfl rfl (hH.1 38 (10, 5) rfl) rfl rfl rfl rfl (hs_brk111 (h := (h.1, I, J11, h.2.2.2)) h6 hH hT hBI (v_C_ru hVI) ⟨by show (0 : Int) ≤ b.toInt; omega, by show b.toInt ≤ (29 : Int); omega⟩ ⟨by show (0 : Int) ≤ v18.toInt; omega, by show v18.toInt ≤ (79 : Int); omega⟩ (wS_same hW rfl rfl) (by omega) (fun v21 I19 J20 _ hB_I19 e_I19 => ?_))
        have hV_I19 : v_C I19 := v_C_cg9 hVI (fun o ho i => e_I19 o (q9_brk111 ho) i)
        refine qm_Ru.go 2 (c' := (68, [.ref 38, .int b, .int o, .int be, .int le, .int q, .int t10, .int v21, l8, l9, l10, l11], [.ref 38], (h.1, I19, J20, h.2.2.2))) rfl ?_
        refine hk_getr rfl (hH.1 38 (10, 5) rfl) rfl (hH.2 38 1 (some 28) rfl) ?_
        refine qm_Ru.go 4 (c' := (76, [.ref 38, .int b, .int o, .int be, .int le, .int q, .int t10, .int v21, l8, l9, l10, l11], [.int (q / 4), .int b, .ref 28], (h.1, I19, J20, h.2.2.2))) rfl ?_
        rw [q_v6]
        refine qm_Ru.go 3 (c' := (80, [.ref 38, .int b, .int o, .int be, .int le, .int q, .int t10, .int v21, l8, l9, l10, l11], [.int (q - q / 4 * 4), .int v6, .int b, .ref 28], (h.1, I19, J20, h.2.2.2))) rfl ?_
        rw [q_v7]
        refine qm_Ru.go 1 (c' := (82, [.ref 38, .int b, .int o, .int be, .int le, .int q, .int t10, .int v21, l8, l9, l10, l11], [.int t10, .int v7, .int v6, .int b, .ref 28], (h.1, I19, J20, h.2.2.2))) rfl ?_
        refine hk_inv (o := 28) (r := []) (as := [.ref 28, .int b, .int v6, .int v7, .int t10]) rfl rfl (hH.1 28 (9, 8) rfl) rfl rfl rfl rfl (hm_sput (h := (h.1, I19, J20, h.2.2.2)) hH (b := b) (y := v6) (r := v7) (t := t10) (by omega) (by omega) (by omega) (by omega) (fun v24 v25 v26 v27 e_v24 => ?_))
        refine qm_Ru.go 2 (c' := (88, [.ref 38, .int b, .int o, .int be, .int le, .int q, .int t10, .int v21, .int 0, l9, l10, l11], [], (h.1, qm_up (qm_up (qm_up (qm_up (qm_up (qm_up (qm_up (qm_up I19 36 (v24.toInt.toNat) b) 28 6 v25) 37 (v6.toInt.toNat) v26) 28 5 v27) 11 (b.toInt.toNat) 1) 12 (b.toInt.toNat) v6) 13 (b.toInt.toNat) v7) 14 (b.toInt.toNat) t10, J20, h.2.2.2))) rfl ?_
        obtain ⟨v28, q_v28⟩ : ∃ v, h.2.1 6 0 = v := ⟨_, rfl⟩
        have b_v28 : (0 : Int) ≤ v28.toInt ∧ v28.toInt ≤ 30 := by rw [← q_v28]; exact hB 6 0
        refine hl_ctwo1_111 h6 hH hB hT hW b_b b_o hbo (f36 := fun i => (qm_up (qm_up (qm_up (qm_up (qm_up (qm_up (qm_up (qm_up I19 36 (v24.toInt.toNat) b) 28 6 v25) 37 (v6.toInt.toNat) v26) 28 5 v27) 11 (b.toInt.toNat) 1) 12 (b.toInt.toNat) v6) 13 (b.toInt.toNat) v7) 14 (b.toInt.toNat) t10) 36 i) (y0 := v6) (r0 := v7) (t0 := t10) (q := q) (ru := v21) (l6 := (.int t10)) (by omega) (fun I32 J33 be le w l9 l10 l11 B31 e29 V30 h1b h36b hyb hob => ?_) _ (qm_up (qm_up (qm_up (qm_up (qm_up (qm_up (qm_up (qm_up I19 36 (v24.toInt.toNat) b) 28 6 v25) 37 (v6.toInt.toNat) v26) 28 5 v27) 11 (b.toInt.toNat) 1) 12 (b.toInt.toNat) v6) 13 (b.toInt.toNat) v7) 14 (b.toInt.toNat) t10) (J20) be le 0 l9 l10 l11 (hb_up (o := 14) (k := b.toInt.toNat) (x := t10) (hb_up (o := 13) (k := b.toInt.toNat) (x := v7) (hb_up (o := 12) (k := b.toInt.toNat) (x := v6) (hb_up (o := 11) (k := b.toInt.toNat) (x := 1) (hb_up (o := 28) (k := 5) (x := v27) (hb_up (o := 37) (k := v6.toInt.toNat) (x := v26) (hb_up (o := 28) (k := 6) (x := v25) (hb_up (o := 36) (k := v24.toInt.toNat) (x := b) hB_I19 ⟨by show (-1 : Int) ≤ b.toInt; omega, by show b.toInt ≤ (29 : Int); omega⟩) (qa_in_full _)) (qa_in_full _)) (qa_in_full _)) ⟨(show (0 : Int) ≤ 1 from by decide), (show (1 : Int) ≤ 2 from by decide)⟩) ⟨by show (-1 : Int) ≤ v6.toInt; omega, by show v6.toInt ≤ (4 : Int); omega⟩) ⟨by show (-1 : Int) ≤ v7.toInt; omega, by show v7.toInt ≤ (3 : Int); omega⟩) ⟨by show (-1 : Int) ≤ t10.toInt; omega, by show t10.toInt ≤ (3 : Int); omega⟩) (fun o ho i => ((hk_mod ho rfl).trans ((hk_mod ho rfl).trans ((hk_mod ho rfl).trans ((hk_mod ho rfl).trans ((hk_mod ho rfl).trans ((hk_mod ho rfl).trans ((hk_mod ho rfl).trans ((hk_mod ho rfl).trans ((e_I19 o (hk_ms rfl ho) i).trans (e o ho i))))))))))) ⟨⟨(mC_put (I := I19) (I' := qm_up (qm_up (qm_up (qm_up (qm_up (qm_up (qm_up (qm_up I19 36 (v24.toInt.toNat) b) 28 6 v25) 37 (v6.toInt.toNat) v26) 28 5 v27) 11 (b.toInt.toNat) 1) 12 (b.toInt.toNat) v6) 13 (b.toInt.toNat) v7) 14 (b.toInt.toNat) t10) hV_I19.1.1 ((pI_sk rfl).trans ((pI_sk rfl).trans ((pI_sk rfl).trans (pI_up.trans (congrArg (fun f => fu_up f b.toInt.toNat (Int32.toInt 1)) ((pI_sk rfl).trans ((pI_sk rfl).trans ((pI_sk rfl).trans ((pI_sk rfl).trans rfl))))))))) ((pI_sk rfl).trans ((pI_sk rfl).trans (pI_up.trans (congrArg (fun f => fu_up f b.toInt.toNat (Int32.toInt v6)) ((pI_sk rfl).trans ((pI_sk rfl).trans ((pI_sk rfl).trans ((pI_sk rfl).trans ((pI_sk rfl).trans rfl))))))))) ((pI_sk rfl).trans (pI_up.trans (congrArg (fun f => fu_up f b.toInt.toNat (Int32.toInt v7)) ((pI_sk rfl).trans ((pI_sk rfl).trans ((pI_sk rfl).trans ((pI_sk rfl).trans ((pI_sk rfl).trans ((pI_sk rfl).trans rfl))))))))) (pI_up.trans (congrArg (fun f => fu_up f b.toInt.toNat (Int32.toInt t10)) ((pI_sk rfl).trans ((pI_sk rfl).trans ((pI_sk rfl).trans ((pI_sk rfl).trans ((pI_sk rfl).trans ((pI_sk rfl).trans ((pI_sk rfl).trans rfl))))))))) ((pI_sk rfl).trans ((pI_sk rfl).trans ((pI_sk rfl).trans ((pI_sk rfl).trans ((pI_sk rfl).trans ((pI_sk rfl).trans ((pI_sk rfl).trans (pI_up.trans rfl)))))))) ((pI_sk rfl).trans ((pI_sk rfl).trans ((pI_sk rfl).trans ((pI_sk rfl).trans ((pI_sk rfl).trans ((pI_sk rfl).trans ((pI_sk rfl).trans ((pI_sk rfl).trans rfl)))))))) ((pI_sk rfl).trans ((pI_sk rfl).trans ((pI_sk rfl).trans ((pI_sk rfl).trans ((pI_sk rfl).trans ((pI_sk rfl).trans ((pI_sk rfl).trans ((pI_sk rfl).trans rfl)))))))) (congrArg Int32.toInt ((hk_ot rfl).trans ((hk_ot rfl).trans ((hk_ot rfl).trans ((hk_ot rfl).trans ((hk_ot rfl).trans ((hk_ot rfl).trans ((hk_ot rfl).trans ((hk_ot rfl).trans rfl))))))))) ((congrArg Int32.toInt (show (I19) 11 (b.toInt.toNat) = _ from ((e_I19 11 rfl (b.toInt.toNat)).trans q_v1))).trans (by omega)) (show (I19 6 0).toInt = pI I 6 0 from by rw [e_I19 6 rfl 0]; exact rfl) rfl (by omega) (by omega) (by omega) (by omega) (by omega) (by have h9 : b.toInt < pI I 6 0 := g13_n; omega)), (mB_put (I := I19) (I' := qm_up (qm_up (qm_up (qm_up (qm_up (qm_up (qm_up (qm_up I19 36 (v24.toInt.toNat) b) 28 6 v25) 37 (v6.toInt.toNat) v26) 28 5 v27) 11 (b.toInt.toNat) 1) 12 (b.toInt.toNat) v6) 13 (b.toInt.toNat) v7) 14 (b.toInt.toNat) t10) (y := v6.toInt) (r := v7.toInt) (t := t10.toInt) hV_I19.1.2 ((pI_sk rfl).trans ((pI_sk rfl).trans ((pI_sk rfl).trans ((pI_sk rfl).trans ((pI_sk rfl).trans ((pI_sk rfl).trans ((pI_sk rfl).trans (pI_up.trans rfl)))))))) (by omega) (by omega) (fun c => by show 0 ≤ (I19 36 (16 * v6.toInt + 4 * v7.toInt + t10.toInt - 1).toNat).toInt; rw [e_I19 36 rfl _]; exact f12_b (by omega)))⟩, hV_I19.2⟩ (congrArg Int32.toInt ((hk_ot rfl).trans ((hk_ot rfl).trans ((hk_ot rfl).trans (hk_same))))) (fun _ => rfl) ⟨((hk_ot rfl).trans ((hk_ot rfl).trans (hk_same))), ((hk_ot rfl).trans (hk_same)), (hk_same)⟩ ((congrArg Int32.toInt (show (qm_up (qm_up (qm_up (qm_up (qm_up (qm_up (qm_up (qm_up I19 36 (v24.toInt.toNat) b) 28 6 v25) 37 (v6.toInt.toNat) v26) 28 5 v27) 11 (b.toInt.toNat) 1) 12 (b.toInt.toNat) v6) 13 (b.toInt.toNat) v7) 14 (b.toInt.toNat) t10) 11 (o.toInt.toNat) = _ from ((hk_ot rfl).trans ((hk_ot rfl).trans ((hk_ot rfl).trans ((hk_neq (by omega)).trans ((hk_ot rfl).trans ((hk_ot rfl).trans ((hk_ot rfl).trans ((hk_ot rfl).trans ((e_I19 11 rfl (o.toInt.toNat)).trans q_v2))))))))))).trans (by omega)) (by decide) rfl
        obtain ⟨hy12, hy13, hy14⟩ := hyb
        obtain ⟨v34, q_v34⟩ : ∃ v, I32 12 (b.toInt.toNat) = v := ⟨_, rfl⟩
        have x_v34 : v34 = v6 := q_v34.symm.trans hy12
        have z_v34 : v34.toInt = v6.toInt := by rw [x_v34]
        obtain ⟨v35, q_v35⟩ : ∃ v, I32 13 (b.toInt.toNat) = v := ⟨_, rfl⟩
        have x_v35 : v35 = v7 := q_v35.symm.trans hy13
        have z_v35 : v35.toInt = v7.toInt := by rw [x_v35]
        obtain ⟨v36, q_v36⟩ : ∃ v, I32 14 (b.toInt.toNat) = v := ⟨_, rfl⟩
        have x_v36 : v36 = t10 := q_v36.symm.trans hy14
        have z_v36 : v36.toInt = t10.toInt := by rw [x_v36]
        obtain ⟨v37, q_v37⟩ : ∃ v, I32 11 (b.toInt.toNat) = v := ⟨_, rfl⟩
        have f_v37 : v37.toInt = 1 := by rw [← q_v37]; exact h1b
        obtain ⟨v38, q_v38⟩ : ∃ v, I32 11 (o.toInt.toNat) = v := ⟨_, rfl⟩
        have f_v38 : v38.toInt = 0 := by rw [← q_v38]; exact hob
        refine qm_Ru.go 1 (c' := (202, [.ref 38, .int b, .int o, .int be, .int le, .int q, .int t10, .int v21, .int w, l9, l10, l11], [.ref 38], (h.1, I32, J33, h.2.2.2))) rfl ?_
        refine hk_getr rfl (hH.1 38 (10, 5) rfl) rfl (hH.2 38 1 (some 28) rfl) ?_
        refine qm_Ru.go 1 (c' := (206, [.ref 38, .int b, .int o, .int be, .int le, .int q, .int t10, .int v21, .int w, l9, l10, l11], [.int b, .ref 28], (h.1, I32, J33, h.2.2.2))) rfl ?_
        refine hk_inv (o := 28) (r := []) (as := [.ref 28, .int b]) rfl rfl (hH.1 28 (9, 8) rfl) rfl rfl rfl rfl (hm_rem (h := (h.1, I32, J33, h.2.2.2)) hH (b := b) (y1 := v34) (r1 := v35) (t1 := v36) (by omega) q_v34 (by omega) q_v35 (by omega) q_v36 (by omega) (fun v39 v40 v41 v42 e_v39 => ?_))
        refine qm_Ru.go 1 (c' := (212, [.ref 38, .int b, .int o, .int be, .int le, .int (q + 1), .int t10, .int v21, .int w, l9, l10, l11], [], (h.1, qm_up (qm_up (qm_up (qm_up (qm_up (qm_up (qm_up (qm_up I32 36 (v39.toInt.toNat) (-1)) 28 6 v40) 37 (v34.toInt.toNat) v41) 28 5 v42) 11 (b.toInt.toNat) 0) 12 (b.toInt.toNat) (-1)) 13 (b.toInt.toNat) (-1)) 14 (b.toInt.toNat) (-1), J33, h.2.2.2))) rfl ?_
        obtain ⟨v43, q_v43, e_v43⟩ := hk_add (x := q) (y := 1) (a := q.toInt) (b := 1) rfl rfl (by omega) (by omega)
        rw [q_v43]
        refine qm_Ru.go 1 (c' := (10, [.ref 38, .int b, .int o, .int be, .int le, .int v43, .int t10, .int v21, .int w, l9, l10, l11], [], (h.1, qm_up (qm_up (qm_up (qm_up (qm_up (qm_up (qm_up (qm_up I32 36 (v39.toInt.toNat) (-1)) 28 6 v40) 37 (v34.toInt.toNat) v41) 28 5 v42) 11 (b.toInt.toNat) 0) 12 (b.toInt.toNat) (-1)) 13 (b.toInt.toNat) (-1)) 14 (b.toInt.toNat) (-1), J33, h.2.2.2))) rfl ?_
        exact ih _ (by omega) (qm_up (qm_up (qm_up (qm_up (qm_up (qm_up (qm_up (qm_up I32 36 (v39.toInt.toNat) (-1)) 28 6 v40) 37 (v34.toInt.toNat) v41) 28 5 v42) 11 (b.toInt.toNat) 0) 12 (b.toInt.toNat) (-1)) 13 (b.toInt.toNat) (-1)) 14 (b.toInt.toNat) (-1)) (J33) be le v43 (.int t10) (.int v21) (.int w) l9 l10 l11 (hb_up (o := 14) (k := b.toInt.toNat) (x := (-1)) (hb_up (o := 13) (k := b.toInt.toNat) (x := (-1)) (hb_up (o := 12) (k := b.toInt.toNat) (x := (-1)) (hb_up (o := 11) (k := b.toInt.toNat) (x := 0) (hb_up (o := 28) (k := 5) (x := v42) (hb_up (o := 37) (k := v34.toInt.toNat) (x := v41) (hb_up (o := 28) (k := 6) (x := v40) (hb_up (o := 36) (k := v39.toInt.toNat) (x := (-1)) B31 ⟨(show (-1 : Int) ≤ -1 from by decide), (show (-1 : Int) ≤ 29 from by decide)⟩) (qa_in_full _)) (qa_in_full _)) (qa_in_full _)) ⟨(show (0 : Int) ≤ 0 from by decide), (show (0 : Int) ≤ 2 from by decide)⟩) ⟨(show (-1 : Int) ≤ -1 from by decide), (show (-1 : Int) ≤ 4 from by decide)⟩) ⟨(show (-1 : Int) ≤ -1 from by decide), (show (-1 : Int) ≤ 3 from by decide)⟩) ⟨(show (-1 : Int) ≤ -1 from by decide), (show (-1 : Int) ≤ 3 from by decide)⟩) (fun o ho i => ((hk_mod ho rfl).trans ((hk_mod ho rfl).trans ((hk_mod ho rfl).trans ((hk_mod ho rfl).trans ((hk_mod ho rfl).trans ((hk_mod ho rfl).trans ((hk_mod ho rfl).trans ((hk_mod ho rfl).trans ((e29 o (hk_ms rfl ho) i).trans rfl)))))))))) ⟨⟨(mC_rem (I := I32) (I' := qm_up (qm_up (qm_up (qm_up (qm_up (qm_up (qm_up (qm_up I32 36 (v39.toInt.toNat) (-1)) 28 6 v40) 37 (v34.toInt.toNat) v41) 28 5 v42) 11 (b.toInt.toNat) 0) 12 (b.toInt.toNat) (-1)) 13 (b.toInt.toNat) (-1)) 14 (b.toInt.toNat) (-1)) V30.1.1 ((pI_sk rfl).trans ((pI_sk rfl).trans ((pI_sk rfl).trans (pI_up.trans (congrArg (fun f => fu_up f b.toInt.toNat (Int32.toInt 0)) ((pI_sk rfl).trans ((pI_sk rfl).trans ((pI_sk rfl).trans ((pI_sk rfl).trans rfl))))))))) ((pI_sk rfl).trans ((pI_sk rfl).trans (pI_up.trans (congrArg (fun f => fu_up f b.toInt.toNat (Int32.toInt ((-1)))) ((pI_sk rfl).trans ((pI_sk rfl).trans ((pI_sk rfl).trans ((pI_sk rfl).trans ((pI_sk rfl).trans rfl))))))))) ((pI_sk rfl).trans (pI_up.trans (congrArg (fun f => fu_up f b.toInt.toNat (Int32.toInt ((-1)))) ((pI_sk rfl).trans ((pI_sk rfl).trans ((pI_sk rfl).trans ((pI_sk rfl).trans ((pI_sk rfl).trans ((pI_sk rfl).trans rfl))))))))) (pI_up.trans (congrArg (fun f => fu_up f b.toInt.toNat (Int32.toInt ((-1)))) ((pI_sk rfl).trans ((pI_sk rfl).trans ((pI_sk rfl).trans ((pI_sk rfl).trans ((pI_sk rfl).trans ((pI_sk rfl).trans ((pI_sk rfl).trans rfl))))))))) ((pI_sk rfl).trans ((pI_sk rfl).trans ((pI_sk rfl).trans ((pI_sk rfl).trans ((pI_sk rfl).trans ((pI_sk rfl).trans ((pI_sk rfl).trans (pI_up.trans rfl)))))))) ((pI_sk rfl).trans ((pI_sk rfl).trans ((pI_sk rfl).trans ((pI_sk rfl).trans ((pI_sk rfl).trans ((pI_sk rfl).trans ((pI_sk rfl).trans ((pI_sk rfl).trans rfl)))))))) ((pI_sk rfl).trans ((pI_sk rfl).trans ((pI_sk rfl).trans ((pI_sk rfl).trans ((pI_sk rfl).trans ((pI_sk rfl).trans ((pI_sk rfl).trans ((pI_sk rfl).trans rfl)))))))) (congrArg Int32.toInt ((hk_ot rfl).trans ((hk_ot rfl).trans ((hk_ot rfl).trans ((hk_ot rfl).trans ((hk_ot rfl).trans ((hk_ot rfl).trans ((hk_ot rfl).trans ((hk_ot rfl).trans rfl))))))))) h1b rfl hk_m1 (by rw [show pI I32 12 (b.toInt.toNat) = v34.toInt from congrArg Int32.toInt q_v34, show pI I32 13 (b.toInt.toNat) = v35.toInt from congrArg Int32.toInt q_v35, show pI I32 14 (b.toInt.toNat) = v36.toInt from congrArg Int32.toInt q_v36]; omega)), (mB_rem (I := I32) (I' := qm_up (qm_up (qm_up (qm_up (qm_up (qm_up (qm_up (qm_up I32 36 (v39.toInt.toNat) (-1)) 28 6 v40) 37 (v34.toInt.toNat) v41) 28 5 v42) 11 (b.toInt.toNat) 0) 12 (b.toInt.toNat) (-1)) 13 (b.toInt.toNat) (-1)) 14 (b.toInt.toNat) (-1)) V30.1.2 ((pI_sk rfl).trans ((pI_sk rfl).trans ((pI_sk rfl).trans ((pI_sk rfl).trans ((pI_sk rfl).trans ((pI_sk rfl).trans ((pI_sk rfl).trans (pI_up.trans rfl)))))))) hk_m1 (fun c => by show (I32 36 (v39.toInt.toNat + 1)).toInt < 0; rw [h36b]; show ((qm_up (qm_up (qm_up (qm_up (qm_up (qm_up (qm_up (qm_up I19 36 (v24.toInt.toNat) b) 28 6 v25) 37 (v6.toInt.toNat) v26) 28 5 v27) 11 (b.toInt.toNat) 1) 12 (b.toInt.toNat) v6) 13 (b.toInt.toNat) v7) 14 (b.toInt.toNat) t10) 36 (v39.toInt.toNat + 1)).toInt < 0; rw [show (qm_up (qm_up (qm_up (qm_up (qm_up (qm_up (qm_up (qm_up I19 36 (v24.toInt.toNat) b) 28 6 v25) 37 (v6.toInt.toNat) v26) 28 5 v27) 11 (b.toInt.toNat) 1) 12 (b.toInt.toNat) v6) 13 (b.toInt.toNat) v7) 14 (b.toInt.toNat) t10) 36 (v39.toInt.toNat + 1) = I19 36 (v39.toInt.toNat + 1) from ((hk_ot rfl).trans ((hk_ot rfl).trans ((hk_ot rfl).trans ((hk_ot rfl).trans ((hk_ot rfl).trans ((hk_ot rfl).trans ((hk_ot rfl).trans ((hk_neq (by omega)).trans rfl))))))))]; rw [e_I19 36 rfl _]; rw [show v39.toInt.toNat + 1 = (16 * v6.toInt + 4 * v7.toInt + (t10.toInt + 1)).toNat from by omega]; exact Int.not_le.mp (fun z => by have := b_low hVI.1.2 (y := v6.toInt) (r := v7.toInt) (t := t10.toInt) (by omega) (by omega) (by omega) z; rw [f12_f] at this; exact absurd this (by decide))))⟩, V30.2⟩ (congrArg Int32.toInt ((hk_ot rfl).trans ((hk_ot rfl).trans ((hk_ot rfl).trans (hk_same))))) ((congrArg Int32.toInt (show (qm_up (qm_up (qm_up (qm_up (qm_up (qm_up (qm_up (qm_up I32 36 (v39.toInt.toNat) (-1)) 28 6 v40) 37 (v34.toInt.toNat) v41) 28 5 v42) 11 (b.toInt.toNat) 0) 12 (b.toInt.toNat) (-1)) 13 (b.toInt.toNat) (-1)) 14 (b.toInt.toNat) (-1)) 11 (o.toInt.toNat) = _ from ((hk_ot rfl).trans ((hk_ot rfl).trans ((hk_ot rfl).trans ((hk_neq (by omega)).trans ((hk_ot rfl).trans ((hk_ot rfl).trans ((hk_ot rfl).trans ((hk_ot rfl).trans q_v38)))))))))).trans (by omega)) (by omega) rfl
theorem hs_ctwo111 {L : Nat} {xs : Nat → Int32} {d : Nat} {Z : Option Value → qm_H → Prop} {h : qm_H} (h6 : 6 ≤ L) (hH : hk_H h) (hB : hk_B h.2.1) (hT : h.2.2.2 0 9 = some 29 ∧ h.2.2.2 28 2 = some 111) (hW : wS h 111) {b o : Int32} (b_b : (0 : Int) ≤ b.toInt ∧ b.toInt ≤ 29) (b_o : (0 : Int) ≤ o.toInt ∧ o.toInt ≤ 29) (hbo : b.toInt ≠ o.toInt) (hV : v_C h.2.1) (h1 : (h.2.1 11 (b.toInt.toNat)).toInt = 0) (ho : (h.2.1 11 (o.toInt.toNat)).toInt = 0) (k : ∀ (v : Int32) (I : Nat → Nat → Int32) (J : Nat → Nat → Int64), hk_B I → v_C I → (∀ o, [11, 12, 13, 14, 28, 36, 37, 39, 116, 192, 193, 194, 195, 196, 197, 198, 199, 200, 201, 202, 203, 204, 205, 206, 207, 208, 209, 210, 211, 212, 213, 214, 215, 216, 217, 218, 219, 220, 221, 222, 223, 224, 225, 226, 227, 228, 229, 230, 231, 232, 233].contains o = false → ∀ i, I o i = h.2.1 o i) → Z (some (.int v)) (h.1, I, J, h.2.2.2)) : qm_Ru (some (L, xs)) (d + 100) cd_238 (qm_ent 12 [.ref 38, .int b, .int o] h) Z := by
  refine qm_Ru.go 6 (c' := (10, [.ref 38, .int b, .int o, .int (-2), .int 1000000, .int 0, .float 0, .float 0, .float 0, .float 0, .float 0, .float 0], [], h)) rfl ?_
  exact hl_ctwo2_111 h6 hH hB hT hW b_b b_o hbo k _ h.2.1 h.2.2.1 (-2) 1000000 0 _ _ _ _ _ _ hB (fun _ _ _ => rfl) hV h1 ho (by decide) rfl
theorem hc_ctwo111 : hk_ct v_C (fun h => (h.2.2.2 0 9 = some 29 ∧ h.2.2.2 28 2 = some 111) ∧ wS h 111) (fun as I => ∃ b o : Int32, as = [.ref 0, .int b, .int o]) 236 (some (-2147483648, 2147483647)) [11, 12, 13, 14, 28, 36, 37, 39, 116, 192, 193, 194, 195, 196, 197, 198, 199, 200, 201, 202, 203, 204, 205, 206, 207, 208, 209, 210, 211, 212, 213, 214, 215, 216, 217, 218, 219, 220, 221, 222, 223, 224, 225, 226, 227, 228, 229, 230, 231, 232, 233] 120 := by
  intro L xs d Z h as h6 hH hT2 hB hV hp hd k
  obtain ⟨hT, hW⟩ := hT2
  obtain ⟨b, o, rfl⟩ := hp
  obtain ⟨d, rfl⟩ : ∃ e, d = e + 120 := ⟨d - 120, by omega⟩
  show qm_Ru (some (L, xs)) (d + 120) cd_236 (qm_ent 3 [.ref 0, .int b, .int o] h) Z
  refine qm_Ru.go 1 (c' := (1, [.ref 0, .int b, .int o], [.ref 0], h)) rfl ?_
  refine hk_getr rfl (hH.1 0 (16, 10) rfl) rfl (hH.2 0 2 (some 6) rfl) ?_
  refine qm_Ru.go 1 (c' := (5, [.ref 0, .int b, .int o], [.int b, .ref 6], h)) rfl ?_
  refine hk_inv (o := 6) (r := []) (as := [.ref 6, .int b]) rfl rfl (hH.1 6 (6, 9) rfl) rfl rfl rfl rfl ?_
  refine qm_Ru.go 2 (c' := (2, [.ref 6, .int b], [.int b, .ref 6], h)) rfl ?_
  refine hk_inv (o := 6) (r := []) (as := [.ref 6, .int b]) rfl rfl (hH.1 6 (6, 9) rfl) rfl rfl rfl rfl ?_
  refine qm_Ru.go 1 (c' := (1, [.ref 6, .int b], [.int b], h)) rfl ?_
  refine hk_zlt (ix := b.toInt) rfl rfl (fun z1 => ?_) (fun z1 => ?_)
  · refine qm_Ru.go 1 (c' := (17, [.ref 6, .int b], [.int 0], h)) rfl ?_
    refine qm_Ru.rt (v := (some (.int 0))) (h' := h) rfl ?_
    refine qm_Ru.go 2 (c' := (22, [.ref 6, .int b], [.int 0], h)) rfl ?_
    refine qm_Ru.rt (v := (some (.int 0))) (h' := h) rfl ?_
    refine qm_Ru.go 2 (c' := (28, [.ref 0, .int b, .int o], [.int (-1)], h)) rfl ?_
    refine qm_Ru.rt (v := (some (.int (-1)))) (h' := h) rfl ?_
    exact k (some (.int (-1))) (h.2.1) (h.2.2.1) ⟨_, rfl, qa_in_full _⟩ hB hV (fun o ho i => rfl)
  · refine qm_Ru.go 2 (c' := (6, [.ref 6, .int b], [.ref 6, .int b], h)) rfl ?_
    obtain ⟨v2, q_v2⟩ : ∃ v, h.2.1 6 0 = v := ⟨_, rfl⟩
    have b_v2 : (0 : Int) ≤ v2.toInt ∧ v2.toInt ≤ 30 := by rw [← q_v2]; exact hB 6 0
    refine hk_geti (v := v2) rfl (hH.1 6 (6, 9) rfl) rfl q_v2 ?_
    refine qm_Ru.go 0 (c' := (9, [.ref 6, .int b], [.int v2, .int b], h)) rfl ?_
    refine hk_cge (ix := b.toInt) (iy := v2.toInt) rfl rfl rfl (fun z3 => ?_) (fun z3 => ?_)
    · refine qm_Ru.go 1 (c' := (17, [.ref 6, .int b], [.int 0], h)) rfl ?_
      refine qm_Ru.rt (v := (some (.int 0))) (h' := h) rfl ?_
      refine qm_Ru.go 2 (c' := (22, [.ref 6, .int b], [.int 0], h)) rfl ?_
      refine qm_Ru.rt (v := (some (.int 0))) (h' := h) rfl ?_
      refine qm_Ru.go 2 (c' := (28, [.ref 0, .int b, .int o], [.int (-1)], h)) rfl ?_
      refine qm_Ru.rt (v := (some (.int (-1)))) (h' := h) rfl ?_
      exact k (some (.int (-1))) (h.2.1) (h.2.2.1) ⟨_, rfl, qa_in_full _⟩ hB hV (fun o ho i => rfl)
    · refine qm_Ru.go 2 (c' := (17, [.ref 6, .int b], [.int 1], h)) rfl ?_
      refine qm_Ru.rt (v := (some (.int 1))) (h' := h) rfl ?_
      refine qm_Ru.go 2 (c' := (9, [.ref 6, .int b], [.ref 6], h)) rfl ?_
      refine hk_getr rfl (hH.1 6 (6, 9) rfl) rfl (hH.2 6 5 (some 11) rfl) ?_
      refine qm_Ru.go 1 (c' := (13, [.ref 6, .int b], [.int b, .ref 11], h)) rfl ?_
      obtain ⟨v4, q_v4⟩ : ∃ v, h.2.1 11 (b.toInt.toNat) = v := ⟨_, rfl⟩
      have b_v4 : (0 : Int) ≤ v4.toInt ∧ v4.toInt ≤ 2 := by rw [← q_v4]; exact hB 11 (b.toInt.toNat)
      refine hk_ial (v := v4) rfl (hH.1 11 (0, 30) rfl) (by omega) (by omega) q_v4 ?_
      refine qm_Ru.go 0 (c' := (14, [.ref 6, .int b], [.int v4], h)) rfl ?_
      refine hk_zne (ix := v4.toInt) rfl rfl (fun z5 => ?_) (fun z5 => ?_)
      · refine qm_Ru.go 1 (c' := (22, [.ref 6, .int b], [.int 0], h)) rfl ?_
        refine qm_Ru.rt (v := (some (.int 0))) (h' := h) rfl ?_
        refine qm_Ru.go 2 (c' := (28, [.ref 0, .int b, .int o], [.int (-1)], h)) rfl ?_
        refine qm_Ru.rt (v := (some (.int (-1)))) (h' := h) rfl ?_
        exact k (some (.int (-1))) (h.2.1) (h.2.2.1) ⟨_, rfl, qa_in_full _⟩ hB hV (fun o ho i => rfl)
      · refine qm_Ru.go 2 (c' := (22, [.ref 6, .int b], [.int 1], h)) rfl ?_
        refine qm_Ru.rt (v := (some (.int 1))) (h' := h) rfl ?_
        refine qm_Ru.go 2 (c' := (12, [.ref 0, .int b, .int o], [.ref 0], h)) rfl ?_
        refine hk_getr rfl (hH.1 0 (16, 10) rfl) rfl (hH.2 0 2 (some 6) rfl) ?_
        refine qm_Ru.go 1 (c' := (16, [.ref 0, .int b, .int o], [.int o, .ref 6], h)) rfl ?_
        refine hk_inv (o := 6) (r := []) (as := [.ref 6, .int o]) rfl rfl (hH.1 6 (6, 9) rfl) rfl rfl rfl rfl ?_
        refine qm_Ru.go 2 (c' := (2, [.ref 6, .int o], [.int o, .ref 6], h)) rfl ?_
        refine hk_inv (o := 6) (r := []) (as := [.ref 6, .int o]) rfl rfl (hH.1 6 (6, 9) rfl) rfl rfl rfl rfl ?_
        refine qm_Ru.go 1 (c' := (1, [.ref 6, .int o], [.int o], h)) rfl ?_
        refine hk_zlt (ix := o.toInt) rfl rfl (fun z6 => ?_) (fun z6 => ?_)
        · refine qm_Ru.go 1 (c' := (17, [.ref 6, .int o], [.int 0], h)) rfl ?_
          refine qm_Ru.rt (v := (some (.int 0))) (h' := h) rfl ?_
          refine qm_Ru.go 2 (c' := (22, [.ref 6, .int o], [.int 0], h)) rfl ?_
          refine qm_Ru.rt (v := (some (.int 0))) (h' := h) rfl ?_
          refine qm_Ru.go 2 (c' := (28, [.ref 0, .int b, .int o], [.int (-1)], h)) rfl ?_
          refine qm_Ru.rt (v := (some (.int (-1)))) (h' := h) rfl ?_
          exact k (some (.int (-1))) (h.2.1) (h.2.2.1) ⟨_, rfl, qa_in_full _⟩ hB hV (fun o ho i => rfl)
        · refine qm_Ru.go 2 (c' := (6, [.ref 6, .int o], [.ref 6, .int o], h)) rfl ?_
          refine hk_geti (v := v2) rfl (hH.1 6 (6, 9) rfl) rfl q_v2 ?_
          refine qm_Ru.go 0 (c' := (9, [.ref 6, .int o], [.int v2, .int o], h)) rfl ?_
          refine hk_cge (ix := o.toInt) (iy := v2.toInt) rfl rfl rfl (fun z7 => ?_) (fun z7 => ?_)
          · refine qm_Ru.go 1 (c' := (17, [.ref 6, .int o], [.int 0], h)) rfl ?_
            refine qm_Ru.rt (v := (some (.int 0))) (h' := h) rfl ?_
            refine qm_Ru.go 2 (c' := (22, [.ref 6, .int o], [.int 0], h)) rfl ?_
            refine qm_Ru.rt (v := (some (.int 0))) (h' := h) rfl ?_
            refine qm_Ru.go 2 (c' := (28, [.ref 0, .int b, .int o], [.int (-1)], h)) rfl ?_
            refine qm_Ru.rt (v := (some (.int (-1)))) (h' := h) rfl ?_
            exact k (some (.int (-1))) (h.2.1) (h.2.2.1) ⟨_, rfl, qa_in_full _⟩ hB hV (fun o ho i => rfl)
          · refine qm_Ru.go 2 (c' := (17, [.ref 6, .int o], [.int 1], h)) rfl ?_
            refine qm_Ru.rt (v := (some (.int 1))) (h' := h) rfl ?_
            refine qm_Ru.go 2 (c' := (9, [.ref 6, .int o], [.ref 6], h)) rfl ?_
            refine hk_getr rfl (hH.1 6 (6, 9) rfl) rfl (hH.2 6 5 (some 11) rfl) ?_
            refine qm_Ru.go 1 (c' := (13, [.ref 6, .int o], [.int o, .ref 11], h)) rfl ?_
            obtain ⟨v8, q_v8⟩ : ∃ v, h.2.1 11 (o.toInt.toNat) = v := ⟨_, rfl⟩
            have b_v8 : (0 : Int) ≤ v8.toInt ∧ v8.toInt ≤ 2 := by rw [← q_v8]; exact hB 11 (o.toInt.toNat)
            refine hk_ial (v := v8) rfl (hH.1 11 (0, 30) rfl) (by omega) (by omega) q_v8 ?_
            refine qm_Ru.go 0 (c' := (14, [.ref 6, .int o], [.int v8], h)) rfl ?_
            refine hk_zne (ix := v8.toInt) rfl rfl (fun z9 => ?_) (fun z9 => ?_)
            · refine qm_Ru.go 1 (c' := (22, [.ref 6, .int o], [.int 0], h)) rfl ?_
              refine qm_Ru.rt (v := (some (.int 0))) (h' := h) rfl ?_
              refine qm_Ru.go 2 (c' := (28, [.ref 0, .int b, .int o], [.int (-1)], h)) rfl ?_
              refine qm_Ru.rt (v := (some (.int (-1)))) (h' := h) rfl ?_
              exact k (some (.int (-1))) (h.2.1) (h.2.2.1) ⟨_, rfl, qa_in_full _⟩ hB hV (fun o ho i => rfl)
            · refine qm_Ru.go 2 (c' := (22, [.ref 6, .int o], [.int 1], h)) rfl ?_
              refine qm_Ru.rt (v := (some (.int 1))) (h' := h) rfl ?_
              refine qm_Ru.go 3 (c' := (24, [.ref 0, .int b, .int o], [.int o, .int b], h)) rfl ?_
              refine hk_cne (ix := b.toInt) (iy := o.toInt) rfl rfl rfl (fun z10 => ?_) (fun z10 => ?_)
              · refine qm_Ru.go 1 (c' := (30, [.ref 0, .int b, .int o], [.ref 0], h)) rfl ?_
                refine hk_getr rfl (hH.1 0 (16, 10) rfl) rfl (hH.2 0 5 (some 38) rfl) ?_
                refine qm_Ru.go 1 (c' := (34, [.ref 0, .int b, .int o], [.int o, .ref 38], h)) rfl ?_
                refine hk_inv (o := 38) (r := []) (as := [.ref 38, .int o]) rfl rfl (hH.1 38 (10, 5) rfl) rfl rfl rfl rfl (hs_lone111 (h := h) h6 hH hT hB (v_C_ru hV) ⟨by show (0 : Int) ≤ o.toInt; omega, by show o.toInt ≤ (29 : Int); omega⟩ (wS_same hW rfl rfl) (by omega) (fun I11 J12 hB_I11 e_I11 => ?_))
                have hV_I11 : v_C I11 := v_C_cg9 hV (fun o ho i => e_I11 o (q9_lone111 ho) i)
                refine qm_Ru.go 1 (c' := (38, [.ref 0, .int b, .int o], [.ref 0], (h.1, I11, J12, h.2.2.2))) rfl ?_
                refine hk_getr rfl (hH.1 0 (16, 10) rfl) rfl (hH.2 0 5 (some 38) rfl) ?_
                refine qm_Ru.go 2 (c' := (43, [.ref 0, .int b, .int o], [.int o, .int b, .ref 38], (h.1, I11, J12, h.2.2.2))) rfl ?_
                refine hk_inv (o := 38) (r := []) (as := [.ref 38, .int b, .int o]) rfl rfl (hH.1 38 (10, 5) rfl) rfl rfl rfl rfl (hs_ctwo111 (h := (h.1, I11, J12, h.2.2.2)) h6 hH hB_I11 hT (wS_same hW rfl rfl) (b := b) (o := o) (by omega) (by omega) (by omega) hV_I11 ((congrArg Int32.toInt (show (I11) 11 (b.toInt.toNat) = _ from ((e_I11 11 rfl (b.toInt.toNat)).trans q_v4))).trans (by omega)) ((congrArg Int32.toInt (show (I11) 11 (o.toInt.toNat) = _ from ((e_I11 11 rfl (o.toInt.toNat)).trans q_v8))).trans (by omega)) (fun v15 I13 J14 hB_I13 hV_I13 e_I13 => ?_))
                refine qm_Ru.go 0 (c' := (46, [.ref 0, .int b, .int o], [.int v15], (h.1, I13, J14, h.2.2.2))) rfl ?_
                refine qm_Ru.rt (v := (some (.int v15))) (h' := (h.1, I13, J14, h.2.2.2)) rfl ?_
                exact k (some (.int v15)) (I13) (J14) ⟨_, rfl, qa_in_full _⟩ hB_I13 hV_I13 (fun o ho i => ((e_I13 o (hk_ms rfl ho) i).trans ((e_I11 o (hk_ms rfl ho) i).trans rfl)))
              · refine qm_Ru.go 1 (c' := (28, [.ref 0, .int b, .int o], [.int (-1)], h)) rfl ?_
                refine qm_Ru.rt (v := (some (.int (-1)))) (h' := h) rfl ?_
                exact k (some (.int (-1))) (h.2.1) (h.2.2.1) ⟨_, rfl, qa_in_full _⟩ hB hV (fun o ho i => rfl)
