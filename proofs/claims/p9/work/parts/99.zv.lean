/-! by hand -/
theorem q9_brk29 {o : Nat} (h : [6, 11, 12, 13, 14, 16, 17, 36, 150, 151].contains o = true) : qm_brk29.contains o = false := by
  have key : ∀ o ∈ [6, 11, 12, 13, 14, 16, 17, 36, 150, 151], qm_brk29.contains o = false := by decide +kernel
  exact key o (List.contains_iff_mem.mp h)
theorem hl_cbest29 {L : Nat} {xs : Nat → Int32} {d : Nat} {Z : Option Value → qm_H → Prop} {h : qm_H} (h6 : 6 ≤ L) (hH : hk_H h) (hB : hk_B h.2.1) (hT : h.2.2.2 0 9 = some 111 ∧ h.2.2.2 28 2 = some 29) (hW : wS h 29) {b : Int32} (b_b : (0 : Int) ≤ b.toInt ∧ b.toInt ≤ 29) (k : ∀ (v : Int32) (I : Nat → Nat → Int32) (J : Nat → Nat → Int64), hk_B I → v_C I → (∀ o, [11, 12, 13, 14, 28, 34, 36, 37, 192, 193, 194, 195, 196, 197, 198, 199, 200, 201, 202, 203, 204, 205, 206, 207, 208, 209, 210, 211, 212, 213, 214, 215, 216, 217, 218, 219, 220, 221, 222, 223, 224, 225, 226, 227, 228, 229, 230, 231, 232, 233].contains o = false → ∀ i, I o i = h.2.1 o i) → Z (some (.int v)) (h.1, I, J, h.2.2.2)) : ∀ (m : Nat) (I : Nat → Nat → Int32) (J : Nat → Nat → Int64) (be : Int32) (ru : Int32) (ov : Int32) (q : Int32) (l6 l7 l8 l9 : Value), hk_B I → (∀ o, [11, 12, 13, 14, 28, 34, 36, 37, 192, 193, 194, 195, 196, 197, 198, 199, 200, 201, 202, 203, 204, 205, 206, 207, 208, 209, 210, 211, 212, 213, 214, 215, 216, 217, 218, 219, 220, 221, 222, 223, 224, 225, 226, 227, 228, 229, 230, 231, 232, 233].contains o = false → ∀ i, I o i = h.2.1 o i) → (v_C I) → ((I 11 (b.toInt.toNat)).toInt = 0) → ((0 : Int) ≤ q.toInt ∧ q.toInt ≤ 20) → (20 - q.toInt).toNat = m → qm_Ru (some (L, xs)) (d + 100) cd_233 (13, [.ref 38, .int b, .int be, .int ru, .int ov, .int q, l6, l7, l8, l9], [], (h.1, I, J, h.2.2.2)) Z := by
  intro m
  induction m using Nat.strongRecOn with
  | ind m ih =>
    intro I J be ru ov q l6 l7 l8 l9 hBI e hVI h1 hq hm
    refine qm_Ru.go 1 (c' := (15, [.ref 38, .int b, .int be, .int ru, .int ov, .int q, l6, l7, l8, l9], [.int q], (h.1, I, J, h.2.2.2))) rfl ?_
    obtain ⟨v1, q_v1⟩ : ∃ v, I 11 (b.toInt.toNat) = v := ⟨_, rfl⟩
    have f_v1 : v1.toInt = 0 := by rw [← q_v1]; exact h1
    refine qm_Ru.go 1 (c' := (16, [.ref 38, .int b, .int be, .int ru, .int ov, .int q, l6, l7, l8, l9], [.ref 38, .int q], (h.1, I, J, h.2.2.2))) rfl ?_
    refine hk_getr rfl (hH.1 38 (10, 5) rfl) rfl (hH.2 38 1 (some 28) rfl) ?_
    refine qm_Ru.go 0 (c' := (19, [.ref 38, .int b, .int be, .int ru, .int ov, .int q, l6, l7, l8, l9], [.ref 28, .int q], (h.1, I, J, h.2.2.2))) rfl ?_
    refine hk_getr rfl (hH.1 28 (9, 8) rfl) rfl hT.2 ?_
    refine qm_Ru.go 0 (c' := (22, [.ref 38, .int b, .int be, .int ru, .int ov, .int q, l6, l7, l8, l9], [.ref 29, .int q], (h.1, I, J, h.2.2.2))) rfl ?_
    obtain ⟨v2, q_v2⟩ : ∃ v, h.2.1 29 0 = v := ⟨_, rfl⟩
    have b_v2 : (2 : Int) ≤ v2.toInt ∧ v2.toInt ≤ 5 := by rw [← q_v2]; exact hB 29 0
    refine hk_geti (v := v2) rfl (hH.1 29 (11, 16) rfl) rfl (show (I) 29 0 = _ from ((e 29 rfl 0).trans q_v2)) ?_
    refine qm_Ru.go 2 (c' := (27, [.ref 38, .int b, .int be, .int ru, .int ov, .int q, l6, l7, l8, l9], [.int (v2 * 4), .int q], (h.1, I, J, h.2.2.2))) rfl ?_
    obtain ⟨v3, q_v3, e_v3⟩ := hk_mul (x := v2) (y := 4) (a := v2.toInt) (b := 4) rfl rfl (by omega) (by omega)
    rw [q_v3]
    refine hk_cge (ix := q.toInt) (iy := v3.toInt) rfl rfl rfl (fun z4 => ?_) (fun z4 => ?_)
    · refine qm_Ru.go 1 (c' := (122, [.ref 38, .int b, .int be, .int ru, .int ov, .int q, l6, l7, l8, l9], [.int be], (h.1, I, J, h.2.2.2))) rfl ?_
      refine qm_Ru.rt (v := (some (.int be))) (h' := (h.1, I, J, h.2.2.2)) rfl ?_
      exact k be (I) (J) hBI hVI (fun o ho i => (e o ho i))
    · refine qm_Ru.go 1 (c' := (31, [.ref 38, .int b, .int be, .int ru, .int ov, .int q, l6, l7, l8, l9], [.ref 38], (h.1, I, J, h.2.2.2))) rfl ?_
      refine hk_getr rfl (hH.1 38 (10, 5) rfl) rfl (hH.2 38 1 (some 28) rfl) ?_
      refine qm_Ru.go 4 (c' := (39, [.ref 38, .int b, .int be, .int ru, .int ov, .int q, l6, l7, l8, l9], [.int (q / 4), .int b, .ref 28], (h.1, I, J, h.2.2.2))) rfl ?_
      obtain ⟨v5, q_v5, e_v5⟩ := hk_div (x := q) (y := 4) (a := q.toInt) (b := 4) rfl rfl (by omega) (by omega)
      rw [q_v5]
      refine qm_Ru.go 3 (c' := (43, [.ref 38, .int b, .int be, .int ru, .int ov, .int q, l6, l7, l8, l9], [.int (q - q / 4 * 4), .int v5, .int b, .ref 28], (h.1, I, J, h.2.2.2))) rfl ?_
      obtain ⟨v6, q_v6, e_v6⟩ := hk_rem (x := q) (y := 4) (a := q.toInt) (b := 4) rfl rfl (by omega) (by omega)
      rw [q_v6]
      refine hk_inv (o := 28) (r := []) (as := [.ref 28, .int b, .int v5, .int v6]) rfl rfl (hH.1 28 (9, 8) rfl) rfl rfl rfl rfl (hq_try29 (h := (h.1, I, J, h.2.2.2)) h6 hH hT hBI hVI (b := b) (y := v5) (r := v6) (fun v7 J8 c_v7 d_v7 => ?_) (fun t9 J10 f11 g12 => ?_))
      · refine qm_Ru.go 2 (c' := (50, [.ref 38, .int b, .int be, .int ru, .int ov, .int q, .int v7, l7, l8, l9], [.int v7], (h.1, I, J8, h.2.2.2))) rfl ?_
        refine hk_zge (ix := v7.toInt) rfl rfl (fun z13 => by exfalso; omega) (fun z13 => ?_)
        refine qm_Ru.go 2 (c' := (118, [.ref 38, .int b, .int be, .int ru, .int ov, .int (q + 1), .int v7, l7, l8, l9], [], (h.1, I, J8, h.2.2.2))) rfl ?_
        obtain ⟨v14, q_v14, e_v14⟩ := hk_add (x := q) (y := 1) (a := q.toInt) (b := 1) rfl rfl (by omega) (by omega)
        rw [q_v14]
        refine qm_Ru.go 1 (c' := (13, [.ref 38, .int b, .int be, .int ru, .int ov, .int v14, .int v7, l7, l8, l9], [], (h.1, I, J8, h.2.2.2))) rfl ?_
        exact ih _ (by omega) (I) (J8) be ru ov v14 (.int v7) l7 l8 l9 hBI (fun o ho i => (e o ho i)) hVI ((congrArg Int32.toInt q_v1).trans (by omega)) (by omega) rfl
      · obtain ⟨f11_y, f11_r, f11_t, f11_f, f11_b⟩ := f11
        obtain ⟨g12_b, g12_n, _⟩ := g12
        refine qm_Ru.go 2 (c' := (50, [.ref 38, .int b, .int be, .int ru, .int ov, .int q, .int t9, l7, l8, l9], [.int t9], (h.1, I, J10, h.2.2.2))) rfl ?_
        refine hk_zge (ix := t9.toInt) rfl rfl (fun z15 => ?_) (fun z15 => by exfalso; omega)
        refine qm_Ru.go 3 (c' := (60, [.ref 38, .int b, .int be, .int ru, .int ov, .int q, .int t9, l7, l8, l9], [.int (q * 4)], (h.1, I, J10, h.2.2.2))) rfl ?_
        obtain ⟨v16, q_v16, e_v16⟩ := hk_mul (x := q) (y := 4) (a := q.toInt) (b := 4) rfl rfl (by omega) (by omega)
        rw [q_v16]
        refine qm_Ru.go 2 (c' := (63, [.ref 38, .int b, .int be, .int ru, .int ov, .int q, .int t9, l7, l8, l9], [.int (v16 + t9)], (h.1, I, J10, h.2.2.2))) rfl ?_
        obtain ⟨v17, q_v17, e_v17⟩ := hk_add (x := v16) (y := t9) (a := v16.toInt) (b := t9.toInt) rfl rfl (by omega) (by omega)
        rw [q_v17]
        refine qm_Ru.go 4 (c' := (69, [.ref 38, .int b, .int be, .int ru, .int ov, .int q, .int t9, .int v17, l8, l9], [.int v17, .int b, .ref 38], (h.1, I, J10, h.2.2.2))) rfl ?_
        refine hk_inv (o := 38) (r := []) (as := [.ref 38, .int b, .int v17]) rfl rfl (hH.1 38 (10, 5) rfl) rfl rfl rfl rfl (hs_brk29 (h := (h.1, I, J10, h.2.2.2)) h6 hH hT hBI (v_C_ru hVI) ⟨by show (0 : Int) ≤ b.toInt; omega, by show b.toInt ≤ (29 : Int); omega⟩ ⟨by show (0 : Int) ≤ v17.toInt; omega, by show v17.toInt ≤ (79 : Int); omega⟩ (wS_same hW rfl rfl) (by omega) (fun v20 I18 J19 _ hB_I18 e_I18 => ?_))
        have hV_I18 : v_C I18 := v_C_cg9 hVI (fun o ho i => e_I18 o (q9_brk29 ho) i)
        refine qm_Ru.go 4 (c' := (78, [.ref 38, .int b, .int be, .int ru, .int ov, .int q, .int t9, .int v17, .int v20, l9], [.int v17, .int b, .ref 38], (h.1, I18, J19, h.2.2.2))) rfl ?_
        obtain ⟨v21, q_v21⟩ : ∃ v, h.2.1 6 0 = v := ⟨_, rfl⟩
        have b_v21 : (0 : Int) ≤ v21.toInt ∧ v21.toInt ≤ 30 := by rw [← q_v21]; exact hB 6 0
        refine hk_inv (o := 38) (r := []) (as := [.ref 38, .int b, .int v17]) rfl rfl (hH.1 38 (10, 5) rfl) rfl rfl rfl rfl (hs_ovw (h := (h.1, I18, J19, h.2.2.2)) h6 hH hB_I18 hV_I18 (b := b) (x := v17) (n := pI I 6 0) (by omega) (by omega) (by show (I18 6 0).toInt = pI I 6 0; rw [e_I18 6 rfl 0]; exact rfl) g12_n ((congrArg Int32.toInt (show (I18) 11 (b.toInt.toNat) = _ from ((e_I18 11 rfl (b.toInt.toNat)).trans q_v1))).trans (by omega)) (by show (I18 36 v17.toInt.toNat).toInt = -1; rw [e_I18 36 rfl _]; exact (show pI I 36 v17.toInt.toNat = -1 from by rw [show v17.toInt.toNat = (16 * v5.toInt + 4 * v6.toInt + t9.toInt).toNat from by omega]; exact f11_f)) (fun c => by show 0 ≤ (I18 36 (v17.toInt - 1).toNat).toInt; rw [e_I18 36 rfl _]; exact (show 0 ≤ pI I 36 (v17.toInt - 1).toNat from by rw [show (v17.toInt - 1).toNat = (16 * v5.toInt + 4 * v6.toInt + t9.toInt - 1).toNat from by omega]; exact f11_b (by omega))) (fun v24 I22 J23 hB_I22 hV_I22 p_I22 e_I22 s_I22 o_I22 => ?_))
        obtain ⟨v25, q_v25⟩ : ∃ v, I22 11 (b.toInt.toNat) = v := ⟨_, rfl⟩
        have f_v25 : v25.toInt = 0 := by rw [← q_v25]; exact p_I22
        refine qm_Ru.go 3 (c' := (86, [.ref 38, .int b, .int be, .int ru, .int ov, .int q, .int t9, .int v17, .int v20, .int v24], [.int ru, .int v20], (h.1, I22, J23, h.2.2.2))) rfl ?_
        refine hk_clt (ix := v20.toInt) (iy := ru.toInt) rfl rfl rfl (fun z26 => ?_) (fun z26 => ?_)
        · refine qm_Ru.go 5 (c' := (111, [.ref 38, .int b, .int be, .int v20, .int v24, .int q, .int t9, .int v17, .int v20, .int v24], [.int q], (h.1, I22, J23, h.2.2.2))) rfl ?_
          refine qm_Ru.call (j := 235) (as := [.int q]) (c' := (114, [.ref 38, .int b, .int be, .int v20, .int v24, .int q, .int t9, .int v17, .int v20, .int v24], [], (h.1, I22, J23, h.2.2.2))) rfl rfl rfl ?_
          refine qm_Ru.go 4 (c' := (5, [.int q], [.int (q / 4), .int 10], (h.1, I22, J23, h.2.2.2))) rfl ?_
          rw [q_v5]
          refine qm_Ru.go 1 (c' := (6, [.int q], [.int (10 * v5)], (h.1, I22, J23, h.2.2.2))) rfl ?_
          obtain ⟨v28, q_v28, e_v28⟩ := hk_mul (x := 10) (y := v5) (a := 10) (b := v5.toInt) rfl rfl (by omega) (by omega)
          rw [q_v28]
          refine qm_Ru.go 3 (c' := (9, [.int q], [.int (q - q / 4 * 4), .int v28], (h.1, I22, J23, h.2.2.2))) rfl ?_
          rw [q_v6]
          refine qm_Ru.go 1 (c' := (10, [.int q], [.int (v28 + v6)], (h.1, I22, J23, h.2.2.2))) rfl ?_
          obtain ⟨v30, q_v30, e_v30⟩ := hk_add (x := v28) (y := v6) (a := v28.toInt) (b := v6.toInt) rfl rfl (by omega) (by omega)
          rw [q_v30]
          refine qm_Ru.rt (v := (some (.int v30))) (h' := (h.1, I22, J23, h.2.2.2)) rfl ?_
          refine qm_Ru.go 2 (c' := (118, [.ref 38, .int b, .int v30, .int v20, .int v24, .int (q + 1), .int t9, .int v17, .int v20, .int v24], [], (h.1, I22, J23, h.2.2.2))) rfl ?_
          obtain ⟨v31, q_v31, e_v31⟩ := hk_add (x := q) (y := 1) (a := q.toInt) (b := 1) rfl rfl (by omega) (by omega)
          rw [q_v31]
          refine qm_Ru.go 1 (c' := (13, [.ref 38, .int b, .int v30, .int v20, .int v24, .int v31, .int t9, .int v17, .int v20, .int v24], [], (h.1, I22, J23, h.2.2.2))) rfl ?_
          exact ih _ (by omega) (I22) (J23) v30 v20 v24 v31 (.int t9) (.int v17) (.int v20) (.int v24) hB_I22 (fun o ho i => ((e_I22 o (hk_ms rfl ho) i).trans ((e_I18 o (hk_ms rfl ho) i).trans (e o ho i)))) hV_I22 ((congrArg Int32.toInt q_v25).trans (by omega)) (by omega) rfl
        · refine qm_Ru.go 2 (c' := (92, [.ref 38, .int b, .int be, .int ru, .int ov, .int q, .int t9, .int v17, .int v20, .int v24], [.int ru, .int v20], (h.1, I22, J23, h.2.2.2))) rfl ?_
          refine hk_cne (ix := v20.toInt) (iy := ru.toInt) rfl rfl rfl (fun z32 => ?_) (fun z32 => ?_)
          · refine qm_Ru.go 1 (c' := (118, [.ref 38, .int b, .int be, .int ru, .int ov, .int (q + 1), .int t9, .int v17, .int v20, .int v24], [], (h.1, I22, J23, h.2.2.2))) rfl ?_
            obtain ⟨v33, q_v33, e_v33⟩ := hk_add (x := q) (y := 1) (a := q.toInt) (b := 1) rfl rfl (by omega) (by omega)
            rw [q_v33]
            refine qm_Ru.go 1 (c' := (13, [.ref 38, .int b, .int be, .int ru, .int ov, .int v33, .int t9, .int v17, .int v20, .int v24], [], (h.1, I22, J23, h.2.2.2))) rfl ?_
            exact ih _ (by omega) (I22) (J23) be ru ov v33 (.int t9) (.int v17) (.int v20) (.int v24) hB_I22 (fun o ho i => ((e_I22 o (hk_ms rfl ho) i).trans ((e_I18 o (hk_ms rfl ho) i).trans (e o ho i)))) hV_I22 ((congrArg Int32.toInt q_v25).trans (by omega)) (by omega) rfl
          · refine qm_Ru.go 2 (c' := (99, [.ref 38, .int b, .int be, .int ru, .int ov, .int q, .int t9, .int v17, .int v20, .int v24], [.int ov, .int v24], (h.1, I22, J23, h.2.2.2))) rfl ?_
            refine hk_cge (ix := v24.toInt) (iy := ov.toInt) rfl rfl rfl (fun z34 => ?_) (fun z34 => ?_)
            · refine qm_Ru.go 1 (c' := (118, [.ref 38, .int b, .int be, .int ru, .int ov, .int (q + 1), .int t9, .int v17, .int v20, .int v24], [], (h.1, I22, J23, h.2.2.2))) rfl ?_
              obtain ⟨v35, q_v35, e_v35⟩ := hk_add (x := q) (y := 1) (a := q.toInt) (b := 1) rfl rfl (by omega) (by omega)
              rw [q_v35]
              refine qm_Ru.go 1 (c' := (13, [.ref 38, .int b, .int be, .int ru, .int ov, .int v35, .int t9, .int v17, .int v20, .int v24], [], (h.1, I22, J23, h.2.2.2))) rfl ?_
              exact ih _ (by omega) (I22) (J23) be ru ov v35 (.int t9) (.int v17) (.int v20) (.int v24) hB_I22 (fun o ho i => ((e_I22 o (hk_ms rfl ho) i).trans ((e_I18 o (hk_ms rfl ho) i).trans (e o ho i)))) hV_I22 ((congrArg Int32.toInt q_v25).trans (by omega)) (by omega) rfl
            · refine qm_Ru.go 5 (c' := (111, [.ref 38, .int b, .int be, .int v20, .int v24, .int q, .int t9, .int v17, .int v20, .int v24], [.int q], (h.1, I22, J23, h.2.2.2))) rfl ?_
              refine qm_Ru.call (j := 235) (as := [.int q]) (c' := (114, [.ref 38, .int b, .int be, .int v20, .int v24, .int q, .int t9, .int v17, .int v20, .int v24], [], (h.1, I22, J23, h.2.2.2))) rfl rfl rfl ?_
              refine qm_Ru.go 4 (c' := (5, [.int q], [.int (q / 4), .int 10], (h.1, I22, J23, h.2.2.2))) rfl ?_
              rw [q_v5]
              refine qm_Ru.go 1 (c' := (6, [.int q], [.int (10 * v5)], (h.1, I22, J23, h.2.2.2))) rfl ?_
              obtain ⟨v37, q_v37, e_v37⟩ := hk_mul (x := 10) (y := v5) (a := 10) (b := v5.toInt) rfl rfl (by omega) (by omega)
              rw [q_v37]
              refine qm_Ru.go 3 (c' := (9, [.int q], [.int (q - q / 4 * 4), .int v37], (h.1, I22, J23, h.2.2.2))) rfl ?_
              rw [q_v6]
              refine qm_Ru.go 1 (c' := (10, [.int q], [.int (v37 + v6)], (h.1, I22, J23, h.2.2.2))) rfl ?_
              obtain ⟨v39, q_v39, e_v39⟩ := hk_add (x := v37) (y := v6) (a := v37.toInt) (b := v6.toInt) rfl rfl (by omega) (by omega)
              rw [q_v39]
              refine qm_Ru.rt (v := (some (.int v39))) (h' := (h.1, I22, J23, h.2.2.2)) rfl ?_
              refine qm_Ru.go 2 (c' := (118, [.ref 38, .int b, .int v39, .int v20, .int v24, .int (q + 1), .int t9, .int v17, .int v20, .int v24], [], (h.1, I22, J23, h.2.2.2))) rfl ?_
              obtain ⟨v40, q_v40, e_v40⟩ := hk_add (x := q) (y := 1) (a := q.toInt) (b := 1) rfl rfl (by omega) (by omega)
              rw [q_v40]
              refine qm_Ru.go 1 (c' := (13, [.ref 38, .int b, .int v39, .int v20, .int v24, .int v40, .int t9, .int v17, .int v20, .int v24], [], (h.1, I22, J23, h.2.2.2))) rfl ?_
              exact ih _ (by omega) (I22) (J23) v39 v20 v24 v40 (.int t9) (.int v17) (.int v20) (.int v24) hB_I22 (fun o ho i => ((e_I22 o (hk_ms rfl ho) i).trans ((e_I18 o (hk_ms rfl ho) i).trans (e o ho i)))) hV_I22 ((congrArg Int32.toInt q_v25).trans (by omega)) (by omega) rfl
theorem hs_cbest29 {L : Nat} {xs : Nat → Int32} {d : Nat} {Z : Option Value → qm_H → Prop} {h : qm_H} (h6 : 6 ≤ L) (hH : hk_H h) (hB : hk_B h.2.1) (hT : h.2.2.2 0 9 = some 111 ∧ h.2.2.2 28 2 = some 29) (hW : wS h 29) {b : Int32} (b_b : (0 : Int) ≤ b.toInt ∧ b.toInt ≤ 29) (hV : v_C h.2.1) (h1 : (h.2.1 11 (b.toInt.toNat)).toInt = 0) (k : ∀ (v : Int32) (I : Nat → Nat → Int32) (J : Nat → Nat → Int64), hk_B I → v_C I → (∀ o, [11, 12, 13, 14, 28, 34, 36, 37, 192, 193, 194, 195, 196, 197, 198, 199, 200, 201, 202, 203, 204, 205, 206, 207, 208, 209, 210, 211, 212, 213, 214, 215, 216, 217, 218, 219, 220, 221, 222, 223, 224, 225, 226, 227, 228, 229, 230, 231, 232, 233].contains o = false → ∀ i, I o i = h.2.1 o i) → Z (some (.int v)) (h.1, I, J, h.2.2.2)) : qm_Ru (some (L, xs)) (d + 100) cd_233 (qm_ent 10 [.ref 38, .int b] h) Z := by
  refine qm_Ru.go 8 (c' := (13, [.ref 38, .int b, .int (-2), .int 1000000, .int 1000000, .int 0, .float 0, .float 0, .float 0, .float 0], [], h)) rfl ?_
  exact hl_cbest29 h6 hH hB hT hW b_b k _ h.2.1 h.2.2.1 (-2) 1000000 1000000 0 _ _ _ _ hB (fun _ _ _ => rfl) hV h1 (by decide) rfl
theorem hc_cbest29 : hk_ct v_C (fun h => (h.2.2.2 0 9 = some 111 ∧ h.2.2.2 28 2 = some 29) ∧ wS h 29) (fun as I => ∃ b : Int32, as = [.ref 0, .int b]) 232 (some (-2147483648, 2147483647)) [11, 12, 13, 14, 28, 34, 36, 37, 192, 193, 194, 195, 196, 197, 198, 199, 200, 201, 202, 203, 204, 205, 206, 207, 208, 209, 210, 211, 212, 213, 214, 215, 216, 217, 218, 219, 220, 221, 222, 223, 224, 225, 226, 227, 228, 229, 230, 231, 232, 233] 120 := by
  intro L xs d Z h as h6 hH hT2 hB hV hp hd k
  obtain ⟨hT, hW⟩ := hT2
  obtain ⟨b, rfl⟩ := hp
  obtain ⟨d, rfl⟩ : ∃ e, d = e + 120 := ⟨d - 120, by omega⟩
  show qm_Ru (some (L, xs)) (d + 120) cd_232 (qm_ent 2 [.ref 0, .int b] h) Z
  refine qm_Ru.go 1 (c' := (1, [.ref 0, .int b], [.ref 0], h)) rfl ?_
  refine hk_getr rfl (hH.1 0 (16, 10) rfl) rfl (hH.2 0 2 (some 6) rfl) ?_
  refine qm_Ru.go 1 (c' := (5, [.ref 0, .int b], [.int b, .ref 6], h)) rfl ?_
  refine hk_inv (o := 6) (r := []) (as := [.ref 6, .int b]) rfl rfl (hH.1 6 (6, 9) rfl) rfl rfl rfl rfl ?_
  refine qm_Ru.go 2 (c' := (2, [.ref 6, .int b], [.int b, .ref 6], h)) rfl ?_
  refine hk_inv (o := 6) (r := []) (as := [.ref 6, .int b]) rfl rfl (hH.1 6 (6, 9) rfl) rfl rfl rfl rfl ?_
  refine qm_Ru.go 1 (c' := (1, [.ref 6, .int b], [.int b], h)) rfl ?_
  refine hk_zlt (ix := b.toInt) rfl rfl (fun z1 => ?_) (fun z1 => ?_)
  · refine qm_Ru.go 1 (c' := (17, [.ref 6, .int b], [.int 0], h)) rfl ?_
    refine qm_Ru.rt (v := (some (.int 0))) (h' := h) rfl ?_
    refine qm_Ru.go 2 (c' := (22, [.ref 6, .int b], [.int 0], h)) rfl ?_
    refine qm_Ru.rt (v := (some (.int 0))) (h' := h) rfl ?_
    refine qm_Ru.go 2 (c' := (23, [.ref 0, .int b], [.int (-1)], h)) rfl ?_
    refine qm_Ru.rt (v := (some (.int (-1)))) (h' := h) rfl ?_
    exact k (some (.int (-1))) (h.2.1) (h.2.2.1) ⟨_, rfl, qa_in_full _⟩ hB hV (fun o ho i => rfl)
  · refine qm_Ru.go 2 (c' := (6, [.ref 6, .int b], [.ref 6, .int b], h)) rfl ?_
    obtain ⟨v2, q_v2⟩ : ∃ v, h.2.1 6 0 = v := ⟨_, rfl⟩
    have b_v2 : (0 : Int) ≤ v2.toInt ∧ v2.toInt ≤ 30 := by rw [← q_v2]; exact hB 6 0
    refine hk_geti (v := v2) rfl (hH.1 6 (6, 9) rfl) rfl q_v2 ?_
    refine qm_Ru.go 0 (c' := (9, [.ref 6, .int b], [.int v2, .int b], h)) rfl ?_
    refine hk_cge (ix := b.toInt) (iy := v2.toInt) rfl rfl rfl (fun z3 => ?_) (fun z3 => ?_)
    · refine qm_Ru.go 1 (c' := (17, [.ref 6, .int b], [.int 0], h)) rfl ?_
      refine qm_Ru.rt (v := (some (.int 0))) (h' := h) rfl ?_
      refine qm_Ru.go 2 (c' := (22, [.ref 6, .int b], [.int 0], h)) rfl ?_
      refine qm_Ru.rt (v := (some (.int 0))) (h' := h) rfl ?_
      refine qm_Ru.go 2 (c' := (23, [.ref 0, .int b], [.int (-1)], h)) rfl ?_
      refine qm_Ru.rt (v := (some (.int (-1)))) (h' := h) rfl ?_
      exact k (some (.int (-1))) (h.2.1) (h.2.2.1) ⟨_, rfl, qa_in_full _⟩ hB hV (fun o ho i => rfl)
    · refine qm_Ru.go 2 (c' := (17, [.ref 6, .int b], [.int 1], h)) rfl ?_
      refine qm_Ru.rt (v := (some (.int 1))) (h' := h) rfl ?_
      refine qm_Ru.go 2 (c' := (9, [.ref 6, .int b], [.ref 6], h)) rfl ?_
      refine hk_getr rfl (hH.1 6 (6, 9) rfl) rfl (hH.2 6 5 (some 11) rfl) ?_
      refine qm_Ru.go 1 (c' := (13, [.ref 6, .int b], [.int b, .ref 11], h)) rfl ?_
      obtain ⟨v4, q_v4⟩ : ∃ v, h.2.1 11 (b.toInt.toNat) = v := ⟨_, rfl⟩
      have b_v4 : (0 : Int) ≤ v4.toInt ∧ v4.toInt ≤ 2 := by rw [← q_v4]; exact hB 11 (b.toInt.toNat)
      refine hk_ial (v := v4) rfl (hH.1 11 (0, 30) rfl) (by omega) (by omega) q_v4 ?_
      refine qm_Ru.go 0 (c' := (14, [.ref 6, .int b], [.int v4], h)) rfl ?_
      refine hk_zne (ix := v4.toInt) rfl rfl (fun z5 => ?_) (fun z5 => ?_)
      · refine qm_Ru.go 1 (c' := (22, [.ref 6, .int b], [.int 0], h)) rfl ?_
        refine qm_Ru.rt (v := (some (.int 0))) (h' := h) rfl ?_
        refine qm_Ru.go 2 (c' := (23, [.ref 0, .int b], [.int (-1)], h)) rfl ?_
        refine qm_Ru.rt (v := (some (.int (-1)))) (h' := h) rfl ?_
        exact k (some (.int (-1))) (h.2.1) (h.2.2.1) ⟨_, rfl, qa_in_full _⟩ hB hV (fun o ho i => rfl)
      · refine qm_Ru.go 2 (c' := (22, [.ref 6, .int b], [.int 1], h)) rfl ?_
        refine qm_Ru.rt (v := (some (.int 1))) (h' := h) rfl ?_
        refine qm_Ru.go 2 (c' := (12, [.ref 0, .int b], [.ref 0], h)) rfl ?_
        refine hk_getr rfl (hH.1 0 (16, 10) rfl) rfl (hH.2 0 5 (some 38) rfl) ?_
        refine qm_Ru.go 1 (c' := (16, [.ref 0, .int b], [.int b, .ref 38], h)) rfl ?_
        refine hk_inv (o := 38) (r := []) (as := [.ref 38, .int b]) rfl rfl (hH.1 38 (10, 5) rfl) rfl rfl rfl rfl (hs_cbest29 (h := h) h6 hH hB hT hW (b := b) (by omega) hV ((congrArg Int32.toInt q_v4).trans (by omega)) (fun v8 I6 J7 hB_I6 hV_I6 e_I6 => ?_))
        refine qm_Ru.go 1 (c' := (23, [.ref 0, .int b], [.int v8], (h.1, I6, J7, h.2.2.2))) rfl ?_
        refine qm_Ru.rt (v := (some (.int v8))) (h' := (h.1, I6, J7, h.2.2.2)) rfl ?_
        exact k (some (.int v8)) (I6) (J7) ⟨_, rfl, qa_in_full _⟩ hB_I6 hV_I6 (fun o ho i => ((e_I6 o (hk_ms rfl ho) i).trans rfl))
theorem q9_brk111 {o : Nat} (h : [6, 11, 12, 13, 14, 16, 17, 36, 150, 151].contains o = true) : qm_brk111.contains o = false := by
  have key : ∀ o ∈ [6, 11, 12, 13, 14, 16, 17, 36, 150, 151], qm_brk111.contains o = false := by decide +kernel
  exact key o (List.contains_iff_mem.mp h)
theorem hl_cbest111 {L : Nat} {xs : Nat → Int32} {d : Nat} {Z : Option Value → qm_H → Prop} {h : qm_H} (h6 : 6 ≤ L) (hH : hk_H h) (hB : hk_B h.2.1) (hT : h.2.2.2 0 9 = some 29 ∧ h.2.2.2 28 2 = some 111) (hW : wS h 111) {b : Int32} (b_b : (0 : Int) ≤ b.toInt ∧ b.toInt ≤ 29) (k : ∀ (v : Int32) (I : Nat → Nat → Int32) (J : Nat → Nat → Int64), hk_B I → v_C I → (∀ o, [11, 12, 13, 14, 28, 36, 37, 116, 192, 193, 194, 195, 196, 197, 198, 199, 200, 201, 202, 203, 204, 205, 206, 207, 208, 209, 210, 211, 212, 213, 214, 215, 216, 217, 218, 219, 220, 221, 222, 223, 224, 225, 226, 227, 228, 229, 230, 231, 232, 233].contains o = false → ∀ i, I o i = h.2.1 o i) → Z (some (.int v)) (h.1, I, J, h.2.2.2)) : ∀ (m : Nat) (I : Nat → Nat → Int32) (J : Nat → Nat → Int64) (be : Int32) (ru : Int32) (ov : Int32) (q : Int32) (l6 l7 l8 l9 : Value), hk_B I → (∀ o, [11, 12, 13, 14, 28, 36, 37, 116, 192, 193, 194, 195, 196, 197, 198, 199, 200, 201, 202, 203, 204, 205, 206, 207, 208, 209, 210, 211, 212, 213, 214, 215, 216, 217, 218, 219, 220, 221, 222, 223, 224, 225, 226, 227, 228, 229, 230, 231, 232, 233].contains o = false → ∀ i, I o i = h.2.1 o i) → (v_C I) → ((I 11 (b.toInt.toNat)).toInt = 0) → ((0 : Int) ≤ q.toInt ∧ q.toInt ≤ 20) → (20 - q.toInt).toNat = m → qm_Ru (some (L, xs)) (d + 100) cd_233 (13, [.ref 38, .int b, .int be, .int ru, .int ov, .int q, l6, l7, l8, l9], [], (h.1, I, J, h.2.2.2)) Z := by
  intro m
  induction m using Nat.strongRecOn with
  | ind m ih =>
    intro I J be ru ov q l6 l7 l8 l9 hBI e hVI h1 hq hm
    refine qm_Ru.go 1 (c' := (15, [.ref 38, .int b, .int be, .int ru, .int ov, .int q, l6, l7, l8, l9], [.int q], (h.1, I, J, h.2.2.2))) rfl ?_
    obtain ⟨v1, q_v1⟩ : ∃ v, I 11 (b.toInt.toNat) = v := ⟨_, rfl⟩
    have f_v1 : v1.toInt = 0 := by rw [← q_v1]; exact h1
    refine qm_Ru.go 1 (c' := (16, [.ref 38, .int b, .int be, .int ru, .int ov, .int q, l6, l7, l8, l9], [.ref 38, .int q], (h.1, I, J, h.2.2.2))) rfl ?_
    refine hk_getr rfl (hH.1 38 (10, 5) rfl) rfl (hH.2 38 1 (some 28) rfl) ?_
    refine qm_Ru.go 0 (c' := (19, [.ref 38, .int b, .int be, .int ru, .int ov, .int q, l6, l7, l8, l9], [.ref 28, .int q], (h.1, I, J, h.2.2.2))) rfl ?_
    refine hk_getr rfl (hH.1 28 (9, 8) rfl) rfl hT.2 ?_
    refine qm_Ru.go 0 (c' := (22, [.ref 38, .int b, .int be, .int ru, .int ov, .int q, l6, l7, l8, l9], [.ref 111, .int q], (h.1, I, J, h.2.2.2))) rfl ?_
    obtain ⟨v2, q_v2⟩ : ∃ v, h.2.1 111 0 = v := ⟨_, rfl⟩
    have b_v2 : (2 : Int) ≤ v2.toInt ∧ v2.toInt ≤ 5 := by rw [← q_v2]; exact hB 111 0
    refine hk_geti (v := v2) rfl (hH.1 111 (11, 16) rfl) rfl (show (I) 111 0 = _ from ((e 111 rfl 0).trans q_v2)) ?_
    refine qm_Ru.go 2 (c' := (27, [.ref 38, .int b, .int be, .int ru, .int ov, .int q, l6, l7, l8, l9], [.int (v2 * 4), .int q], (h.1, I, J, h.2.2.2))) rfl ?_
    obtain ⟨v3, q_v3, e_v3⟩ := hk_mul (x := v2) (y := 4) (a := v2.toInt) (b := 4) rfl rfl (by omega) (by omega)
    rw [q_v3]
    refine hk_cge (ix := q.toInt) (iy := v3.toInt) rfl rfl rfl (fun z4 => ?_) (fun z4 => ?_)
    · refine qm_Ru.go 1 (c' := (122, [.ref 38, .int b, .int be, .int ru, .int ov, .int q, l6, l7, l8, l9], [.int be], (h.1, I, J, h.2.2.2))) rfl ?_
      refine qm_Ru.rt (v := (some (.int be))) (h' := (h.1, I, J, h.2.2.2)) rfl ?_
      exact k be (I) (J) hBI hVI (fun o ho i => (e o ho i))
    · refine qm_Ru.go 1 (c' := (31, [.ref 38, .int b, .int be, .int ru, .int ov, .int q, l6, l7, l8, l9], [.ref 38], (h.1, I, J, h.2.2.2))) rfl ?_
      refine hk_getr rfl (hH.1 38 (10, 5) rfl) rfl (hH.2 38 1 (some 28) rfl) ?_
      refine qm_Ru.go 4 (c' := (39, [.ref 38, .int b, .int be, .int ru, .int ov, .int q, l6, l7, l8, l9], [.int (q / 4), .int b, .ref 28], (h.1, I, J, h.2.2.2))) rfl ?_
      obtain ⟨v5, q_v5, e_v5⟩ := hk_div (x := q) (y := 4) (a := q.toInt) (b := 4) rfl rfl (by omega) (by omega)
      rw [q_v5]
      refine qm_Ru.go 3 (c' := (43, [.ref 38, .int b, .int be, .int ru, .int ov, .int q, l6, l7, l8, l9], [.int (q - q / 4 * 4), .int v5, .int b, .ref 28], (h.1, I, J, h.2.2.2))) rfl ?_
      obtain ⟨v6, q_v6, e_v6⟩ := hk_rem (x := q) (y := 4) (a := q.toInt) (b := 4) rfl rfl (by omega) (by omega)
      rw [q_v6]
      refine hk_inv (o := 28) (r := []) (as := [.ref 28, .int b, .int v5, .int v6]) rfl rfl (hH.1 28 (9, 8) rfl) rfl rfl rfl rfl (hq_try111 (h := (h.1, I, J, h.2.2.2)) h6 hH hT hBI hVI (b := b) (y := v5) (r := v6) (fun v7 J8 c_v7 d_v7 => ?_) (fun t9 J10 f11 g12 => ?_))
      · refine qm_Ru.go 2 (c' := (50, [.ref 38, .int b, .int be, .int ru, .int ov, .int q, .int v7, l7, l8, l9], [.int v7], (h.1, I, J8, h.2.2.2))) rfl ?_
        refine hk_zge (ix := v7.toInt) rfl rfl (fun z13 => by exfalso; omega) (fun z13 => ?_)
        refine qm_Ru.go 2 (c' := (118, [.ref 38, .int b, .int be, .int ru, .int ov, .int (q + 1), .int v7, l7, l8, l9], [], (h.1, I, J8, h.2.2.2))) rfl ?_
        obtain ⟨v14, q_v14, e_v14⟩ := hk_add (x := q) (y := 1) (a := q.toInt) (b := 1) rfl rfl (by omega) (by omega)
        rw [q_v14]
        refine qm_Ru.go 1 (c' := (13, [.ref 38, .int b, .int be, .int ru, .int ov, .int v14, .int v7, l7, l8, l9], [], (h.1, I, J8, h.2.2.2))) rfl ?_
        exact ih _ (by omega) (I) (J8) be ru ov v14 (.int v7) l7 l8 l9 hBI (fun o ho i => (e o ho i)) hVI ((congrArg Int32.toInt q_v1).trans (by omega)) (by omega) rfl
      · obtain ⟨f11_y, f11_r, f11_t, f11_f, f11_b⟩ := f11
        obtain ⟨g12_b, g12_n, _⟩ := g12
        refine qm_Ru.go 2 (c' := (50, [.ref 38, .int b, .int be, .int ru, .int ov, .int q, .int t9, l7, l8, l9], [.int t9], (h.1, I, J10, h.2.2.2))) rfl ?_
        refine hk_zge (ix := t9.toInt) rfl rfl (fun z15 => ?_) (fun z15 => by exfalso; omega)
        refine qm_Ru.go 3 (c' := (60, [.ref 38, .int b, .int be, .int ru, .int ov, .int q, .int t9, l7, l8, l9], [.int (q * 4)], (h.1, I, J10, h.2.2.2))) rfl ?_
        obtain ⟨v16, q_v16, e_v16⟩ := hk_mul (x := q) (y := 4) (a := q.toInt) (b := 4) rfl rfl (by omega) (by omega)
        rw [q_v16]
        refine qm_Ru.go 2 (c' := (63, [.ref 38, .int b, .int be, .int ru, .int ov, .int q, .int t9, l7, l8, l9], [.int (v16 + t9)], (h.1, I, J10, h.2.2.2))) rfl ?_
        obtain ⟨v17, q_v17, e_v17⟩ := hk_add (x := v16) (y := t9) (a := v16.toInt) (b := t9.toInt) rfl rfl (by omega) (by omega)
        rw [q_v17]
        refine qm_Ru.go 4 (c' := (69, [.ref 38, .int b, .int be, .int ru, .int ov, .int q, .int t9, .int v17, l8, l9], [.int v17, .int b, .ref 38], (h.1, I, J10, h.2.2.2))) rfl ?_
        refine hk_inv (o := 38) (r := []) (as := [.ref 38, .int b, .int v17]) rfl rfl (hH.1 38 (10, 5) rfl) rfl rfl rfl rfl (hs_brk111 (h := (h.1, I, J10, h.2.2.2)) h6 hH hT hBI (v_C_ru hVI) ⟨by show (0 : Int) ≤ b.toInt; omega, by show b.toInt ≤ (29 : Int); omega⟩ ⟨by show (0 : Int) ≤ v17.toInt; omega, by show v17.toInt ≤ (79 : Int); omega⟩ (wS_same hW rfl rfl) (by omega) (fun v20 I18 J19 _ hB_I18 e_I18 => ?_))
        have hV_I18 : v_C I18 := v_C_cg9 hVI (fun o ho i => e_I18 o (q9_brk111 ho) i)
        refine qm_Ru.go 4 (c' := (78, [.ref 38, .int b, .int be, .int ru, .int ov, .int q, .int t9, .int v17, .int v20, l9], [.int v17, .int b, .ref 38], (h.1, I18, J19, h.2.2.2))) rfl ?_
        obtain ⟨v21, q_v21⟩ : ∃ v, h.2.1 6 0 = v := ⟨_, rfl⟩
        have b_v21 : (0 : Int) ≤ v21.toInt ∧ v21.toInt ≤ 30 := by rw [← q_v21]; exact hB 6 0
        refine hk_inv (o := 38) (r := []) (as := [.ref 38, .int b, .int v17]) rfl rfl (hH.1 38 (10, 5) rfl) rfl rfl rfl rfl (hs_ovw (h := (h.1, I18, J19, h.2.2.2)) h6 hH hB_I18 hV_I18 (b := b) (x := v17) (n := pI I 6 0) (by omega) (by omega) (by show (I18 6 0).toInt = pI I 6 0; rw [e_I18 6 rfl 0]; exact rfl) g12_n ((congrArg Int32.toInt (show (I18) 11 (b.toInt.toNat) = _ from ((e_I18 11 rfl (b.toInt.toNat)).trans q_v1))).trans (by omega)) (by show (I18 36 v17.toInt.toNat).toInt = -1; rw [e_I18 36 rfl _]; exact (show pI I 36 v17.toInt.toNat = -1 from by rw [show v17.toInt.toNat = (16 * v5.toInt + 4 * v6.toInt + t9.toInt).toNat from by omega]; exact f11_f)) (fun c => by show 0 ≤ (I18 36 (v17.toInt - 1).toNat).toInt; rw [e_I18 36 rfl _]; exact (show 0 ≤ pI I 36 (v17.toInt - 1).toNat from by rw [show (v17.toInt - 1).toNat = (16 * v5.toInt + 4 * v6.toInt + t9.toInt - 1).toNat from by omega]; exact f11_b (by omega))) (fun v24 I22 J23 hB_I22 hV_I22 p_I22 e_I22 s_I22 o_I22 => ?_))
        obtain ⟨v25, q_v25⟩ : ∃ v, I22 11 (b.toInt.toNat) = v := ⟨_, rfl⟩
        have f_v25 : v25.toInt = 0 := by rw [← q_v25]; exact p_I22
        refine qm_Ru.go 3 (c' := (86, [.ref 38, .int b, .int be, .int ru, .int ov, .int q, .int t9, .int v17, .int v20, .int v24], [.int ru, .int v20], (h.1, I22, J23, h.2.2.2))) rfl ?_
        refine hk_clt (ix := v20.toInt) (iy := ru.toInt) rfl rfl rfl (fun z26 => ?_) (fun z26 => ?_)
        · refine qm_Ru.go 5 (c' := (111, [.ref 38, .int b, .int be, .int v20, .int v24, .int q, .int t9, .int v17, .int v20, .int v24], [.int q], (h.1, I22, J23, h.2.2.2))) rfl ?_
          refine qm_Ru.call (j := 235) (as := [.int q]) (c' := (114, [.ref 38, .int b, .int be, .int v20, .int v24, .int q, .int t9, .int v17, .int v20, .int v24], [], (h.1, I22, J23, h.2.2.2))) rfl rfl rfl ?_
          refine qm_Ru.go 4 (c' := (5, [.int q], [.int (q / 4), .int 10], (h.1, I22, J23, h.2.2.2))) rfl ?_
          rw [q_v5]
          refine qm_Ru.go 1 (c' := (6, [.int q], [.int (10 * v5)], (h.1, I22, J23, h.2.2.2))) rfl ?_
          obtain ⟨v28, q_v28, e_v28⟩ := hk_mul (x := 10) (y := v5) (a := 10) (b := v5.toInt) rfl rfl (by omega) (by omega)
          rw [q_v28]
          refine qm_Ru.go 3 (c' := (9, [.int q], [.int (q - q / 4 * 4), .int v28], (h.1, I22, J23, h.2.2.2))) rfl ?_
          rw [q_v6]
          refine qm_Ru.go 1 (c' := (10, [.int q], [.int (v28 + v6)], (h.1, I22, J23, h.2.2.2))) rfl ?_
          obtain ⟨v30, q_v30, e_v30⟩ := hk_add (x := v28) (y := v6) (a := v28.toInt) (b := v6.toInt) rfl rfl (by omega) (by omega)
          rw [q_v30]
          refine qm_Ru.rt (v := (some (.int v30))) (h' := (h.1, I22, J23, h.2.2.2)) rfl ?_
          refine qm_Ru.go 2 (c' := (118, [.ref 38, .int b, .int v30, .int v20, .int v24, .int (q + 1), .int t9, .int v17, .int v20, .int v24], [], (h.1, I22, J23, h.2.2.2))) rfl ?_
          obtain ⟨v31, q_v31, e_v31⟩ := hk_add (x := q) (y := 1) (a := q.toInt) (b := 1) rfl rfl (by omega) (by omega)
          rw [q_v31]
          refine qm_Ru.go 1 (c' := (13, [.ref 38, .int b, .int v30, .int v20, .int v24, .int v31, .int t9, .int v17, .int v20, .int v24], [], (h.1, I22, J23, h.2.2.2))) rfl ?_
          exact ih _ (by omega) (I22) (J23) v30 v20 v24 v31 (.int t9) (.int v17) (.int v20) (.int v24) hB_I22 (fun o ho i => ((e_I22 o (hk_ms rfl ho) i).trans ((e_I18 o (hk_ms rfl ho) i).trans (e o ho i)))) hV_I22 ((congrArg Int32.toInt q_v25).trans (by omega)) (by omega) rfl
        · refine qm_Ru.go 2 (c' := (92, [.ref 38, .int b, .int be, .int ru, .int ov, .int q, .int t9, .int v17, .int v20, .int v24], [.int ru, .int v20], (h.1, I22, J23, h.2.2.2))) rfl ?_
          refine hk_cne (ix := v20.toInt) (iy := ru.toInt) rfl rfl rfl (fun z32 => ?_) (fun z32 => ?_)
          · refine qm_Ru.go 1 (c' := (118, [.ref 38, .int b, .int be, .int ru, .int ov, .int (q + 1), .int t9, .int v17, .int v20, .int v24], [], (h.1, I22, J23, h.2.2.2))) rfl ?_
            obtain ⟨v33, q_v33, e_v33⟩ := hk_add (x := q) (y := 1) (a := q.toInt) (b := 1) rfl rfl (by omega) (by omega)
            rw [q_v33]
            refine qm_Ru.go 1 (c' := (13, [.ref 38, .int b, .int be, .int ru, .int ov, .int v33, .int t9, .int v17, .int v20, .int v24], [], (h.1, I22, J23, h.2.2.2))) rfl ?_
            exact ih _ (by omega) (I22) (J23) be ru ov v33 (.int t9) (.int v17) (.int v20) (.int v24) hB_I22 (fun o ho i => ((e_I22 o (hk_ms rfl ho) i).trans ((e_I18 o (hk_ms rfl ho) i).trans (e o ho i)))) hV_I22 ((congrArg Int32.toInt q_v25).trans (by omega)) (by omega) rfl
          · refine qm_Ru.go 2 (c' := (99, [.ref 38, .int b, .int be, .int ru, .int ov, .int q, .int t9, .int v17, .int v20, .int v24], [.int ov, .int v24], (h.1, I22, J23, h.2.2.2))) rfl ?_
            refine hk_cge (ix := v24.toInt) (iy := ov.toInt) rfl rfl rfl (fun z34 => ?_) (fun z34 => ?_)
            · refine qm_Ru.go 1 (c' := (118, [.ref 38, .int b, .int be, .int ru, .int ov, .int (q + 1), .int t9, .int v17, .int v20, .int v24], [], (h.1, I22, J23, h.2.2.2))) rfl ?_
              obtain ⟨v35, q_v35, e_v35⟩ := hk_add (x := q) (y := 1) (a := q.toInt) (b := 1) rfl rfl (by omega) (by omega)
              rw [q_v35]
              refine qm_Ru.go 1 (c' := (13, [.ref 38, .int b, .int be, .int ru, .int ov, .int v35, .int t9, .int v17, .int v20, .int v24], [], (h.1, I22, J23, h.2.2.2))) rfl ?_
              exact ih _ (by omega) (I22) (J23) be ru ov v35 (.int t9) (.int v17) (.int v20) (.int v24) hB_I22 (fun o ho i => ((e_I22 o (hk_ms rfl ho) i).trans ((e_I18 o (hk_ms rfl ho) i).trans (e o ho i)))) hV_I22 ((congrArg Int32.toInt q_v25).trans (by omega)) (by omega) rfl
            · refine qm_Ru.go 5 (c' := (111, [.ref 38, .int b, .int be, .int v20, .int v24, .int q, .int t9, .int v17, .int v20, .int v24], [.int q], (h.1, I22, J23, h.2.2.2))) rfl ?_
              refine qm_Ru.call (j := 235) (as := [.int q]) (c' := (114, [.ref 38, .int b, .int be, .int v20, .int v24, .int q, .int t9, .int v17, .int v20, .int v24], [], (h.1, I22, J23, h.2.2.2))) rfl rfl rfl ?_
              refine qm_Ru.go 4 (c' := (5, [.int q], [.int (q / 4), .int 10], (h.1, I22, J23, h.2.2.2))) rfl ?_
              rw [q_v5]
              refine qm_Ru.go 1 (c' := (6, [.int q], [.int (10 * v5)], (h.1, I22, J23, h.2.2.2))) rfl ?_
              obtain ⟨v37, q_v37, e_v37⟩ := hk_mul (x := 10) (y := v5) (a := 10) (b := v5.toInt) rfl rfl (by omega) (by omega)
              rw [q_v37]
              refine qm_Ru.go 3 (c' := (9, [.int q], [.int (q - q / 4 * 4), .int v37], (h.1, I22, J23, h.2.2.2))) rfl ?_
              rw [q_v6]
              refine qm_Ru.go 1 (c' := (10, [.int q], [.int (v37 + v6)], (h.1, I22, J23, h.2.2.2))) rfl ?_
              obtain ⟨v39, q_v39, e_v39⟩ := hk_add (x := v37) (y := v6) (a := v37.toInt) (b := v6.toInt) rfl rfl (by omega) (by omega)
              rw [q_v39]
              refine qm_Ru.rt (v := (some (.int v39))) (h' := (h.1, I22, J23, h.2.2.2)) rfl ?_
              refine qm_Ru.go 2 (c' := (118, [.ref 38, .int b, .int v39, .int v20, .int v24, .int (q + 1), .int t9, .int v17, .int v20, .int v24], [], (h.1, I22, J23, h.2.2.2))) rfl ?_
              obtain ⟨v40, q_v40, e_v40⟩ := hk_add (x := q) (y := 1) (a := q.toInt) (b := 1) rfl rfl (by omega) (by omega)
              rw [q_v40]
              refine qm_Ru.go 1 (c' := (13, [.ref 38, .int b, .int v39, .int v20, .int v24, .int v40, .int t9, .int v17, .int v20, .int v24], [], (h.1, I22, J23, h.2.2.2))) rfl ?_
              exact ih _ (by omega) (I22) (J23) v39 v20 v24 v40 (.int t9) (.int v17) (.int v20) (.int v24) hB_I22 (fun o ho i => ((e_I22 o (hk_ms rfl ho) i).trans ((e_I18 o (hk_ms rfl ho) i).trans (e o ho i)))) hV_I22 ((congrArg Int32.toInt q_v25).trans (by omega)) (by omega) rfl
theorem hs_cbest111 {L : Nat} {xs : Nat → Int32} {d : Nat} {Z : Option Value → qm_H → Prop} {h : qm_H} (h6 : 6 ≤ L) (hH : hk_H h) (hB : hk_B h.2.1) (hT : h.2.2.2 0 9 = some 29 ∧ h.2.2.2 28 2 = some 111) (hW : wS h 111) {b : Int32} (b_b : (0 : Int) ≤ b.toInt ∧ b.toInt ≤ 29) (hV : v_C h.2.1) (h1 : (h.2.1 11 (b.toInt.toNat)).toInt = 0) (k : ∀ (v : Int32) (I : Nat → Nat → Int32) (J : Nat → Nat → Int64), hk_B I → v_C I → (∀ o, [11, 12, 13, 14, 28, 36, 37, 116, 192, 193, 194, 195, 196, 197, 198, 199, 200, 201, 202, 203, 204, 205, 206, 207, 208, 209, 210, 211, 212, 213, 214, 215, 216, 217, 218, 219, 220, 221, 222, 223, 224, 225, 226, 227, 228, 229, 230, 231, 232, 233].contains o = false → ∀ i, I o i = h.2.1 o i) → Z (some (.int v)) (h.1, I, J, h.2.2.2)) : qm_Ru (some (L, xs)) (d + 100) cd_233 (qm_ent 10 [.ref 38, .int b] h) Z := by
  refine qm_Ru.go 8 (c' := (13, [.ref 38, .int b, .int (-2), .int 1000000, .int 1000000, .int 0, .float 0, .float 0, .float 0, .float 0], [], h)) rfl ?_
  exact hl_cbest111 h6 hH hB hT hW b_b k _ h.2.1 h.2.2.1 (-2) 1000000 1000000 0 _ _ _ _ hB (fun _ _ _ => rfl) hV h1 (by decide) rfl
theorem hc_cbest111 : hk_ct v_C (fun h => (h.2.2.2 0 9 = some 29 ∧ h.2.2.2 28 2 = some 111) ∧ wS h 111) (fun as I => ∃ b : Int32, as = [.ref 0, .int b]) 232 (some (-2147483648, 2147483647)) [11, 12, 13, 14, 28, 36, 37, 116, 192, 193, 194, 195, 196, 197, 198, 199, 200, 201, 202, 203, 204, 205, 206, 207, 208, 209, 210, 211, 212, 213, 214, 215, 216, 217, 218, 219, 220, 221, 222, 223, 224, 225, 226, 227, 228, 229, 230, 231, 232, 233] 120 := by
  intro L xs d Z h as h6 hH hT2 hB hV hp hd k
  obtain ⟨hT, hW⟩ := hT2
  obtain ⟨b, rfl⟩ := hp
  obtain ⟨d, rfl⟩ : ∃ e, d = e + 120 := ⟨d - 120, by omega⟩
  show qm_Ru (some (L, xs)) (d + 120) cd_232 (qm_ent 2 [.ref 0, .int b] h) Z
  refine qm_Ru.go 1 (c' := (1, [.ref 0, .int b], [.ref 0], h)) rfl ?_
  refine hk_getr rfl (hH.1 0 (16, 10) rfl) rfl (hH.2 0 2 (some 6) rfl) ?_
  refine qm_Ru.go 1 (c' := (5, [.ref 0, .int b], [.int b, .ref 6], h)) rfl ?_
  refine hk_inv (o := 6) (r := []) (as := [.ref 6, .int b]) rfl rfl (hH.1 6 (6, 9) rfl) rfl rfl rfl rfl ?_
  refine qm_Ru.go 2 (c' := (2, [.ref 6, .int b], [.int b, .ref 6], h)) rfl ?_
  refine hk_inv (o := 6) (r := []) (as := [.ref 6, .int b]) rfl rfl (hH.1 6 (6, 9) rfl) rfl rfl rfl rfl ?_
  refine qm_Ru.go 1 (c' := (1, [.ref 6, .int b], [.int b], h)) rfl ?_
  refine hk_zlt (ix := b.toInt) rfl rfl (fun z1 => ?_) (fun z1 => ?_)
  · refine qm_Ru.go 1 (c' := (17, [.ref 6, .int b], [.int 0], h)) rfl ?_
    refine qm_Ru.rt (v := (some (.int 0))) (h' := h) rfl ?_
    refine qm_Ru.go 2 (c' := (22, [.ref 6, .int b], [.int 0], h)) rfl ?_
    refine qm_Ru.rt (v := (some (.int 0))) (h' := h) rfl ?_
    refine qm_Ru.go 2 (c' := (23, [.ref 0, .int b], [.int (-1)], h)) rfl ?_
    refine qm_Ru.rt (v := (some (.int (-1)))) (h' := h) rfl ?_
    exact k (some (.int (-1))) (h.2.1) (h.2.2.1) ⟨_, rfl, qa_in_full _⟩ hB hV (fun o ho i => rfl)
  · refine qm_Ru.go 2 (c' := (6, [.ref 6, .int b], [.ref 6, .int b], h)) rfl ?_
    obtain ⟨v2, q_v2⟩ : ∃ v, h.2.1 6 0 = v := ⟨_, rfl⟩
    have b_v2 : (0 : Int) ≤ v2.toInt ∧ v2.toInt ≤ 30 := by rw [← q_v2]; exact hB 6 0
    refine hk_geti (v := v2) rfl (hH.1 6 (6, 9) rfl) rfl q_v2 ?_
    refine qm_Ru.go 0 (c' := (9, [.ref 6, .int b], [.int v2, .int b], h)) rfl ?_
    refine hk_cge (ix := b.toInt) (iy := v2.toInt) rfl rfl rfl (fun z3 => ?_) (fun z3 => ?_)
    · refine qm_Ru.go 1 (c' := (17, [.ref 6, .int b], [.int 0], h)) rfl ?_
      refine qm_Ru.rt (v := (some (.int 0))) (h' := h) rfl ?_
      refine qm_Ru.go 2 (c' := (22, [.ref 6, .int b], [.int 0], h)) rfl ?_
      refine qm_Ru.rt (v := (some (.int 0))) (h' := h) rfl ?_
      refine qm_Ru.go 2 (c' := (23, [.ref 0, .int b], [.int (-1)], h)) rfl ?_
      refine qm_Ru.rt (v := (some (.int (-1)))) (h' := h) rfl ?_
      exact k (some (.int (-1))) (h.2.1) (h.2.2.1) ⟨_, rfl, qa_in_full _⟩ hB hV (fun o ho i => rfl)
    · refine qm_Ru.go 2 (c' := (17, [.ref 6, .int b], [.int 1], h)) rfl ?_
      refine qm_Ru.rt (v := (some (.int 1))) (h' := h) rfl ?_
      refine qm_Ru.go 2 (c' := (9, [.ref 6, .int b], [.ref 6], h)) rfl ?_
      refine hk_getr rfl (hH.1 6 (6, 9) rfl) rfl (hH.2 6 5 (some 11) rfl) ?_
      refine qm_Ru.go 1 (c' := (13, [.ref 6, .int b], [.int b, .ref 11], h)) rfl ?_
      obtain ⟨v4, q_v4⟩ : ∃ v, h.2.1 11 (b.toInt.toNat) = v := ⟨_, rfl⟩
      have b_v4 : (0 : Int) ≤ v4.toInt ∧ v4.toInt ≤ 2 := by rw [← q_v4]; exact hB 11 (b.toInt.toNat)
      refine hk_ial (v := v4) rfl (hH.1 11 (0, 30) rfl) (by omega) (by omega) q_v4 ?_
      refine qm_Ru.go 0 (c' := (14, [.ref 6, .int b], [.int v4], h)) rfl ?_
      refine hk_zne (ix := v4.toInt) rfl rfl (fun z5 => ?_) (fun z5 => ?_)
      · refine qm_Ru.go 1 (c' := (22, [.ref 6, .int b], [.int 0], h)) rfl ?_
        refine qm_Ru.rt (v := (some (.int 0))) (h' := h) rfl ?_
        refine qm_Ru.go 2 (c' := (23, [.ref 0, .int b], [.int (-1)], h)) rfl ?_
        refine qm_Ru.rt (v := (some (.int (-1)))) (h' := h) rfl ?_
        exact k (some (.int (-1))) (h.2.1) (h.2.2.1) ⟨_, rfl, qa_in_full _⟩ hB hV (fun o ho i => rfl)
      · refine qm_Ru.go 2 (c' := (22, [.ref 6, .int b], [.int 1], h)) rfl ?_
        refine qm_Ru.rt (v := (some (.int 1))) (h' := h) rfl ?_
        refine qm_Ru.go 2 (c' := (12, [.ref 0, .int b], [.ref 0], h)) rfl ?_
        refine hk_getr rfl (hH.1 0 (16, 10) rfl) rfl (hH.2 0 5 (some 38) rfl) ?_
        refine qm_Ru.go 1 (c' := (16, [.ref 0, .int b], [.int b, .ref 38], h)) rfl ?_
        refine hk_inv (o := 38) (r := []) (as := [.ref 38, .int b]) rfl rfl (hH.1 38 (10, 5) rfl) rfl rfl rfl rfl (hs_cbest111 (h := h) h6 hH hB hT hW (b := b) (by omega) hV ((congrArg Int32.toInt q_v4).trans (by omega)) (fun v8 I6 J7 hB_I6 hV_I6 e_I6 => ?_))
        refine qm_Ru.go 1 (c' := (23, [.ref 0, .int b], [.int v8], (h.1, I6, J7, h.2.2.2))) rfl ?_
        refine qm_Ru.rt (v := (some (.int v8))) (h' := (h.1, I6, J7, h.2.2.2)) rfl ?_
        exact k (some (.int v8)) (I6) (J7) ⟨_, rfl, qa_in_full _⟩ hB_I6 hV_I6 (fun o ho i => ((e_I6 o (hk_ms rfl ho) i).trans rfl))
