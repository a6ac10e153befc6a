/-! by hand -/
theorem hl_c85 {L : Nat} {xs : Nat → Int32} {d : Nat} {Z : Option Value → qm_H → Prop} {h : qm_H} (hH : hk_H h) (hB : hk_B h.2.1) {n pos : Int32} (q_n : h.2.1 118 4 = n) (hn : 0 ≤ n.toInt ∧ n.toInt ≤ 2000) (hpos : 0 ≤ pos.toInt ∧ pos.toInt ≤ n.toInt) {b : Int32} {l6 l7 : Value} (k : ∀ (len : Int32) (g : Int64), (0 ≤ len.toInt ∧ len.toInt ≤ n.toInt - pos.toInt) → qm_Ru (some (L, xs)) (d + 3) cd_249 (124, [.ref 118, .int pos, .int b, .int len, .long g, .float 0, l6, l7], [], h) Z) : ∀ (m : Nat) (len : Int32) (g : Int64), (0 ≤ len.toInt ∧ len.toInt ≤ n.toInt - pos.toInt) → (n.toInt - pos.toInt - len.toInt ≤ (m : Int)) → qm_Ru (some (L, xs)) (d + 3) cd_249 (85, [.ref 118, .int pos, .int b, .int len, .long g, .float 0, l6, l7], [], h) Z := by
  intro m
  induction m using Nat.strongRecOn with
  | ind m ih =>
    intro len g hl hm
    refine qm_Ru.go 4 (c' := (89, [.ref 118, .int pos, .int b, .int len, .long g, .float 0, l6, l7], [.int (pos + len), .ref 118], h)) rfl ?_
    obtain ⟨v1, q_v1, e_v1⟩ := hk_add (x := pos) (y := len) (a := pos.toInt) (b := len.toInt) rfl rfl (by omega) (by omega)
    rw [q_v1]
    refine hk_inv (o := 118) (r := []) (as := [.ref 118, .int v1]) rfl rfl (hH.1 118 (17, 105) rfl) rfl rfl rfl rfl ?_
    refine qm_Ru.go 2 (c' := (2, [.ref 118, .int v1], [.ref 118, .int v1], h)) rfl ?_
    refine hk_geti (v := n) rfl (hH.1 118 (17, 105) rfl) rfl q_n ?_
    refine qm_Ru.go 0 (c' := (5, [.ref 118, .int v1], [.int n, .int v1], h)) rfl ?_
    refine hk_cge (ix := v1.toInt) (iy := n.toInt) rfl rfl rfl (fun z2 => ?_) (fun z2 => ?_)
    · refine qm_Ru.go 1 (c' := (22, [.ref 118, .int v1], [.int 0], h)) rfl ?_
      refine qm_Ru.rt (v := (some (.int 0))) (h' := h) rfl ?_
      refine qm_Ru.go 0 (c' := (92, [.ref 118, .int pos, .int b, .int len, .long g, .float 0, l6, l7], [.int 0], h)) rfl ?_
      refine qm_Ru.call (j := 252) (as := [.int 0]) (c' := (95, [.ref 118, .int pos, .int b, .int len, .long g, .float 0, l6, l7], [], h)) rfl rfl rfl ?_
      refine qm_Ru.go 4 (c' := (17, [.int 0], [.int 0], h)) rfl ?_
      refine qm_Ru.rt (v := (some (.int 0))) (h' := h) rfl ?_
      refine qm_Ru.go 1 (c' := (124, [.ref 118, .int pos, .int b, .int len, .long g, .float 0, l6, l7], [], h)) rfl ?_
      exact k len g (by omega)
    · refine qm_Ru.go 1 (c' := (9, [.ref 118, .int v1], [.ref 118], h)) rfl ?_
      refine hk_getr rfl (hH.1 118 (17, 105) rfl) rfl (hH.2 118 3 (some 120) rfl) ?_
      refine qm_Ru.go 1 (c' := (13, [.ref 118, .int v1], [.int v1, .ref 120], h)) rfl ?_
      obtain ⟨v3, q_v3⟩ : ∃ v, h.2.1 120 (v1.toInt.toNat) = v := ⟨_, rfl⟩
      have b_v3 : (-128 : Int) ≤ v3.toInt ∧ v3.toInt ≤ 127 := by rw [← q_v3]; exact hB 120 (v1.toInt.toNat)
      refine hk_bal (v := v3) rfl (hH.1 120 (1, 2000) rfl) (by decide) (by omega) (by omega) q_v3 ?_
      refine qm_Ru.go 2 (c' := (18, [.ref 118, .int v1], [.int (v3 &&& 255)], h)) rfl ?_
      obtain ⟨v4, q_v4⟩ : ∃ v, (v3 &&& 255) = v := ⟨_, rfl⟩
      rw [q_v4]
      refine qm_Ru.go 1 (c' := (22, [.ref 118, .int v1], [.int v4], h)) rfl ?_
      refine qm_Ru.rt (v := (some (.int v4))) (h' := h) rfl ?_
      refine qm_Ru.go 0 (c' := (92, [.ref 118, .int pos, .int b, .int len, .long g, .float 0, l6, l7], [.int v4], h)) rfl ?_
      refine qm_Ru.call (j := 252) (as := [.int v4]) (c' := (95, [.ref 118, .int pos, .int b, .int len, .long g, .float 0, l6, l7], [], h)) rfl rfl rfl ?_
      refine qm_Ru.go 2 (c' := (3, [.int v4], [.int 97, .int v4], h)) rfl ?_
      refine hk_clt (ix := v4.toInt) (iy := 97) rfl rfl rfl (fun z5 => ?_) (fun z5 => ?_)
      · refine qm_Ru.go 1 (c' := (17, [.int v4], [.int 0], h)) rfl ?_
        refine qm_Ru.rt (v := (some (.int 0))) (h' := h) rfl ?_
        refine qm_Ru.go 1 (c' := (124, [.ref 118, .int pos, .int b, .int len, .long g, .float 0, l6, l7], [], h)) rfl ?_
        exact k len g (by omega)
      · refine qm_Ru.go 2 (c' := (9, [.int v4], [.int 122, .int v4], h)) rfl ?_
        refine hk_cgt (ix := v4.toInt) (iy := 122) rfl rfl rfl (fun z6 => ?_) (fun z6 => ?_)
        · refine qm_Ru.go 1 (c' := (17, [.int v4], [.int 0], h)) rfl ?_
          refine qm_Ru.rt (v := (some (.int 0))) (h' := h) rfl ?_
          refine qm_Ru.go 1 (c' := (124, [.ref 118, .int pos, .int b, .int len, .long g, .float 0, l6, l7], [], h)) rfl ?_
          exact k len g (by omega)
        · refine qm_Ru.go 2 (c' := (17, [.int v4], [.int 1], h)) rfl ?_
          refine qm_Ru.rt (v := (some (.int 1))) (h' := h) rfl ?_
          refine qm_Ru.go 3 (c' := (101, [.ref 118, .int pos, .int b, .int len, .long g, .float 0, l6, l7], [.int 8, .int len], h)) rfl ?_
          refine hk_cge (ix := len.toInt) (iy := 8) rfl rfl rfl (fun z7 => ?_) (fun z7 => ?_)
          · refine qm_Ru.go 1 (c' := (121, [.ref 118, .int pos, .int b, .int (len + 1), .long g, .float 0, l6, l7], [], h)) rfl ?_
            obtain ⟨v8, q_v8, e_v8⟩ := hk_add (x := len) (y := 1) (a := len.toInt) (b := 1) rfl rfl (by omega) (by omega)
            rw [q_v8]
            refine qm_Ru.go 1 (c' := (85, [.ref 118, .int pos, .int b, .int v8, .long g, .float 0, l6, l7], [], h)) rfl ?_
            exact ih (m - 1) (by omega) v8 g (by omega) (by omega)
          · refine qm_Ru.go 5 (c' := (110, [.ref 118, .int pos, .int b, .int len, .long g, .float 0, l6, l7], [.int (pos + len), .ref 118, .long g], h)) rfl ?_
            rw [q_v1]
            refine hk_inv (o := 118) (r := [.long g]) (as := [.ref 118, .int v1]) rfl rfl (hH.1 118 (17, 105) rfl) rfl rfl rfl rfl ?_
            refine qm_Ru.go 2 (c' := (2, [.ref 118, .int v1], [.ref 118, .int v1], h)) rfl ?_
            refine hk_geti (v := n) rfl (hH.1 118 (17, 105) rfl) rfl q_n ?_
            refine qm_Ru.go 0 (c' := (5, [.ref 118, .int v1], [.int n, .int v1], h)) rfl ?_
            refine hk_cge (ix := v1.toInt) (iy := n.toInt) rfl rfl rfl (fun z10 => ?_) (fun z10 => ?_)
            · refine qm_Ru.go 1 (c' := (22, [.ref 118, .int v1], [.int 0], h)) rfl ?_
              refine qm_Ru.rt (v := (some (.int 0))) (h' := h) rfl ?_
              refine qm_Ru.go 0 (c' := (113, [.ref 118, .int pos, .int b, .int len, .long g, .float 0, l6, l7], [.int 0, .long g], h)) rfl ?_
              refine qm_Ru.call (j := 244) (as := [.long g, .int 0]) (c' := (116, [.ref 118, .int pos, .int b, .int len, .long g, .float 0, l6, l7], [], h)) rfl rfl rfl ?_
              refine qm_Ru.go 4 (c' := (21, [.long g, .float 0, .int 0], [.long g], h)) rfl ?_
              refine qm_Ru.rt (v := (some (.long g))) (h' := h) rfl ?_
              refine qm_Ru.go 2 (c' := (121, [.ref 118, .int pos, .int b, .int (len + 1), .long g, .float 0, l6, l7], [], h)) rfl ?_
              obtain ⟨v11, q_v11, e_v11⟩ := hk_add (x := len) (y := 1) (a := len.toInt) (b := 1) rfl rfl (by omega) (by omega)
              rw [q_v11]
              refine qm_Ru.go 1 (c' := (85, [.ref 118, .int pos, .int b, .int v11, .long g, .float 0, l6, l7], [], h)) rfl ?_
              exact ih (m - 1) (by omega) v11 g (by omega) (by omega)
            · refine qm_Ru.go 1 (c' := (9, [.ref 118, .int v1], [.ref 118], h)) rfl ?_
              refine hk_getr rfl (hH.1 118 (17, 105) rfl) rfl (hH.2 118 3 (some 120) rfl) ?_
              refine qm_Ru.go 1 (c' := (13, [.ref 118, .int v1], [.int v1, .ref 120], h)) rfl ?_
              refine hk_bal (v := v3) rfl (hH.1 120 (1, 2000) rfl) (by decide) (by omega) (by omega) q_v3 ?_
              refine qm_Ru.go 2 (c' := (18, [.ref 118, .int v1], [.int (v3 &&& 255)], h)) rfl ?_
              rw [q_v4]
              refine qm_Ru.go 1 (c' := (22, [.ref 118, .int v1], [.int v4], h)) rfl ?_
              refine qm_Ru.rt (v := (some (.int v4))) (h' := h) rfl ?_
              refine qm_Ru.go 0 (c' := (113, [.ref 118, .int pos, .int b, .int len, .long g, .float 0, l6, l7], [.int v4, .long g], h)) rfl ?_
              refine qm_Ru.call (j := 244) (as := [.long g, .int v4]) (c' := (116, [.ref 118, .int pos, .int b, .int len, .long g, .float 0, l6, l7], [], h)) rfl rfl rfl ?_
              refine qm_Ru.go 1 (c' := (1, [.long g, .float 0, .int v4], [.int v4], h)) rfl ?_
              refine hk_zne (ix := v4.toInt) rfl rfl (fun z13 => ?_) (fun z13 => by exfalso; omega)
              refine qm_Ru.go 3 (c' := (13, [.long g, .float 0, .int v4], [.long (27 * g)], h)) rfl ?_
              obtain ⟨v14, q_v14⟩ : ∃ v, (27 * g) = v := ⟨_, rfl⟩
              rw [q_v14]
              refine qm_Ru.go 3 (c' := (17, [.long g, .float 0, .int v4], [.int (v4 - 97), .long v14], h)) rfl ?_
              obtain ⟨v15, q_v15, e_v15⟩ := hk_sub (x := v4) (y := 97) (a := v4.toInt) (b := 97) rfl rfl (by omega) (by omega)
              rw [q_v15]
              refine qm_Ru.go 2 (c' := (19, [.long g, .float 0, .int v4], [.int (v15 + 1), .long v14], h)) rfl ?_
              obtain ⟨v16, q_v16, e_v16⟩ := hk_add (x := v15) (y := 1) (a := v15.toInt) (b := 1) rfl rfl (by omega) (by omega)
              rw [q_v16]
              refine qm_Ru.go 1 (c' := (20, [.long g, .float 0, .int v4], [.long (Int32.toInt64 v16), .long v14], h)) rfl ?_
              obtain ⟨v17, q_v17⟩ : ∃ v, (Int32.toInt64 v16) = v := ⟨_, rfl⟩
              rw [q_v17]
              refine qm_Ru.go 1 (c' := (21, [.long g, .float 0, .int v4], [.long (v14 + v17)], h)) rfl ?_
              obtain ⟨v18, q_v18⟩ : ∃ v, (v14 + v17) = v := ⟨_, rfl⟩
              rw [q_v18]
              refine qm_Ru.rt (v := (some (.long v18))) (h' := h) rfl ?_
              refine qm_Ru.go 2 (c' := (121, [.ref 118, .int pos, .int b, .int (len + 1), .long v18, .float 0, l6, l7], [], h)) rfl ?_
              obtain ⟨v19, q_v19, e_v19⟩ := hk_add (x := len) (y := 1) (a := len.toInt) (b := 1) rfl rfl (by omega) (by omega)
              rw [q_v19]
              refine qm_Ru.go 1 (c' := (85, [.ref 118, .int pos, .int b, .int v19, .long v18, .float 0, l6, l7], [], h)) rfl ?_
              exact ih (m - 1) (by omega) v19 v18 (by omega) (by omega)
theorem hl_c208 {L : Nat} {xs : Nat → Int32} {d : Nat} {Z : Option Value → qm_H → Prop} {h : qm_H} (hH : hk_H h) (hB : hk_B h.2.1) {n pos : Int32} (q_n : h.2.1 118 4 = n) (hn : 0 ≤ n.toInt ∧ n.toInt ≤ 2000) (hpos : 0 ≤ pos.toInt ∧ pos.toInt ≤ n.toInt) {b : Int32} {l6 l7 : Value} {l5 : Value} (k : ∀ (len w4 : Int32), (0 ≤ len.toInt ∧ len.toInt ≤ n.toInt - pos.toInt) → qm_Ru (some (L, xs)) (d + 3) cd_249 (250, [.ref 118, .int pos, .int b, .int len, .int w4, l5, l6, l7], [], h) Z) : ∀ (m : Nat) (len w4 : Int32), (0 ≤ len.toInt ∧ len.toInt ≤ n.toInt - pos.toInt) → (n.toInt - pos.toInt - len.toInt ≤ (m : Int)) → qm_Ru (some (L, xs)) (d + 3) cd_249 (208, [.ref 118, .int pos, .int b, .int len, .int w4, l5, l6, l7], [], h) Z := by
  intro m
  induction m using Nat.strongRecOn with
  | ind m ih =>
    intro len w4 hl hm
    refine qm_Ru.go 4 (c' := (212, [.ref 118, .int pos, .int b, .int len, .int w4, l5, l6, l7], [.int (pos + len), .ref 118], h)) rfl ?_
    obtain ⟨v1, q_v1, e_v1⟩ := hk_add (x := pos) (y := len) (a := pos.toInt) (b := len.toInt) rfl rfl (by omega) (by omega)
    rw [q_v1]
    refine hk_inv (o := 118) (r := []) (as := [.ref 118, .int v1]) rfl rfl (hH.1 118 (17, 105) rfl) rfl rfl rfl rfl ?_
    refine qm_Ru.go 2 (c' := (2, [.ref 118, .int v1], [.ref 118, .int v1], h)) rfl ?_
    refine hk_geti (v := n) rfl (hH.1 118 (17, 105) rfl) rfl q_n ?_
    refine qm_Ru.go 0 (c' := (5, [.ref 118, .int v1], [.int n, .int v1], h)) rfl ?_
    refine hk_cge (ix := v1.toInt) (iy := n.toInt) rfl rfl rfl (fun z2 => ?_) (fun z2 => ?_)
    · refine qm_Ru.go 1 (c' := (22, [.ref 118, .int v1], [.int 0], h)) rfl ?_
      refine qm_Ru.rt (v := (some (.int 0))) (h' := h) rfl ?_
      refine qm_Ru.go 0 (c' := (215, [.ref 118, .int pos, .int b, .int len, .int w4, l5, l6, l7], [.int 0], h)) rfl ?_
      refine qm_Ru.call (j := 253) (as := [.int 0]) (c' := (218, [.ref 118, .int pos, .int b, .int len, .int w4, l5, l6, l7], [], h)) rfl rfl rfl ?_
      refine qm_Ru.go 4 (c' := (17, [.int 0], [.int 0], h)) rfl ?_
      refine qm_Ru.rt (v := (some (.int 0))) (h' := h) rfl ?_
      refine qm_Ru.go 1 (c' := (250, [.ref 118, .int pos, .int b, .int len, .int w4, l5, l6, l7], [], h)) rfl ?_
      exact k len w4 (by omega)
    · refine qm_Ru.go 1 (c' := (9, [.ref 118, .int v1], [.ref 118], h)) rfl ?_
      refine hk_getr rfl (hH.1 118 (17, 105) rfl) rfl (hH.2 118 3 (some 120) rfl) ?_
      refine qm_Ru.go 1 (c' := (13, [.ref 118, .int v1], [.int v1, .ref 120], h)) rfl ?_
      obtain ⟨v3, q_v3⟩ : ∃ v, h.2.1 120 (v1.toInt.toNat) = v := ⟨_, rfl⟩
      have b_v3 : (-128 : Int) ≤ v3.toInt ∧ v3.toInt ≤ 127 := by rw [← q_v3]; exact hB 120 (v1.toInt.toNat)
      refine hk_bal (v := v3) rfl (hH.1 120 (1, 2000) rfl) (by decide) (by omega) (by omega) q_v3 ?_
      refine qm_Ru.go 2 (c' := (18, [.ref 118, .int v1], [.int (v3 &&& 255)], h)) rfl ?_
      obtain ⟨v4, q_v4⟩ : ∃ v, (v3 &&& 255) = v := ⟨_, rfl⟩
      rw [q_v4]
      refine qm_Ru.go 1 (c' := (22, [.ref 118, .int v1], [.int v4], h)) rfl ?_
      refine qm_Ru.rt (v := (some (.int v4))) (h' := h) rfl ?_
      refine qm_Ru.go 0 (c' := (215, [.ref 118, .int pos, .int b, .int len, .int w4, l5, l6, l7], [.int v4], h)) rfl ?_
      refine qm_Ru.call (j := 253) (as := [.int v4]) (c' := (218, [.ref 118, .int pos, .int b, .int len, .int w4, l5, l6, l7], [], h)) rfl rfl rfl ?_
      refine qm_Ru.go 2 (c' := (3, [.int v4], [.int 48, .int v4], h)) rfl ?_
      refine hk_clt (ix := v4.toInt) (iy := 48) rfl rfl rfl (fun z5 => ?_) (fun z5 => ?_)
      · refine qm_Ru.go 1 (c' := (17, [.int v4], [.int 0], h)) rfl ?_
        refine qm_Ru.rt (v := (some (.int 0))) (h' := h) rfl ?_
        refine qm_Ru.go 1 (c' := (250, [.ref 118, .int pos, .int b, .int len, .int w4, l5, l6, l7], [], h)) rfl ?_
        exact k len w4 (by omega)
      · refine qm_Ru.go 2 (c' := (9, [.int v4], [.int 57, .int v4], h)) rfl ?_
        refine hk_cgt (ix := v4.toInt) (iy := 57) rfl rfl rfl (fun z6 => ?_) (fun z6 => ?_)
        · refine qm_Ru.go 1 (c' := (17, [.int v4], [.int 0], h)) rfl ?_
          refine qm_Ru.rt (v := (some (.int 0))) (h' := h) rfl ?_
          refine qm_Ru.go 1 (c' := (250, [.ref 118, .int pos, .int b, .int len, .int w4, l5, l6, l7], [], h)) rfl ?_
          exact k len w4 (by omega)
        · refine qm_Ru.go 2 (c' := (17, [.int v4], [.int 1], h)) rfl ?_
          refine qm_Ru.rt (v := (some (.int 1))) (h' := h) rfl ?_
          refine qm_Ru.go 3 (c' := (223, [.ref 118, .int pos, .int b, .int len, .int w4, l5, l6, l7], [.int 4, .int len], h)) rfl ?_
          refine hk_cge (ix := len.toInt) (iy := 4) rfl rfl rfl (fun z7 => ?_) (fun z7 => ?_)
          · refine qm_Ru.go 1 (c' := (247, [.ref 118, .int pos, .int b, .int (len + 1), .int w4, l5, l6, l7], [], h)) rfl ?_
            obtain ⟨v8, q_v8, e_v8⟩ := hk_add (x := len) (y := 1) (a := len.toInt) (b := 1) rfl rfl (by omega) (by omega)
            rw [q_v8]
            refine qm_Ru.go 1 (c' := (208, [.ref 118, .int pos, .int b, .int v8, .int w4, l5, l6, l7], [], h)) rfl ?_
            exact ih (m - 1) (by omega) v8 w4 (by omega) (by omega)
          · refine qm_Ru.go 3 (c' := (231, [.ref 118, .int pos, .int b, .int len, .int w4, l5, l6, l7], [.int (10 * w4)], h)) rfl ?_
            obtain ⟨v9, q_v9⟩ : ∃ v, (10 * w4) = v := ⟨_, rfl⟩
            rw [q_v9]
            refine qm_Ru.go 4 (c' := (235, [.ref 118, .int pos, .int b, .int len, .int w4, l5, l6, l7], [.int (pos + len), .ref 118, .int v9], h)) rfl ?_
            rw [q_v1]
            refine hk_inv (o := 118) (r := [.int v9]) (as := [.ref 118, .int v1]) rfl rfl (hH.1 118 (17, 105) rfl) rfl rfl rfl rfl ?_
            refine qm_Ru.go 2 (c' := (2, [.ref 118, .int v1], [.ref 118, .int v1], h)) rfl ?_
            refine hk_geti (v := n) rfl (hH.1 118 (17, 105) rfl) rfl q_n ?_
            refine qm_Ru.go 0 (c' := (5, [.ref 118, .int v1], [.int n, .int v1], h)) rfl ?_
            refine hk_cge (ix := v1.toInt) (iy := n.toInt) rfl rfl rfl (fun z11 => ?_) (fun z11 => ?_)
            · refine qm_Ru.go 1 (c' := (22, [.ref 118, .int v1], [.int 0], h)) rfl ?_
              refine qm_Ru.rt (v := (some (.int 0))) (h' := h) rfl ?_
              refine qm_Ru.go 1 (c' := (239, [.ref 118, .int pos, .int b, .int len, .int w4, l5, l6, l7], [.int (v9 + 0)], h)) rfl ?_
              have := hk_rng v9
              obtain ⟨v12, q_v12, e_v12⟩ := hk_add (x := v9) (y := 0) (a := v9.toInt) (b := 0) rfl rfl (by omega) (by omega)
              rw [q_v12]
              refine qm_Ru.go 2 (c' := (242, [.ref 118, .int pos, .int b, .int len, .int w4, l5, l6, l7], [.int (v12 - 48)], h)) rfl ?_
              obtain ⟨v13, q_v13⟩ : ∃ v, (v12 - 48) = v := ⟨_, rfl⟩
              rw [q_v13]
              refine qm_Ru.go 2 (c' := (247, [.ref 118, .int pos, .int b, .int (len + 1), .int v13, l5, l6, l7], [], h)) rfl ?_
              obtain ⟨v14, q_v14, e_v14⟩ := hk_add (x := len) (y := 1) (a := len.toInt) (b := 1) rfl rfl (by omega) (by omega)
              rw [q_v14]
              refine qm_Ru.go 1 (c' := (208, [.ref 118, .int pos, .int b, .int v14, .int v13, l5, l6, l7], [], h)) rfl ?_
              exact ih (m - 1) (by omega) v14 v13 (by omega) (by omega)
            · refine qm_Ru.go 1 (c' := (9, [.ref 118, .int v1], [.ref 118], h)) rfl ?_
              refine hk_getr rfl (hH.1 118 (17, 105) rfl) rfl (hH.2 118 3 (some 120) rfl) ?_
              refine qm_Ru.go 1 (c' := (13, [.ref 118, .int v1], [.int v1, .ref 120], h)) rfl ?_
              refine hk_bal (v := v3) rfl (hH.1 120 (1, 2000) rfl) (by decide) (by omega) (by omega) q_v3 ?_
              refine qm_Ru.go 2 (c' := (18, [.ref 118, .int v1], [.int (v3 &&& 255)], h)) rfl ?_
              rw [q_v4]
              refine qm_Ru.go 1 (c' := (22, [.ref 118, .int v1], [.int v4], h)) rfl ?_
              refine qm_Ru.rt (v := (some (.int v4))) (h' := h) rfl ?_
              refine qm_Ru.go 1 (c' := (239, [.ref 118, .int pos, .int b, .int len, .int w4, l5, l6, l7], [.int (v9 + v4)], h)) rfl ?_
              obtain ⟨v16, q_v16⟩ : ∃ v, (v9 + v4) = v := ⟨_, rfl⟩
              rw [q_v16]
              refine qm_Ru.go 2 (c' := (242, [.ref 118, .int pos, .int b, .int len, .int w4, l5, l6, l7], [.int (v16 - 48)], h)) rfl ?_
              obtain ⟨v17, q_v17⟩ : ∃ v, (v16 - 48) = v := ⟨_, rfl⟩
              rw [q_v17]
              refine qm_Ru.go 2 (c' := (247, [.ref 118, .int pos, .int b, .int (len + 1), .int v17, l5, l6, l7], [], h)) rfl ?_
              obtain ⟨v18, q_v18, e_v18⟩ := hk_add (x := len) (y := 1) (a := len.toInt) (b := 1) rfl rfl (by omega) (by omega)
              rw [q_v18]
              refine qm_Ru.go 1 (c' := (208, [.ref 118, .int pos, .int b, .int v18, .int v17, l5, l6, l7], [], h)) rfl ?_
              exact ih (m - 1) (by omega) v18 v17 (by omega) (by omega)
theorem hl_c146 {L : Nat} {xs : Nat → Int32} {d : Nat} {Z : Option Value → qm_H → Prop} {h : qm_H} (hH : hk_H h) {p b l : Value} {g : Int64} (k : ∀ (w6 w7 : Int32), (0 ≤ w6.toInt ∧ w6.toInt ≤ 44) → qm_Ru (some (L, xs)) (d + 3) cd_249 (179, [.ref 118, p, b, l, .long g, .float 0, .int w6, .int w7], [], h) Z) : ∀ (m : Nat) (w6 w7 : Int32), (0 ≤ w6.toInt ∧ w6.toInt ≤ 44 ∧ 0 ≤ w7.toInt ∧ w7.toInt ≤ 25) → (25 - w7.toInt ≤ (m : Int)) → qm_Ru (some (L, xs)) (d + 3) cd_249 (146, [.ref 118, p, b, l, .long g, .float 0, .int w6, .int w7], [], h) Z := by
  intro m
  induction m using Nat.strongRecOn with
  | ind m ih =>
    intro w6 w7 hl hm
    refine qm_Ru.go 2 (c' := (150, [.ref 118, p, b, l, .long g, .float 0, .int w6, .int w7], [.int 25, .int w7], h)) rfl ?_
    refine hk_cge (ix := w7.toInt) (iy := 25) rfl rfl rfl (fun z1 => ?_) (fun z1 => ?_)
    · refine qm_Ru.go 0 (c' := (179, [.ref 118, p, b, l, .long g, .float 0, .int w6, .int w7], [], h)) rfl ?_
      exact k w6 w7 (by omega)
    · refine qm_Ru.go 1 (c' := (154, [.ref 118, p, b, l, .long g, .float 0, .int w6, .int w7], [.ref 118], h)) rfl ?_
      refine hk_getr rfl (hH.1 118 (17, 105) rfl) rfl (hH.2 118 9 (some 125) rfl) ?_
      refine qm_Ru.go 1 (c' := (159, [.ref 118, p, b, l, .long g, .float 0, .int w6, .int w7], [.int w7, .ref 125], h)) rfl ?_
      obtain ⟨v2, q_v2⟩ : ∃ v, h.2.2.1 125 (w7.toInt.toNat) = v := ⟨_, rfl⟩
      refine hk_lal rfl (hH.1 125 (3, 25) rfl) (by omega) (by omega) q_v2 ?_
      refine qm_Ru.go 2 (c' := (163, [.ref 118, p, b, l, .long g, .float 0, .int w6, .int w7], [.int (lg_cmp v2 g)], h)) rfl ?_
      obtain ⟨v3, q_v3⟩ : ∃ v, (lg_cmp v2 g) = v := ⟨_, rfl⟩
      rw [q_v3]
      refine hk_zne (ix := v3.toInt) rfl rfl (fun z4 => ?_) (fun z4 => ?_)
      · refine qm_Ru.go 1 (c' := (176, [.ref 118, p, b, l, .long g, .float 0, .int w6, .int (w7 + 1)], [], h)) rfl ?_
        obtain ⟨v5, q_v5, e_v5⟩ := hk_add (x := w7) (y := 1) (a := w7.toInt) (b := 1) rfl rfl (by omega) (by omega)
        rw [q_v5]
        refine qm_Ru.go 1 (c' := (146, [.ref 118, p, b, l, .long g, .float 0, .int w6, .int v5], [], h)) rfl ?_
        exact ih (m - 1) (by omega) w6 v5 (by omega) (by omega)
      · refine qm_Ru.go 3 (c' := (171, [.ref 118, p, b, l, .long g, .float 0, .int w6, .int w7], [.int (20 + w7)], h)) rfl ?_
        obtain ⟨v6, q_v6, e_v6⟩ := hk_add (x := 20) (y := w7) (a := 20) (b := w7.toInt) rfl rfl (by omega) (by omega)
        rw [q_v6]
        refine qm_Ru.go 2 (c' := (176, [.ref 118, p, b, l, .long g, .float 0, .int v6, .int (w7 + 1)], [], h)) rfl ?_
        obtain ⟨v7, q_v7, e_v7⟩ := hk_add (x := w7) (y := 1) (a := w7.toInt) (b := 1) rfl rfl (by omega) (by omega)
        rw [q_v7]
        refine qm_Ru.go 1 (c' := (146, [.ref 118, p, b, l, .long g, .float 0, .int v6, .int v7], [], h)) rfl ?_
        exact ih (m - 1) (by omega) v6 v7 (by omega) (by omega)
theorem hl_cut {L : Nat} {xs : Nat → Int32} {d : Nat} {Z : Option Value → qm_H → Prop} {h : qm_H} (hH : hk_H h) (hB : hk_B h.2.1) {n : Int32} (q_n : h.2.1 118 4 = n) (hn : 0 ≤ n.toInt ∧ n.toInt ≤ 2000) (k : ∀ (I : Nat → Nat → Int32) (J : Nat → Nat → Int64), hk_B I → (∀ o, [118, 121, 122, 123].contains o = false → ∀ i, I o i = h.2.1 o i) → (∀ i, [10].contains i = false → I 118 i = h.2.1 118 i) → Z none (h.1, I, J, h.2.2.2)) : ∀ (m : Nat) (I : Nat → Nat → Int32) (J : Nat → Nat → Int64) (ct pos : Int32), (hk_B I) → ((∀ o, [118, 121, 122, 123].contains o = false → ∀ i, I o i = h.2.1 o i)) → ((∀ i, [10].contains i = false → I 118 i = h.2.1 118 i)) → (I 118 10 = ct) → ((0 ≤ ct.toInt ∧ ct.toInt ≤ 401)) → ((0 ≤ pos.toInt ∧ pos.toInt ≤ n.toInt)) → ((401 - ct.toInt + (n.toInt - pos.toInt) ≤ (m : Int))) → ∀ l2 l3 l4 l5 l6 l7 : Value, qm_Ru (some (L, xs)) (d + 3) cd_249 (7, [.ref 118, .int pos, l2, l3, l4, l5, l6, l7], [], (h.1, I, J, h.2.2.2)) Z := by
  intro m
  induction m using Nat.strongRecOn with
  | ind m ih =>
    intro I J ct pos hBI e e8 q_ct hct hpos hm l2 l3 l4 l5 l6 l7
    have k0 : (0 : Int32).toInt = 0 := rfl
    have k1 : (1 : Int32).toInt = 1 := rfl
    have k2 : (2 : Int32).toInt = 2 := rfl
    have k3 : (3 : Int32).toInt = 3 := rfl
    have k6 : (6 : Int32).toInt = 6 := rfl
    refine qm_Ru.go 1 (c' := (8, [.ref 118, .int pos, l2, l3, l4, l5, l6, l7], [.ref 118], (h.1, I, J, h.2.2.2))) rfl ?_
    refine hk_geti (v := ct) rfl (hH.1 118 (17, 105) rfl) rfl q_ct ?_
    refine qm_Ru.go 1 (c' := (14, [.ref 118, .int pos, l2, l3, l4, l5, l6, l7], [.int 400, .int ct], (h.1, I, J, h.2.2.2))) rfl ?_
    refine hk_cgt (ix := ct.toInt) (iy := 400) rfl rfl rfl (fun z1 => ?_) (fun z1 => ?_)
    · refine qm_Ru.go 0 (c' := (294, [.ref 118, .int pos, l2, l3, l4, l5, l6, l7], [], (h.1, I, J, h.2.2.2))) rfl ?_
      refine qm_Ru.rt (v := none) (h' := (h.1, I, J, h.2.2.2)) rfl ?_
      exact k (I) (J) hBI (fun o ho i => ((e o (hk_ms rfl ho) i).trans rfl)) (fun i hi => ((e8 i (hk_ms rfl hi)).trans rfl))
    · refine qm_Ru.go 2 (c' := (19, [.ref 118, .int pos, l2, l3, l4, l5, l6, l7], [.int pos, .ref 118], (h.1, I, J, h.2.2.2))) rfl ?_
      refine hk_inv (o := 118) (r := []) (as := [.ref 118, .int pos]) rfl rfl (hH.1 118 (17, 105) rfl) rfl rfl rfl rfl ?_
      refine qm_Ru.go 2 (c' := (2, [.ref 118, .int pos], [.ref 118, .int pos], (h.1, I, J, h.2.2.2))) rfl ?_
      refine hk_geti (v := n) rfl (hH.1 118 (17, 105) rfl) rfl (show (I) 118 4 = _ from ((e8 4 rfl).trans q_n)) ?_
      refine qm_Ru.go 0 (c' := (5, [.ref 118, .int pos], [.int n, .int pos], (h.1, I, J, h.2.2.2))) rfl ?_
      refine hk_cge (ix := pos.toInt) (iy := n.toInt) rfl rfl rfl (fun z2 => ?_) (fun z2 => ?_)
      · refine qm_Ru.go 1 (c' := (22, [.ref 118, .int pos], [.int 0], (h.1, I, J, h.2.2.2))) rfl ?_
        refine qm_Ru.rt (v := (some (.int 0))) (h' := (h.1, I, J, h.2.2.2)) rfl ?_
        refine qm_Ru.go 3 (c' := (25, [.ref 118, .int pos, .int 0, l3, l4, l5, l6, l7], [.ref 118, .int pos], (h.1, I, J, h.2.2.2))) rfl ?_
        refine hk_geti (v := n) rfl (hH.1 118 (17, 105) rfl) rfl (show (I) 118 4 = _ from ((e8 4 rfl).trans q_n)) ?_
        refine qm_Ru.go 0 (c' := (28, [.ref 118, .int pos, .int 0, l3, l4, l5, l6, l7], [.int n, .int pos], (h.1, I, J, h.2.2.2))) rfl ?_
        refine hk_clt (ix := pos.toInt) (iy := n.toInt) rfl rfl rfl (fun z3 => ?_) (fun z3 => ?_)
        · refine qm_Ru.go 13 (c' := (74, [.ref 118, .int pos, .int 0, l3, l4, l5, l6, l7], [.int 0], (h.1, I, J, h.2.2.2))) rfl ?_
          refine qm_Ru.call (j := 252) (as := [.int 0]) (c' := (77, [.ref 118, .int pos, .int 0, l3, l4, l5, l6, l7], [], (h.1, I, J, h.2.2.2))) rfl rfl rfl ?_
          refine qm_Ru.go 4 (c' := (17, [.int 0], [.int 0], (h.1, I, J, h.2.2.2))) rfl ?_
          refine qm_Ru.rt (v := (some (.int 0))) (h' := (h.1, I, J, h.2.2.2)) rfl ?_
          refine qm_Ru.go 2 (c' := (197, [.ref 118, .int pos, .int 0, l3, l4, l5, l6, l7], [.int 0], (h.1, I, J, h.2.2.2))) rfl ?_
          refine qm_Ru.call (j := 253) (as := [.int 0]) (c' := (200, [.ref 118, .int pos, .int 0, l3, l4, l5, l6, l7], [], (h.1, I, J, h.2.2.2))) rfl rfl rfl ?_
          refine qm_Ru.go 4 (c' := (17, [.int 0], [.int 0], (h.1, I, J, h.2.2.2))) rfl ?_
          refine qm_Ru.rt (v := (some (.int 0))) (h' := (h.1, I, J, h.2.2.2)) rfl ?_
          refine qm_Ru.go 9 (c' := (283, [.ref 118, .int pos, .int 0, l3, l4, l5, l6, l7], [.int (pos + 1), .ref 118, .int 0, .int pos, .ref 118, .int pos], (h.1, I, J, h.2.2.2))) rfl ?_
          obtain ⟨v4, q_v4, e_v4⟩ := hk_add (x := pos) (y := 1) (a := pos.toInt) (b := 1) rfl rfl (by omega) (by omega)
          rw [q_v4]
          refine hk_inv (o := 118) (r := [.int 0, .int pos, .ref 118, .int pos]) (as := [.ref 118, .int v4]) rfl rfl (hH.1 118 (17, 105) rfl) rfl rfl rfl rfl ?_
          refine qm_Ru.go 2 (c' := (2, [.ref 118, .int v4], [.ref 118, .int v4], (h.1, I, J, h.2.2.2))) rfl ?_
          refine hk_geti (v := n) rfl (hH.1 118 (17, 105) rfl) rfl (show (I) 118 4 = _ from ((e8 4 rfl).trans q_n)) ?_
          refine qm_Ru.go 0 (c' := (5, [.ref 118, .int v4], [.int n, .int v4], (h.1, I, J, h.2.2.2))) rfl ?_
          refine hk_cge (ix := v4.toInt) (iy := n.toInt) rfl rfl rfl (fun z5 => ?_) (fun z5 => ?_)
          · refine qm_Ru.go 1 (c' := (22, [.ref 118, .int v4], [.int 0], (h.1, I, J, h.2.2.2))) rfl ?_
            refine qm_Ru.rt (v := (some (.int 0))) (h' := (h.1, I, J, h.2.2.2)) rfl ?_
            refine qm_Ru.go 0 (c' := (286, [.ref 118, .int pos, .int 0, l3, l4, l5, l6, l7], [.int 0, .int 0, .int pos, .ref 118, .int pos], (h.1, I, J, h.2.2.2))) rfl ?_
            refine hk_inv (o := 118) (r := [.int pos]) (as := [.ref 118, .int pos, .int 0, .int 0]) rfl rfl (hH.1 118 (17, 105) rfl) rfl rfl rfl rfl ?_
            refine qm_Ru.go 36 (c' := (154, [.ref 118, .int pos, .int 0, .int 0, .int 0, .int 3], [.long 0, .int 0, .int pos, .int 3, .ref 118], (h.1, I, J, h.2.2.2))) rfl ?_
            refine hk_inv (o := 118) (r := []) (as := [.ref 118, .int 3, .int pos, .int 0, .long 0]) rfl rfl (hH.1 118 (17, 105) rfl) rfl rfl rfl rfl ?_
            refine qm_Ru.go 1 (c' := (1, [.ref 118, .int 3, .int pos, .int 0, .long 0, .float 0], [.ref 118], (h.1, I, J, h.2.2.2))) rfl ?_
            refine hk_getr rfl (hH.1 118 (17, 105) rfl) rfl (hH.2 118 5 (some 121) rfl) ?_
            refine qm_Ru.go 1 (c' := (5, [.ref 118, .int 3, .int pos, .int 0, .long 0, .float 0], [.ref 118, .ref 121], (h.1, I, J, h.2.2.2))) rfl ?_
            refine hk_geti (v := ct) rfl (hH.1 118 (17, 105) rfl) rfl q_ct ?_
            refine qm_Ru.go 1 (c' := (9, [.ref 118, .int 3, .int pos, .int 0, .long 0, .float 0], [.int 3, .int ct, .ref 121], (h.1, I, J, h.2.2.2))) rfl ?_
            refine hk_ias rfl (hH.1 121 (0, 403) rfl) (by omega) (by omega) ?_
            refine qm_Ru.go 1 (c' := (11, [.ref 118, .int 3, .int pos, .int 0, .long 0, .float 0], [.ref 118], (h.1, qm_up I 121 (ct.toInt.toNat) 3, J, h.2.2.2))) rfl ?_
            refine hk_getr rfl (hH.1 118 (17, 105) rfl) rfl (hH.2 118 6 (some 122) rfl) ?_
            refine qm_Ru.go 1 (c' := (15, [.ref 118, .int 3, .int pos, .int 0, .long 0, .float 0], [.ref 118, .ref 122], (h.1, qm_up I 121 (ct.toInt.toNat) 3, J, h.2.2.2))) rfl ?_
            refine hk_geti (v := ct) rfl (hH.1 118 (17, 105) rfl) rfl (show (qm_up I 121 (ct.toInt.toNat) 3) 118 10 = _ from ((hk_ot rfl).trans q_ct)) ?_
            refine qm_Ru.go 1 (c' := (19, [.ref 118, .int 3, .int pos, .int 0, .long 0, .float 0], [.int pos, .int ct, .ref 122], (h.1, qm_up I 121 (ct.toInt.toNat) 3, J, h.2.2.2))) rfl ?_
            refine hk_ias rfl (hH.1 122 (0, 403) rfl) (by omega) (by omega) ?_
            refine qm_Ru.go 1 (c' := (21, [.ref 118, .int 3, .int pos, .int 0, .long 0, .float 0], [.ref 118], (h.1, qm_up (qm_up I 121 (ct.toInt.toNat) 3) 122 (ct.toInt.toNat) pos, J, h.2.2.2))) rfl ?_
            refine hk_getr rfl (hH.1 118 (17, 105) rfl) rfl (hH.2 118 7 (some 123) rfl) ?_
            refine qm_Ru.go 1 (c' := (25, [.ref 118, .int 3, .int pos, .int 0, .long 0, .float 0], [.ref 118, .ref 123], (h.1, qm_up (qm_up I 121 (ct.toInt.toNat) 3) 122 (ct.toInt.toNat) pos, J, h.2.2.2))) rfl ?_
            refine hk_geti (v := ct) rfl (hH.1 118 (17, 105) rfl) rfl (show (qm_up (qm_up I 121 (ct.toInt.toNat) 3) 122 (ct.toInt.toNat) pos) 118 10 = _ from ((hk_ot rfl).trans ((hk_ot rfl).trans q_ct))) ?_
            refine qm_Ru.go 1 (c' := (29, [.ref 118, .int 3, .int pos, .int 0, .long 0, .float 0], [.int 0, .int ct, .ref 123], (h.1, qm_up (qm_up I 121 (ct.toInt.toNat) 3) 122 (ct.toInt.toNat) pos, J, h.2.2.2))) rfl ?_
            refine hk_ias rfl (hH.1 123 (0, 403) rfl) (by omega) (by omega) ?_
            refine qm_Ru.go 1 (c' := (31, [.ref 118, .int 3, .int pos, .int 0, .long 0, .float 0], [.ref 118], (h.1, qm_up (qm_up (qm_up I 121 (ct.toInt.toNat) 3) 122 (ct.toInt.toNat) pos) 123 (ct.toInt.toNat) 0, J, h.2.2.2))) rfl ?_
            refine hk_getr rfl (hH.1 118 (17, 105) rfl) rfl (hH.2 118 8 (some 124) rfl) ?_
            refine qm_Ru.go 1 (c' := (35, [.ref 118, .int 3, .int pos, .int 0, .long 0, .float 0], [.ref 118, .ref 124], (h.1, qm_up (qm_up (qm_up I 121 (ct.toInt.toNat) 3) 122 (ct.toInt.toNat) pos) 123 (ct.toInt.toNat) 0, J, h.2.2.2))) rfl ?_
            refine hk_geti (v := ct) rfl (hH.1 118 (17, 105) rfl) rfl (show (qm_up (qm_up (qm_up I 121 (ct.toInt.toNat) 3) 122 (ct.toInt.toNat) pos) 123 (ct.toInt.toNat) 0) 118 10 = _ from ((hk_ot rfl).trans ((hk_ot rfl).trans ((hk_ot rfl).trans q_ct)))) ?_
            refine qm_Ru.go 1 (c' := (40, [.ref 118, .int 3, .int pos, .int 0, .long 0, .float 0], [.long 0, .int ct, .ref 124], (h.1, qm_up (qm_up (qm_up I 121 (ct.toInt.toNat) 3) 122 (ct.toInt.toNat) pos) 123 (ct.toInt.toNat) 0, J, h.2.2.2))) rfl ?_
            refine hk_las rfl (hH.1 124 (3, 403) rfl) (by omega) (by omega) ?_
            refine qm_Ru.go 2 (c' := (43, [.ref 118, .int 3, .int pos, .int 0, .long 0, .float 0], [.ref 118, .ref 118], (h.1, qm_up (qm_up (qm_up I 121 (ct.toInt.toNat) 3) 122 (ct.toInt.toNat) pos) 123 (ct.toInt.toNat) 0, qm_up J 124 (ct.toInt.toNat) 0, h.2.2.2))) rfl ?_
            refine hk_geti (v := ct) rfl (hH.1 118 (17, 105) rfl) rfl (show (qm_up (qm_up (qm_up I 121 (ct.toInt.toNat) 3) 122 (ct.toInt.toNat) pos) 123 (ct.toInt.toNat) 0) 118 10 = _ from ((hk_ot rfl).trans ((hk_ot rfl).trans ((hk_ot rfl).trans q_ct)))) ?_
            refine qm_Ru.go 2 (c' := (48, [.ref 118, .int 3, .int pos, .int 0, .long 0, .float 0], [.int (ct + 1), .ref 118], (h.1, qm_up (qm_up (qm_up I 121 (ct.toInt.toNat) 3) 122 (ct.toInt.toNat) pos) 123 (ct.toInt.toNat) 0, qm_up J 124 (ct.toInt.toNat) 0, h.2.2.2))) rfl ?_
            obtain ⟨v6, q_v6, e_v6⟩ := hk_add (x := ct) (y := 1) (a := ct.toInt) (b := 1) rfl rfl (by omega) (by omega)
            rw [q_v6]
            refine hk_puti rfl (hH.1 118 (17, 105) rfl) rfl ?_
            refine qm_Ru.go 0 (c' := (51, [.ref 118, .int 3, .int pos, .int 0, .long 0, .float 0], [], (h.1, qm_up (qm_up (qm_up (qm_up I 121 (ct.toInt.toNat) 3) 122 (ct.toInt.toNat) pos) 123 (ct.toInt.toNat) 0) 118 10 v6, qm_up J 124 (ct.toInt.toNat) 0, h.2.2.2))) rfl ?_
            refine qm_Ru.rt (v := none) (h' := (h.1, qm_up (qm_up (qm_up (qm_up I 121 (ct.toInt.toNat) 3) 122 (ct.toInt.toNat) pos) 123 (ct.toInt.toNat) 0) 118 10 v6, qm_up J 124 (ct.toInt.toNat) 0, h.2.2.2)) rfl ?_
            refine qm_Ru.go 3 (c' := (167, [.ref 118, .int pos, .int 0, .int 0, .int 0, .int 3], [.int 1], (h.1, qm_up (qm_up (qm_up (qm_up I 121 (ct.toInt.toNat) 3) 122 (ct.toInt.toNat) pos) 123 (ct.toInt.toNat) 0) 118 10 v6, qm_up J 124 (ct.toInt.toNat) 0, h.2.2.2))) rfl ?_
            refine qm_Ru.rt (v := (some (.int 1))) (h' := (h.1, qm_up (qm_up (qm_up (qm_up I 121 (ct.toInt.toNat) 3) 122 (ct.toInt.toNat) pos) 123 (ct.toInt.toNat) 0) 118 10 v6, qm_up J 124 (ct.toInt.toNat) 0, h.2.2.2)) rfl ?_
            refine qm_Ru.go 1 (c' := (290, [.ref 118, .int pos, .int 0, l3, l4, l5, l6, l7], [.int (pos + 1)], (h.1, qm_up (qm_up (qm_up (qm_up I 121 (ct.toInt.toNat) 3) 122 (ct.toInt.toNat) pos) 123 (ct.toInt.toNat) 0) 118 10 v6, qm_up J 124 (ct.toInt.toNat) 0, h.2.2.2))) rfl ?_
            rw [q_v4]
            refine qm_Ru.go 2 (c' := (7, [.ref 118, .int v4, .int 0, l3, l4, l5, l6, l7], [], (h.1, qm_up (qm_up (qm_up (qm_up I 121 (ct.toInt.toNat) 3) 122 (ct.toInt.toNat) pos) 123 (ct.toInt.toNat) 0) 118 10 v6, qm_up J 124 (ct.toInt.toNat) 0, h.2.2.2))) rfl ?_
            exact ih (m - 1) (by omega) (qm_up (qm_up (qm_up (qm_up I 121 (ct.toInt.toNat) 3) 122 (ct.toInt.toNat) pos) 123 (ct.toInt.toNat) 0) 118 10 v6) (qm_up J 124 (ct.toInt.toNat) 0) v6 v4 (hb_up (o := 118) (k := 10) (x := v6) (hb_up (o := 123) (k := ct.toInt.toNat) (x := 0) (hb_up (o := 122) (k := ct.toInt.toNat) (x := pos) (hb_up (o := 121) (k := ct.toInt.toNat) (x := 3) hBI ⟨(show (0 : Int) ≤ 3 from by decide), (show (3 : Int) ≤ 44 from by decide)⟩) (qa_in_full _)) (qa_in_full _)) ⟨by show (0 : Int) ≤ v6.toInt; omega, by show v6.toInt ≤ (401 : Int); omega⟩) (fun o ho i => ((hk_mod ho rfl).trans ((hk_mod ho rfl).trans ((hk_mod ho rfl).trans ((hk_mod ho rfl).trans ((e o (hk_ms rfl ho) i).trans rfl)))))) (fun i hi => ((hk_neq (fun z => by subst z; cases hi)).trans ((hk_ot rfl).trans ((hk_ot rfl).trans ((hk_ot rfl).trans ((e8 i (hk_ms rfl hi)).trans rfl)))))) (show (qm_up (qm_up (qm_up (qm_up I 121 (ct.toInt.toNat) 3) 122 (ct.toInt.toNat) pos) 123 (ct.toInt.toNat) 0) 118 10 v6) 118 10 = _ from (hk_same)) (by omega) (by omega) (by omega) (.int 0) l3 l4 l5 l6 l7
          · refine qm_Ru.go 1 (c' := (9, [.ref 118, .int v4], [.ref 118], (h.1, I, J, h.2.2.2))) rfl ?_
            refine hk_getr rfl (hH.1 118 (17, 105) rfl) rfl (hH.2 118 3 (some 120) rfl) ?_
            refine qm_Ru.go 1 (c' := (13, [.ref 118, .int v4], [.int v4, .ref 120], (h.1, I, J, h.2.2.2))) rfl ?_
            obtain ⟨v8, q_v8⟩ : ∃ v, h.2.1 120 (v4.toInt.toNat) = v := ⟨_, rfl⟩
            have b_v8 : (-128 : Int) ≤ v8.toInt ∧ v8.toInt ≤ 127 := by rw [← q_v8]; exact hB 120 (v4.toInt.toNat)
            refine hk_bal (v := v8) rfl (hH.1 120 (1, 2000) rfl) (by decide) (by omega) (by omega) (show (I) 120 (v4.toInt.toNat) = _ from ((e 120 rfl (v4.toInt.toNat)).trans q_v8)) ?_
            refine qm_Ru.go 2 (c' := (18, [.ref 118, .int v4], [.int (v8 &&& 255)], (h.1, I, J, h.2.2.2))) rfl ?_
            obtain ⟨v9, q_v9⟩ : ∃ v, (v8 &&& 255) = v := ⟨_, rfl⟩
            rw [q_v9]
            refine qm_Ru.go 1 (c' := (22, [.ref 118, .int v4], [.int v9], (h.1, I, J, h.2.2.2))) rfl ?_
            refine qm_Ru.rt (v := (some (.int v9))) (h' := (h.1, I, J, h.2.2.2)) rfl ?_
            refine qm_Ru.go 0 (c' := (286, [.ref 118, .int pos, .int 0, l3, l4, l5, l6, l7], [.int v9, .int 0, .int pos, .ref 118, .int pos], (h.1, I, J, h.2.2.2))) rfl ?_
            refine hk_inv (o := 118) (r := [.int pos]) (as := [.ref 118, .int pos, .int 0, .int v9]) rfl rfl (hH.1 118 (17, 105) rfl) rfl rfl rfl rfl ?_
            refine qm_Ru.go 2 (c' := (3, [.ref 118, .int pos, .int 0, .int v9, .float 0, .float 0], [.int 61, .int v9], (h.1, I, J, h.2.2.2))) rfl ?_
            refine hk_ceq (ix := v9.toInt) (iy := 61) rfl rfl rfl (fun z10 => ?_) (fun z10 => ?_)
            · refine qm_Ru.go 41 (c' := (154, [.ref 118, .int pos, .int 0, .int v9, .int 0, .int 3], [.long 0, .int 0, .int pos, .int 3, .ref 118], (h.1, I, J, h.2.2.2))) rfl ?_
              refine hk_inv (o := 118) (r := []) (as := [.ref 118, .int 3, .int pos, .int 0, .long 0]) rfl rfl (hH.1 118 (17, 105) rfl) rfl rfl rfl rfl ?_
              refine qm_Ru.go 1 (c' := (1, [.ref 118, .int 3, .int pos, .int 0, .long 0, .float 0], [.ref 118], (h.1, I, J, h.2.2.2))) rfl ?_
              refine hk_getr rfl (hH.1 118 (17, 105) rfl) rfl (hH.2 118 5 (some 121) rfl) ?_
              refine qm_Ru.go 1 (c' := (5, [.ref 118, .int 3, .int pos, .int 0, .long 0, .float 0], [.ref 118, .ref 121], (h.1, I, J, h.2.2.2))) rfl ?_
              refine hk_geti (v := ct) rfl (hH.1 118 (17, 105) rfl) rfl q_ct ?_
              refine qm_Ru.go 1 (c' := (9, [.ref 118, .int 3, .int pos, .int 0, .long 0, .float 0], [.int 3, .int ct, .ref 121], (h.1, I, J, h.2.2.2))) rfl ?_
              refine hk_ias rfl (hH.1 121 (0, 403) rfl) (by omega) (by omega) ?_
              refine qm_Ru.go 1 (c' := (11, [.ref 118, .int 3, .int pos, .int 0, .long 0, .float 0], [.ref 118], (h.1, qm_up I 121 (ct.toInt.toNat) 3, J, h.2.2.2))) rfl ?_
              refine hk_getr rfl (hH.1 118 (17, 105) rfl) rfl (hH.2 118 6 (some 122) rfl) ?_
              refine qm_Ru.go 1 (c' := (15, [.ref 118, .int 3, .int pos, .int 0, .long 0, .float 0], [.ref 118, .ref 122], (h.1, qm_up I 121 (ct.toInt.toNat) 3, J, h.2.2.2))) rfl ?_
              refine hk_geti (v := ct) rfl (hH.1 118 (17, 105) rfl) rfl (show (qm_up I 121 (ct.toInt.toNat) 3) 118 10 = _ from ((hk_ot rfl).trans q_ct)) ?_
              refine qm_Ru.go 1 (c' := (19, [.ref 118, .int 3, .int pos, .int 0, .long 0, .float 0], [.int pos, .int ct, .ref 122], (h.1, qm_up I 121 (ct.toInt.toNat) 3, J, h.2.2.2))) rfl ?_
              refine hk_ias rfl (hH.1 122 (0, 403) rfl) (by omega) (by omega) ?_
              refine qm_Ru.go 1 (c' := (21, [.ref 118, .int 3, .int pos, .int 0, .long 0, .float 0], [.ref 118], (h.1, qm_up (qm_up I 121 (ct.toInt.toNat) 3) 122 (ct.toInt.toNat) pos, J, h.2.2.2))) rfl ?_
              refine hk_getr rfl (hH.1 118 (17, 105) rfl) rfl (hH.2 118 7 (some 123) rfl) ?_
              refine qm_Ru.go 1 (c' := (25, [.ref 118, .int 3, .int pos, .int 0, .long 0, .float 0], [.ref 118, .ref 123], (h.1, qm_up (qm_up I 121 (ct.toInt.toNat) 3) 122 (ct.toInt.toNat) pos, J, h.2.2.2))) rfl ?_
              refine hk_geti (v := ct) rfl (hH.1 118 (17, 105) rfl) rfl (show (qm_up (qm_up I 121 (ct.toInt.toNat) 3) 122 (ct.toInt.toNat) pos) 118 10 = _ from ((hk_ot rfl).trans ((hk_ot rfl).trans q_ct))) ?_
              refine qm_Ru.go 1 (c' := (29, [.ref 118, .int 3, .int pos, .int 0, .long 0, .float 0], [.int 0, .int ct, .ref 123], (h.1, qm_up (qm_up I 121 (ct.toInt.toNat) 3) 122 (ct.toInt.toNat) pos, J, h.2.2.2))) rfl ?_
              refine hk_ias rfl (hH.1 123 (0, 403) rfl) (by omega) (by omega) ?_
              refine qm_Ru.go 1 (c' := (31, [.ref 118, .int 3, .int pos, .int 0, .long 0, .float 0], [.ref 118], (h.1, qm_up (qm_up (qm_up I 121 (ct.toInt.toNat) 3) 122 (ct.toInt.toNat) pos) 123 (ct.toInt.toNat) 0, J, h.2.2.2))) rfl ?_
              refine hk_getr rfl (hH.1 118 (17, 105) rfl) rfl (hH.2 118 8 (some 124) rfl) ?_
              refine qm_Ru.go 1 (c' := (35, [.ref 118, .int 3, .int pos, .int 0, .long 0, .float 0], [.ref 118, .ref 124], (h.1, qm_up (qm_up (qm_up I 121 (ct.toInt.toNat) 3) 122 (ct.toInt.toNat) pos) 123 (ct.toInt.toNat) 0, J, h.2.2.2))) rfl ?_
              refine hk_geti (v := ct) rfl (hH.1 118 (17, 105) rfl) rfl (show (qm_up (qm_up (qm_up I 121 (ct.toInt.toNat) 3) 122 (ct.toInt.toNat) pos) 123 (ct.toInt.toNat) 0) 118 10 = _ from ((hk_ot rfl).trans ((hk_ot rfl).trans ((hk_ot rfl).trans q_ct)))) ?_
              refine qm_Ru.go 1 (c' := (40, [.ref 118, .int 3, .int pos, .int 0, .long 0, .float 0], [.long 0, .int ct, .ref 124], (h.1, qm_up (qm_up (qm_up I 121 (ct.toInt.toNat) 3) 122 (ct.toInt.toNat) pos) 123 (ct.toInt.toNat) 0, J, h.2.2.2))) rfl ?_
              refine hk_las rfl (hH.1 124 (3, 403) rfl) (by omega) (by omega) ?_
              refine qm_Ru.go 2 (c' := (43, [.ref 118, .int 3, .int pos, .int 0, .long 0, .float 0], [.ref 118, .ref 118], (h.1, qm_up (qm_up (qm_up I 121 (ct.toInt.toNat) 3) 122 (ct.toInt.toNat) pos) 123 (ct.toInt.toNat) 0, qm_up J 124 (ct.toInt.toNat) 0, h.2.2.2))) rfl ?_
              refine hk_geti (v := ct) rfl (hH.1 118 (17, 105) rfl) rfl (show (qm_up (qm_up (qm_up I 121 (ct.toInt.toNat) 3) 122 (ct.toInt.toNat) pos) 123 (ct.toInt.toNat) 0) 118 10 = _ from ((hk_ot rfl).trans ((hk_ot rfl).trans ((hk_ot rfl).trans q_ct)))) ?_
              refine qm_Ru.go 2 (c' := (48, [.ref 118, .int 3, .int pos, .int 0, .long 0, .float 0], [.int (ct + 1), .ref 118], (h.1, qm_up (qm_up (qm_up I 121 (ct.toInt.toNat) 3) 122 (ct.toInt.toNat) pos) 123 (ct.toInt.toNat) 0, qm_up J 124 (ct.toInt.toNat) 0, h.2.2.2))) rfl ?_
              obtain ⟨v11, q_v11, e_v11⟩ := hk_add (x := ct) (y := 1) (a := ct.toInt) (b := 1) rfl rfl (by omega) (by omega)
              rw [q_v11]
              refine hk_puti rfl (hH.1 118 (17, 105) rfl) rfl ?_
              refine qm_Ru.go 0 (c' := (51, [.ref 118, .int 3, .int pos, .int 0, .long 0, .float 0], [], (h.1, qm_up (qm_up (qm_up (qm_up I 121 (ct.toInt.toNat) 3) 122 (ct.toInt.toNat) pos) 123 (ct.toInt.toNat) 0) 118 10 v11, qm_up J 124 (ct.toInt.toNat) 0, h.2.2.2))) rfl ?_
              refine qm_Ru.rt (v := none) (h' := (h.1, qm_up (qm_up (qm_up (qm_up I 121 (ct.toInt.toNat) 3) 122 (ct.toInt.toNat) pos) 123 (ct.toInt.toNat) 0) 118 10 v11, qm_up J 124 (ct.toInt.toNat) 0, h.2.2.2)) rfl ?_
              refine qm_Ru.go 3 (c' := (167, [.ref 118, .int pos, .int 0, .int v9, .int 0, .int 3], [.int 1], (h.1, qm_up (qm_up (qm_up (qm_up I 121 (ct.toInt.toNat) 3) 122 (ct.toInt.toNat) pos) 123 (ct.toInt.toNat) 0) 118 10 v11, qm_up J 124 (ct.toInt.toNat) 0, h.2.2.2))) rfl ?_
              refine qm_Ru.rt (v := (some (.int 1))) (h' := (h.1, qm_up (qm_up (qm_up (qm_up I 121 (ct.toInt.toNat) 3) 122 (ct.toInt.toNat) pos) 123 (ct.toInt.toNat) 0) 118 10 v11, qm_up J 124 (ct.toInt.toNat) 0, h.2.2.2)) rfl ?_
              refine qm_Ru.go 1 (c' := (290, [.ref 118, .int pos, .int 0, l3, l4, l5, l6, l7], [.int (pos + 1)], (h.1, qm_up (qm_up (qm_up (qm_up I 121 (ct.toInt.toNat) 3) 122 (ct.toInt.toNat) pos) 123 (ct.toInt.toNat) 0) 118 10 v11, qm_up J 124 (ct.toInt.toNat) 0, h.2.2.2))) rfl ?_
              rw [q_v4]
              refine qm_Ru.go 2 (c' := (7, [.ref 118, .int v4, .int 0, l3, l4, l5, l6, l7], [], (h.1, qm_up (qm_up (qm_up (qm_up I 121 (ct.toInt.toNat) 3) 122 (ct.toInt.toNat) pos) 123 (ct.toInt.toNat) 0) 118 10 v11, qm_up J 124 (ct.toInt.toNat) 0, h.2.2.2))) rfl ?_
              exact ih (m - 1) (by omega) (qm_up (qm_up (qm_up (qm_up I 121 (ct.toInt.toNat) 3) 122 (ct.toInt.toNat) pos) 123 (ct.toInt.toNat) 0) 118 10 v11) (qm_up J 124 (ct.toInt.toNat) 0) v11 v4 (hb_up (o := 118) (k := 10) (x := v11) (hb_up (o := 123) (k := ct.toInt.toNat) (x := 0) (hb_up (o := 122) (k := ct.toInt.toNat) (x := pos) (hb_up (o := 121) (k := ct.toInt.toNat) (x := 3) hBI ⟨(show (0 : Int) ≤ 3 from by decide), (show (3 : Int) ≤ 44 from by decide)⟩) (qa_in_full _)) (qa_in_full _)) ⟨by show (0 : Int) ≤ v11.toInt; omega, by show v11.toInt ≤ (401 : Int); omega⟩) (fun o ho i => ((hk_mod ho rfl).trans ((hk_mod ho rfl).trans ((hk_mod ho rfl).trans ((hk_mod ho rfl).trans ((e o (hk_ms rfl ho) i).trans rfl)))))) (fun i hi => ((hk_neq (fun z => by subst z; cases hi)).trans ((hk_ot rfl).trans ((hk_ot rfl).trans ((hk_ot rfl).trans ((e8 i (hk_ms rfl hi)).trans rfl)))))) (show (qm_up (qm_up (qm_up (qm_up I 121 (ct.toInt.toNat) 3) 122 (ct.toInt.toNat) pos) 123 (ct.toInt.toNat) 0) 118 10 v11) 118 10 = _ from (hk_same)) (by omega) (by omega) (by omega) (.int 0) l3 l4 l5 l6 l7
            · refine qm_Ru.go 33 (c' := (154, [.ref 118, .int pos, .int 0, .int v9, .int 0, .int 3], [.long 0, .int 0, .int pos, .int 3, .ref 118], (h.1, I, J, h.2.2.2))) rfl ?_
              refine hk_inv (o := 118) (r := []) (as := [.ref 118, .int 3, .int pos, .int 0, .long 0]) rfl rfl (hH.1 118 (17, 105) rfl) rfl rfl rfl rfl ?_
              refine qm_Ru.go 1 (c' := (1, [.ref 118, .int 3, .int pos, .int 0, .long 0, .float 0], [.ref 118], (h.1, I, J, h.2.2.2))) rfl ?_
              refine hk_getr rfl (hH.1 118 (17, 105) rfl) rfl (hH.2 118 5 (some 121) rfl) ?_
              refine qm_Ru.go 1 (c' := (5, [.ref 118, .int 3, .int pos, .int 0, .long 0, .float 0], [.ref 118, .ref 121], (h.1, I, J, h.2.2.2))) rfl ?_
              refine hk_geti (v := ct) rfl (hH.1 118 (17, 105) rfl) rfl q_ct ?_
              refine qm_Ru.go 1 (c' := (9, [.ref 118, .int 3, .int pos, .int 0, .long 0, .float 0], [.int 3, .int ct, .ref 121], (h.1, I, J, h.2.2.2))) rfl ?_
              refine hk_ias rfl (hH.1 121 (0, 403) rfl) (by omega) (by omega) ?_
              refine qm_Ru.go 1 (c' := (11, [.ref 118, .int 3, .int pos, .int 0, .long 0, .float 0], [.ref 118], (h.1, qm_up I 121 (ct.toInt.toNat) 3, J, h.2.2.2))) rfl ?_
              refine hk_getr rfl (hH.1 118 (17, 105) rfl) rfl (hH.2 118 6 (some 122) rfl) ?_
              refine qm_Ru.go 1 (c' := (15, [.ref 118, .int 3, .int pos, .int 0, .long 0, .float 0], [.ref 118, .ref 122], (h.1, qm_up I 121 (ct.toInt.toNat) 3, J, h.2.2.2))) rfl ?_
              refine hk_geti (v := ct) rfl (hH.1 118 (17, 105) rfl) rfl (show (qm_up I 121 (ct.toInt.toNat) 3) 118 10 = _ from ((hk_ot rfl).trans q_ct)) ?_
              refine qm_Ru.go 1 (c' := (19, [.ref 118, .int 3, .int pos, .int 0, .long 0, .float 0], [.int pos, .int ct, .ref 122], (h.1, qm_up I 121 (ct.toInt.toNat) 3, J, h.2.2.2))) rfl ?_
              refine hk_ias rfl (hH.1 122 (0, 403) rfl) (by omega) (by omega) ?_
              refine qm_Ru.go 1 (c' := (21, [.ref 118, .int 3, .int pos, .int 0, .long 0, .float 0], [.ref 118], (h.1, qm_up (qm_up I 121 (ct.toInt.toNat) 3) 122 (ct.toInt.toNat) pos, J, h.2.2.2))) rfl ?_
              refine hk_getr rfl (hH.1 118 (17, 105) rfl) rfl (hH.2 118 7 (some 123) rfl) ?_
              refine qm_Ru.go 1 (c' := (25, [.ref 118, .int 3, .int pos, .int 0, .long 0, .float 0], [.ref 118, .ref 123], (h.1, qm_up (qm_up I 121 (ct.toInt.toNat) 3) 122 (ct.toInt.toNat) pos, J, h.2.2.2))) rfl ?_
              refine hk_geti (v := ct) rfl (hH.1 118 (17, 105) rfl) rfl (show (qm_up (qm_up I 121 (ct.toInt.toNat) 3) 122 (ct.toInt.toNat) pos) 118 10 = _ from ((hk_ot rfl).trans ((hk_ot rfl).trans q_ct))) ?_
              refine qm_Ru.go 1 (c' := (29, [.ref 118, .int 3, .int pos, .int 0, .long 0, .float 0], [.int 0, .int ct, .ref 123], (h.1, qm_up (qm_up I 121 (ct.toInt.toNat) 3) 122 (ct.toInt.toNat) pos, J, h.2.2.2))) rfl ?_
              refine hk_ias rfl (hH.1 123 (0, 403) rfl) (by omega) (by omega) ?_
              refine qm_Ru.go 1 (c' := (31, [.ref 118, .int 3, .int pos, .int 0, .long 0, .float 0], [.ref 118], (h.1, qm_up (qm_up (qm_up I 121 (ct.toInt.toNat) 3) 122 (ct.toInt.toNat) pos) 123 (ct.toInt.toNat) 0, J, h.2.2.2))) rfl ?_
              refine hk_getr rfl (hH.1 118 (17, 105) rfl) rfl (hH.2 118 8 (some 124) rfl) ?_
              refine qm_Ru.go 1 (c' := (35, [.ref 118, .int 3, .int pos, .int 0, .long 0, .float 0], [.ref 118, .ref 124], (h.1, qm_up (qm_up (qm_up I 121 (ct.toInt.toNat) 3) 122 (ct.toInt.toNat) pos) 123 (ct.toInt.toNat) 0, J, h.2.2.2))) rfl ?_
              refine hk_geti (v := ct) rfl (hH.1 118 (17, 105) rfl) rfl (show (qm_up (qm_up (qm_up I 121 (ct.toInt.toNat) 3) 122 (ct.toInt.toNat) pos) 123 (ct.toInt.toNat) 0) 118 10 = _ from ((hk_ot rfl).trans ((hk_ot rfl).trans ((hk_ot rfl).trans q_ct)))) ?_
              refine qm_Ru.go 1 (c' := (40, [.ref 118, .int 3, .int pos, .int 0, .long 0, .float 0], [.long 0, .int ct, .ref 124], (h.1, qm_up (qm_up (qm_up I 121 (ct.toInt.toNat) 3) 122 (ct.toInt.toNat) pos) 123 (ct.toInt.toNat) 0, J, h.2.2.2))) rfl ?_
              refine hk_las rfl (hH.1 124 (3, 403) rfl) (by omega) (by omega) ?_
              refine qm_Ru.go 2 (c' := (43, [.ref 118, .int 3, .int pos, .int 0, .long 0, .float 0], [.ref 118, .ref 118], (h.1, qm_up (qm_up (qm_up I 121 (ct.toInt.toNat) 3) 122 (ct.toInt.toNat) pos) 123 (ct.toInt.toNat) 0, qm_up J 124 (ct.toInt.toNat) 0, h.2.2.2))) rfl ?_
              refine hk_geti (v := ct) rfl (hH.1 118 (17, 105) rfl) rfl (show (qm_up (qm_up (qm_up I 121 (ct.toInt.toNat) 3) 122 (ct.toInt.toNat) pos) 123 (ct.toInt.toNat) 0) 118 10 = _ from ((hk_ot rfl).trans ((hk_ot rfl).trans ((hk_ot rfl).trans q_ct)))) ?_
              refine qm_Ru.go 2 (c' := (48, [.ref 118, .int 3, .int pos, .int 0, .long 0, .float 0], [.int (ct + 1), .ref 118], (h.1, qm_up (qm_up (qm_up I 121 (ct.toInt.toNat) 3) 122 (ct.toInt.toNat) pos) 123 (ct.toInt.toNat) 0, qm_up J 124 (ct.toInt.toNat) 0, h.2.2.2))) rfl ?_
              obtain ⟨v13, q_v13, e_v13⟩ := hk_add (x := ct) (y := 1) (a := ct.toInt) (b := 1) rfl rfl (by omega) (by omega)
              rw [q_v13]
              refine hk_puti rfl (hH.1 118 (17, 105) rfl) rfl ?_
              refine qm_Ru.go 0 (c' := (51, [.ref 118, .int 3, .int pos, .int 0, .long 0, .float 0], [], (h.1, qm_up (qm_up (qm_up (qm_up I 121 (ct.toInt.toNat) 3) 122 (ct.toInt.toNat) pos) 123 (ct.toInt.toNat) 0) 118 10 v13, qm_up J 124 (ct.toInt.toNat) 0, h.2.2.2))) rfl ?_
              refine qm_Ru.rt (v := none) (h' := (h.1, qm_up (qm_up (qm_up (qm_up I 121 (ct.toInt.toNat) 3) 122 (ct.toInt.toNat) pos) 123 (ct.toInt.toNat) 0) 118 10 v13, qm_up J 124 (ct.toInt.toNat) 0, h.2.2.2)) rfl ?_
              refine qm_Ru.go 3 (c' := (167, [.ref 118, .int pos, .int 0, .int v9, .int 0, .int 3], [.int 1], (h.1, qm_up (qm_up (qm_up (qm_up I 121 (ct.toInt.toNat) 3) 122 (ct.toInt.toNat) pos) 123 (ct.toInt.toNat) 0) 118 10 v13, qm_up J 124 (ct.toInt.toNat) 0, h.2.2.2))) rfl ?_
              refine qm_Ru.rt (v := (some (.int 1))) (h' := (h.1, qm_up (qm_up (qm_up (qm_up I 121 (ct.toInt.toNat) 3) 122 (ct.toInt.toNat) pos) 123 (ct.toInt.toNat) 0) 118 10 v13, qm_up J 124 (ct.toInt.toNat) 0, h.2.2.2)) rfl ?_
              refine qm_Ru.go 1 (c' := (290, [.ref 118, .int pos, .int 0, l3, l4, l5, l6, l7], [.int (pos + 1)], (h.1, qm_up (qm_up (qm_up (qm_up I 121 (ct.toInt.toNat) 3) 122 (ct.toInt.toNat) pos) 123 (ct.toInt.toNat) 0) 118 10 v13, qm_up J 124 (ct.toInt.toNat) 0, h.2.2.2))) rfl ?_
              rw [q_v4]
              refine qm_Ru.go 2 (c' := (7, [.ref 118, .int v4, .int 0, l3, l4, l5, l6, l7], [], (h.1, qm_up (qm_up (qm_up (qm_up I 121 (ct.toInt.toNat) 3) 122 (ct.toInt.toNat) pos) 123 (ct.toInt.toNat) 0) 118 10 v13, qm_up J 124 (ct.toInt.toNat) 0, h.2.2.2))) rfl ?_
              exact ih (m - 1) (by omega) (qm_up (qm_up (qm_up (qm_up I 121 (ct.toInt.toNat) 3) 122 (ct.toInt.toNat) pos) 123 (ct.toInt.toNat) 0) 118 10 v13) (qm_up J 124 (ct.toInt.toNat) 0) v13 v4 (hb_up (o := 118) (k := 10) (x := v13) (hb_up (o := 123) (k := ct.toInt.toNat) (x := 0) (hb_up (o := 122) (k := ct.toInt.toNat) (x := pos) (hb_up (o := 121) (k := ct.toInt.toNat) (x := 3) hBI ⟨(show (0 : Int) ≤ 3 from by decide), (show (3 : Int) ≤ 44 from by decide)⟩) (qa_in_full _)) (qa_in_full _)) ⟨by show (0 : Int) ≤ v13.toInt; omega, by show v13.toInt ≤ (401 : Int); omega⟩) (fun o ho i => ((hk_mod ho rfl).trans ((hk_mod ho rfl).trans ((hk_mod ho rfl).trans ((hk_mod ho rfl).trans ((e o (hk_ms rfl ho) i).trans rfl)))))) (fun i hi => ((hk_neq (fun z => by subst z; cases hi)).trans ((hk_ot rfl).trans ((hk_ot rfl).trans ((hk_ot rfl).trans ((e8 i (hk_ms rfl hi)).trans rfl)))))) (show (qm_up (qm_up (qm_up (qm_up I 121 (ct.toInt.toNat) 3) 122 (ct.toInt.toNat) pos) 123 (ct.toInt.toNat) 0) 118 10 v13) 118 10 = _ from (hk_same)) (by omega) (by omega) (by omega) (.int 0) l3 l4 l5 l6 l7
        · refine qm_Ru.go 3 (c' := (34, [.ref 118, .int pos, .int 0, l3, l4, l5, l6, l7], [.ref 118, .int 0, .ref 118], (h.1, I, J, h.2.2.2))) rfl ?_
          refine hk_geti (v := n) rfl (hH.1 118 (17, 105) rfl) rfl (show (I) 118 4 = _ from ((e8 4 rfl).trans q_n)) ?_
          refine qm_Ru.go 2 (c' := (39, [.ref 118, .int pos, .int 0, l3, l4, l5, l6, l7], [.long 0, .int 0, .int n, .int 0, .ref 118], (h.1, I, J, h.2.2.2))) rfl ?_
          refine hk_inv (o := 118) (r := []) (as := [.ref 118, .int 0, .int n, .int 0, .long 0]) rfl rfl (hH.1 118 (17, 105) rfl) rfl rfl rfl rfl ?_
          refine qm_Ru.go 1 (c' := (1, [.ref 118, .int 0, .int n, .int 0, .long 0, .float 0], [.ref 118], (h.1, I, J, h.2.2.2))) rfl ?_
          refine hk_getr rfl (hH.1 118 (17, 105) rfl) rfl (hH.2 118 5 (some 121) rfl) ?_
          refine qm_Ru.go 1 (c' := (5, [.ref 118, .int 0, .int n, .int 0, .long 0, .float 0], [.ref 118, .ref 121], (h.1, I, J, h.2.2.2))) rfl ?_
          refine hk_geti (v := ct) rfl (hH.1 118 (17, 105) rfl) rfl q_ct ?_
          refine qm_Ru.go 1 (c' := (9, [.ref 118, .int 0, .int n, .int 0, .long 0, .float 0], [.int 0, .int ct, .ref 121], (h.1, I, J, h.2.2.2))) rfl ?_
          refine hk_ias rfl (hH.1 121 (0, 403) rfl) (by omega) (by omega) ?_
          refine qm_Ru.go 1 (c' := (11, [.ref 118, .int 0, .int n, .int 0, .long 0, .float 0], [.ref 118], (h.1, qm_up I 121 (ct.toInt.toNat) 0, J, h.2.2.2))) rfl ?_
          refine hk_getr rfl (hH.1 118 (17, 105) rfl) rfl (hH.2 118 6 (some 122) rfl) ?_
          refine qm_Ru.go 1 (c' := (15, [.ref 118, .int 0, .int n, .int 0, .long 0, .float 0], [.ref 118, .ref 122], (h.1, qm_up I 121 (ct.toInt.toNat) 0, J, h.2.2.2))) rfl ?_
          refine hk_geti (v := ct) rfl (hH.1 118 (17, 105) rfl) rfl (show (qm_up I 121 (ct.toInt.toNat) 0) 118 10 = _ from ((hk_ot rfl).trans q_ct)) ?_
          refine qm_Ru.go 1 (c' := (19, [.ref 118, .int 0, .int n, .int 0, .long 0, .float 0], [.int n, .int ct, .ref 122], (h.1, qm_up I 121 (ct.toInt.toNat) 0, J, h.2.2.2))) rfl ?_
          refine hk_ias rfl (hH.1 122 (0, 403) rfl) (by omega) (by omega) ?_
          refine qm_Ru.go 1 (c' := (21, [.ref 118, .int 0, .int n, .int 0, .long 0, .float 0], [.ref 118], (h.1, qm_up (qm_up I 121 (ct.toInt.toNat) 0) 122 (ct.toInt.toNat) n, J, h.2.2.2))) rfl ?_
          refine hk_getr rfl (hH.1 118 (17, 105) rfl) rfl (hH.2 118 7 (some 123) rfl) ?_
          refine qm_Ru.go 1 (c' := (25, [.ref 118, .int 0, .int n, .int 0, .long 0, .float 0], [.ref 118, .ref 123], (h.1, qm_up (qm_up I 121 (ct.toInt.toNat) 0) 122 (ct.toInt.toNat) n, J, h.2.2.2))) rfl ?_
          refine hk_geti (v := ct) rfl (hH.1 118 (17, 105) rfl) rfl (show (qm_up (qm_up I 121 (ct.toInt.toNat) 0) 122 (ct.toInt.toNat) n) 118 10 = _ from ((hk_ot rfl).trans ((hk_ot rfl).trans q_ct))) ?_
          refine qm_Ru.go 1 (c' := (29, [.ref 118, .int 0, .int n, .int 0, .long 0, .float 0], [.int 0, .int ct, .ref 123], (h.1, qm_up (qm_up I 121 (ct.toInt.toNat) 0) 122 (ct.toInt.toNat) n, J, h.2.2.2))) rfl ?_
          refine hk_ias rfl (hH.1 123 (0, 403) rfl) (by omega) (by omega) ?_
          refine qm_Ru.go 1 (c' := (31, [.ref 118, .int 0, .int n, .int 0, .long 0, .float 0], [.ref 118], (h.1, qm_up (qm_up (qm_up I 121 (ct.toInt.toNat) 0) 122 (ct.toInt.toNat) n) 123 (ct.toInt.toNat) 0, J, h.2.2.2))) rfl ?_
          refine hk_getr rfl (hH.1 118 (17, 105) rfl) rfl (hH.2 118 8 (some 124) rfl) ?_
          refine qm_Ru.go 1 (c' := (35, [.ref 118, .int 0, .int n, .int 0, .long 0, .float 0], [.ref 118, .ref 124], (h.1, qm_up (qm_up (qm_up I 121 (ct.toInt.toNat) 0) 122 (ct.toInt.toNat) n) 123 (ct.toInt.toNat) 0, J, h.2.2.2))) rfl ?_
          refine hk_geti (v := ct) rfl (hH.1 118 (17, 105) rfl) rfl (show (qm_up (qm_up (qm_up I 121 (ct.toInt.toNat) 0) 122 (ct.toInt.toNat) n) 123 (ct.toInt.toNat) 0) 118 10 = _ from ((hk_ot rfl).trans ((hk_ot rfl).trans ((hk_ot rfl).trans q_ct)))) ?_
          refine qm_Ru.go 1 (c' := (40, [.ref 118, .int 0, .int n, .int 0, .long 0, .float 0], [.long 0, .int ct, .ref 124], (h.1, qm_up (qm_up (qm_up I 121 (ct.toInt.toNat) 0) 122 (ct.toInt.toNat) n) 123 (ct.toInt.toNat) 0, J, h.2.2.2))) rfl ?_
          refine hk_las rfl (hH.1 124 (3, 403) rfl) (by omega) (by omega) ?_
          refine qm_Ru.go 2 (c' := (43, [.ref 118, .int 0, .int n, .int 0, .long 0, .float 0], [.ref 118, .ref 118], (h.1, qm_up (qm_up (qm_up I 121 (ct.toInt.toNat) 0) 122 (ct.toInt.toNat) n) 123 (ct.toInt.toNat) 0, qm_up J 124 (ct.toInt.toNat) 0, h.2.2.2))) rfl ?_
          refine hk_geti (v := ct) rfl (hH.1 118 (17, 105) rfl) rfl (show (qm_up (qm_up (qm_up I 121 (ct.toInt.toNat) 0) 122 (ct.toInt.toNat) n) 123 (ct.toInt.toNat) 0) 118 10 = _ from ((hk_ot rfl).trans ((hk_ot rfl).trans ((hk_ot rfl).trans q_ct)))) ?_
          refine qm_Ru.go 2 (c' := (48, [.ref 118, .int 0, .int n, .int 0, .long 0, .float 0], [.int (ct + 1), .ref 118], (h.1, qm_up (qm_up (qm_up I 121 (ct.toInt.toNat) 0) 122 (ct.toInt.toNat) n) 123 (ct.toInt.toNat) 0, qm_up J 124 (ct.toInt.toNat) 0, h.2.2.2))) rfl ?_
          obtain ⟨v15, q_v15, e_v15⟩ := hk_add (x := ct) (y := 1) (a := ct.toInt) (b := 1) rfl rfl (by omega) (by omega)
          rw [q_v15]
          refine hk_puti rfl (hH.1 118 (17, 105) rfl) rfl ?_
          refine qm_Ru.go 0 (c' := (51, [.ref 118, .int 0, .int n, .int 0, .long 0, .float 0], [], (h.1, qm_up (qm_up (qm_up (qm_up I 121 (ct.toInt.toNat) 0) 122 (ct.toInt.toNat) n) 123 (ct.toInt.toNat) 0) 118 10 v15, qm_up J 124 (ct.toInt.toNat) 0, h.2.2.2))) rfl ?_
          refine qm_Ru.rt (v := none) (h' := (h.1, qm_up (qm_up (qm_up (qm_up I 121 (ct.toInt.toNat) 0) 122 (ct.toInt.toNat) n) 123 (ct.toInt.toNat) 0) 118 10 v15, qm_up J 124 (ct.toInt.toNat) 0, h.2.2.2)) rfl ?_
          refine qm_Ru.go 0 (c' := (42, [.ref 118, .int pos, .int 0, l3, l4, l5, l6, l7], [], (h.1, qm_up (qm_up (qm_up (qm_up I 121 (ct.toInt.toNat) 0) 122 (ct.toInt.toNat) n) 123 (ct.toInt.toNat) 0) 118 10 v15, qm_up J 124 (ct.toInt.toNat) 0, h.2.2.2))) rfl ?_
          refine qm_Ru.rt (v := none) (h' := (h.1, qm_up (qm_up (qm_up (qm_up I 121 (ct.toInt.toNat) 0) 122 (ct.toInt.toNat) n) 123 (ct.toInt.toNat) 0) 118 10 v15, qm_up J 124 (ct.toInt.toNat) 0, h.2.2.2)) rfl ?_
          exact k (qm_up (qm_up (qm_up (qm_up I 121 (ct.toInt.toNat) 0) 122 (ct.toInt.toNat) n) 123 (ct.toInt.toNat) 0) 118 10 v15) (qm_up J 124 (ct.toInt.toNat) 0) (hb_up (o := 118) (k := 10) (x := v15) (hb_up (o := 123) (k := ct.toInt.toNat) (x := 0) (hb_up (o := 122) (k := ct.toInt.toNat) (x := n) (hb_up (o := 121) (k := ct.toInt.toNat) (x := 0) hBI ⟨(show (0 : Int) ≤ 0 from by decide), (show (0 : Int) ≤ 44 from by decide)⟩) (qa_in_full _)) (qa_in_full _)) ⟨by show (0 : Int) ≤ v15.toInt; omega, by show v15.toInt ≤ (401 : Int); omega⟩) (fun o ho i => ((hk_mod ho rfl).trans ((hk_mod ho rfl).trans ((hk_mod ho rfl).trans ((hk_mod ho rfl).trans ((e o (hk_ms rfl ho) i).trans rfl)))))) (fun i hi => ((hk_neq (fun z => by subst z; cases hi)).trans ((hk_ot rfl).trans ((hk_ot rfl).trans ((hk_ot rfl).trans ((e8 i (hk_ms rfl hi)).trans rfl))))))
      · refine qm_Ru.go 1 (c' := (9, [.ref 118, .int pos], [.ref 118], (h.1, I, J, h.2.2.2))) rfl ?_
        refine hk_getr rfl (hH.1 118 (17, 105) rfl) rfl (hH.2 118 3 (some 120) rfl) ?_
        refine qm_Ru.go 1 (c' := (13, [.ref 118, .int pos], [.int pos, .ref 120], (h.1, I, J, h.2.2.2))) rfl ?_
        obtain ⟨v16, q_v16⟩ : ∃ v, h.2.1 120 (pos.toInt.toNat) = v := ⟨_, rfl⟩
        have b_v16 : (-128 : Int) ≤ v16.toInt ∧ v16.toInt ≤ 127 := by rw [← q_v16]; exact hB 120 (pos.toInt.toNat)
        refine hk_bal (v := v16) rfl (hH.1 120 (1, 2000) rfl) (by decide) (by omega) (by omega) (show (I) 120 (pos.toInt.toNat) = _ from ((e 120 rfl (pos.toInt.toNat)).trans q_v16)) ?_
        refine qm_Ru.go 2 (c' := (18, [.ref 118, .int pos], [.int (v16 &&& 255)], (h.1, I, J, h.2.2.2))) rfl ?_
        obtain ⟨v17, q_v17⟩ : ∃ v, (v16 &&& 255) = v := ⟨_, rfl⟩
        rw [q_v17]
        refine qm_Ru.go 1 (c' := (22, [.ref 118, .int pos], [.int v17], (h.1, I, J, h.2.2.2))) rfl ?_
        refine qm_Ru.rt (v := (some (.int v17))) (h' := (h.1, I, J, h.2.2.2)) rfl ?_
        refine qm_Ru.go 3 (c' := (25, [.ref 118, .int pos, .int v17, l3, l4, l5, l6, l7], [.ref 118, .int pos], (h.1, I, J, h.2.2.2))) rfl ?_
        refine hk_geti (v := n) rfl (hH.1 118 (17, 105) rfl) rfl (show (I) 118 4 = _ from ((e8 4 rfl).trans q_n)) ?_
        refine qm_Ru.go 0 (c' := (28, [.ref 118, .int pos, .int v17, l3, l4, l5, l6, l7], [.int n, .int pos], (h.1, I, J, h.2.2.2))) rfl ?_
        refine hk_clt (ix := pos.toInt) (iy := n.toInt) rfl rfl rfl (fun z18 => ?_) (fun z18 => ?_)
        · refine qm_Ru.go 2 (c' := (46, [.ref 118, .int pos, .int v17, l3, l4, l5, l6, l7], [.int 9, .int v17], (h.1, I, J, h.2.2.2))) rfl ?_
          refine hk_ceq (ix := v17.toInt) (iy := 9) rfl rfl rfl (fun z19 => ?_) (fun z19 => ?_)
          · refine qm_Ru.go 1 (c' := (70, [.ref 118, .int (pos + 1), .int v17, l3, l4, l5, l6, l7], [], (h.1, I, J, h.2.2.2))) rfl ?_
            obtain ⟨v20, q_v20, e_v20⟩ := hk_add (x := pos) (y := 1) (a := pos.toInt) (b := 1) rfl rfl (by omega) (by omega)
            rw [q_v20]
            refine qm_Ru.go 2 (c' := (7, [.ref 118, .int v20, .int v17, l3, l4, l5, l6, l7], [], (h.1, I, J, h.2.2.2))) rfl ?_
            exact ih (m - 1) (by omega) (I) (J) ct v20 hBI (fun o ho i => ((e o (hk_ms rfl ho) i).trans rfl)) (fun i hi => ((e8 i (hk_ms rfl hi)).trans rfl)) q_ct (by omega) (by omega) (by omega) (.int v17) l3 l4 l5 l6 l7
          · refine qm_Ru.go 2 (c' := (52, [.ref 118, .int pos, .int v17, l3, l4, l5, l6, l7], [.int 10, .int v17], (h.1, I, J, h.2.2.2))) rfl ?_
            refine hk_ceq (ix := v17.toInt) (iy := 10) rfl rfl rfl (fun z21 => ?_) (fun z21 => ?_)
            · refine qm_Ru.go 1 (c' := (70, [.ref 118, .int (pos + 1), .int v17, l3, l4, l5, l6, l7], [], (h.1, I, J, h.2.2.2))) rfl ?_
              obtain ⟨v22, q_v22, e_v22⟩ := hk_add (x := pos) (y := 1) (a := pos.toInt) (b := 1) rfl rfl (by omega) (by omega)
              rw [q_v22]
              refine qm_Ru.go 2 (c' := (7, [.ref 118, .int v22, .int v17, l3, l4, l5, l6, l7], [], (h.1, I, J, h.2.2.2))) rfl ?_
              exact ih (m - 1) (by omega) (I) (J) ct v22 hBI (fun o ho i => ((e o (hk_ms rfl ho) i).trans rfl)) (fun i hi => ((e8 i (hk_ms rfl hi)).trans rfl)) q_ct (by omega) (by omega) (by omega) (.int v17) l3 l4 l5 l6 l7
            · refine qm_Ru.go 2 (c' := (58, [.ref 118, .int pos, .int v17, l3, l4, l5, l6, l7], [.int 13, .int v17], (h.1, I, J, h.2.2.2))) rfl ?_
              refine hk_ceq (ix := v17.toInt) (iy := 13) rfl rfl rfl (fun z23 => ?_) (fun z23 => ?_)
              · refine qm_Ru.go 1 (c' := (70, [.ref 118, .int (pos + 1), .int v17, l3, l4, l5, l6, l7], [], (h.1, I, J, h.2.2.2))) rfl ?_
                obtain ⟨v24, q_v24, e_v24⟩ := hk_add (x := pos) (y := 1) (a := pos.toInt) (b := 1) rfl rfl (by omega) (by omega)
                rw [q_v24]
                refine qm_Ru.go 2 (c' := (7, [.ref 118, .int v24, .int v17, l3, l4, l5, l6, l7], [], (h.1, I, J, h.2.2.2))) rfl ?_
                exact ih (m - 1) (by omega) (I) (J) ct v24 hBI (fun o ho i => ((e o (hk_ms rfl ho) i).trans rfl)) (fun i hi => ((e8 i (hk_ms rfl hi)).trans rfl)) q_ct (by omega) (by omega) (by omega) (.int v17) l3 l4 l5 l6 l7
              · refine qm_Ru.go 2 (c' := (64, [.ref 118, .int pos, .int v17, l3, l4, l5, l6, l7], [.int 32, .int v17], (h.1, I, J, h.2.2.2))) rfl ?_
                refine hk_cne (ix := v17.toInt) (iy := 32) rfl rfl rfl (fun z25 => ?_) (fun z25 => ?_)
                · refine qm_Ru.go 1 (c' := (74, [.ref 118, .int pos, .int v17, l3, l4, l5, l6, l7], [.int v17], (h.1, I, J, h.2.2.2))) rfl ?_
                  refine qm_Ru.call (j := 252) (as := [.int v17]) (c' := (77, [.ref 118, .int pos, .int v17, l3, l4, l5, l6, l7], [], (h.1, I, J, h.2.2.2))) rfl rfl rfl ?_
                  refine qm_Ru.go 2 (c' := (3, [.int v17], [.int 97, .int v17], (h.1, I, J, h.2.2.2))) rfl ?_
                  refine hk_clt (ix := v17.toInt) (iy := 97) rfl rfl rfl (fun z26 => ?_) (fun z26 => ?_)
                  · refine qm_Ru.go 1 (c' := (17, [.int v17], [.int 0], (h.1, I, J, h.2.2.2))) rfl ?_
                    refine qm_Ru.rt (v := (some (.int 0))) (h' := (h.1, I, J, h.2.2.2)) rfl ?_
                    refine qm_Ru.go 2 (c' := (197, [.ref 118, .int pos, .int v17, l3, l4, l5, l6, l7], [.int v17], (h.1, I, J, h.2.2.2))) rfl ?_
                    refine qm_Ru.call (j := 253) (as := [.int v17]) (c' := (200, [.ref 118, .int pos, .int v17, l3, l4, l5, l6, l7], [], (h.1, I, J, h.2.2.2))) rfl rfl rfl ?_
                    refine qm_Ru.go 2 (c' := (3, [.int v17], [.int 48, .int v17], (h.1, I, J, h.2.2.2))) rfl ?_
                    refine hk_clt (ix := v17.toInt) (iy := 48) rfl rfl rfl (fun z27 => ?_) (fun z27 => ?_)
                    · refine qm_Ru.go 1 (c' := (17, [.int v17], [.int 0], (h.1, I, J, h.2.2.2))) rfl ?_
                      refine qm_Ru.rt (v := (some (.int 0))) (h' := (h.1, I, J, h.2.2.2)) rfl ?_
                      refine qm_Ru.go 9 (c' := (283, [.ref 118, .int pos, .int v17, l3, l4, l5, l6, l7], [.int (pos + 1), .ref 118, .int v17, .int pos, .ref 118, .int pos], (h.1, I, J, h.2.2.2))) rfl ?_
                      obtain ⟨v28, q_v28, e_v28⟩ := hk_add (x := pos) (y := 1) (a := pos.toInt) (b := 1) rfl rfl (by omega) (by omega)
                      rw [q_v28]
                      refine hk_inv (o := 118) (r := [.int v17, .int pos, .ref 118, .int pos]) (as := [.ref 118, .int v28]) rfl rfl (hH.1 118 (17, 105) rfl) rfl rfl rfl rfl ?_
                      refine qm_Ru.go 2 (c' := (2, [.ref 118, .int v28], [.ref 118, .int v28], (h.1, I, J, h.2.2.2))) rfl ?_
                      refine hk_geti (v := n) rfl (hH.1 118 (17, 105) rfl) rfl (show (I) 118 4 = _ from ((e8 4 rfl).trans q_n)) ?_
                      refine qm_Ru.go 0 (c' := (5, [.ref 118, .int v28], [.int n, .int v28], (h.1, I, J, h.2.2.2))) rfl ?_
                      refine hk_cge (ix := v28.toInt) (iy := n.toInt) rfl rfl rfl (fun z29 => ?_) (fun z29 => ?_)
                      · refine qm_Ru.go 1 (c' := (22, [.ref 118, .int v28], [.int 0], (h.1, I, J, h.2.2.2))) rfl ?_
                        refine qm_Ru.rt (v := (some (.int 0))) (h' := (h.1, I, J, h.2.2.2)) rfl ?_
                        refine qm_Ru.go 0 (c' := (286, [.ref 118, .int pos, .int v17, l3, l4, l5, l6, l7], [.int 0, .int v17, .int pos, .ref 118, .int pos], (h.1, I, J, h.2.2.2))) rfl ?_
                        refine hk_inv (o := 118) (r := [.int pos]) (as := [.ref 118, .int pos, .int v17, .int 0]) rfl rfl (hH.1 118 (17, 105) rfl) rfl rfl rfl rfl ?_
                        refine qm_Ru.go 12 (c' := (64, [.ref 118, .int pos, .int v17, .int 0, .int 0, .int 3], [.int 59, .int v17], (h.1, I, J, h.2.2.2))) rfl ?_
                        refine hk_cne (ix := v17.toInt) (iy := 59) rfl rfl rfl (fun z30 => ?_) (fun z30 => by exfalso; omega)
                        refine qm_Ru.go 2 (c' := (76, [.ref 118, .int pos, .int v17, .int 0, .int 0, .int 3], [.int 40, .int v17], (h.1, I, J, h.2.2.2))) rfl ?_
                        refine hk_cne (ix := v17.toInt) (iy := 40) rfl rfl rfl (fun z31 => ?_) (fun z31 => ?_)
                        · refine qm_Ru.go 2 (c' := (89, [.ref 118, .int pos, .int v17, .int 0, .int 0, .int 3], [.int 41, .int v17], (h.1, I, J, h.2.2.2))) rfl ?_
                          refine hk_cne (ix := v17.toInt) (iy := 41) rfl rfl rfl (fun z32 => ?_) (fun z32 => ?_)
                          · refine qm_Ru.go 2 (c' := (102, [.ref 118, .int pos, .int v17, .int 0, .int 0, .int 3], [.int 43, .int v17], (h.1, I, J, h.2.2.2))) rfl ?_
                            refine hk_cne (ix := v17.toInt) (iy := 43) rfl rfl rfl (fun z33 => ?_) (fun z33 => ?_)
                            · refine qm_Ru.go 2 (c' := (115, [.ref 118, .int pos, .int v17, .int 0, .int 0, .int 3], [.int 45, .int v17], (h.1, I, J, h.2.2.2))) rfl ?_
                              refine hk_cne (ix := v17.toInt) (iy := 45) rfl rfl rfl (fun z34 => ?_) (fun z34 => ?_)
                              · refine qm_Ru.go 2 (c' := (128, [.ref 118, .int pos, .int v17, .int 0, .int 0, .int 3], [.int 42, .int v17], (h.1, I, J, h.2.2.2))) rfl ?_
                                refine hk_cne (ix := v17.toInt) (iy := 42) rfl rfl rfl (fun z35 => ?_) (fun z35 => ?_)
                                · refine qm_Ru.go 2 (c' := (141, [.ref 118, .int pos, .int v17, .int 0, .int 0, .int 3], [.int 60, .int v17], (h.1, I, J, h.2.2.2))) rfl ?_
                                  refine hk_cne (ix := v17.toInt) (iy := 60) rfl rfl rfl (fun z36 => ?_) (fun z36 => by exfalso; omega)
                                  refine qm_Ru.go 5 (c' := (154, [.ref 118, .int pos, .int v17, .int 0, .int 0, .int 3], [.long 0, .int 0, .int pos, .int 3, .ref 118], (h.1, I, J, h.2.2.2))) rfl ?_
                                  refine hk_inv (o := 118) (r := []) (as := [.ref 118, .int 3, .int pos, .int 0, .long 0]) rfl rfl (hH.1 118 (17, 105) rfl) rfl rfl rfl rfl ?_
                                  refine qm_Ru.go 1 (c' := (1, [.ref 118, .int 3, .int pos, .int 0, .long 0, .float 0], [.ref 118], (h.1, I, J, h.2.2.2))) rfl ?_
                                  refine hk_getr rfl (hH.1 118 (17, 105) rfl) rfl (hH.2 118 5 (some 121) rfl) ?_
                                  refine qm_Ru.go 1 (c' := (5, [.ref 118, .int 3, .int pos, .int 0, .long 0, .float 0], [.ref 118, .ref 121], (h.1, I, J, h.2.2.2))) rfl ?_
                                  refine hk_geti (v := ct) rfl (hH.1 118 (17, 105) rfl) rfl q_ct ?_
                                  refine qm_Ru.go 1 (c' := (9, [.ref 118, .int 3, .int pos, .int 0, .long 0, .float 0], [.int 3, .int ct, .ref 121], (h.1, I, J, h.2.2.2))) rfl ?_
                                  refine hk_ias rfl (hH.1 121 (0, 403) rfl) (by omega) (by omega) ?_
                                  refine qm_Ru.go 1 (c' := (11, [.ref 118, .int 3, .int pos, .int 0, .long 0, .float 0], [.ref 118], (h.1, qm_up I 121 (ct.toInt.toNat) 3, J, h.2.2.2))) rfl ?_
                                  refine hk_getr rfl (hH.1 118 (17, 105) rfl) rfl (hH.2 118 6 (some 122) rfl) ?_
                                  refine qm_Ru.go 1 (c' := (15, [.ref 118, .int 3, .int pos, .int 0, .long 0, .float 0], [.ref 118, .ref 122], (h.1, qm_up I 121 (ct.toInt.toNat) 3, J, h.2.2.2))) rfl ?_
                                  refine hk_geti (v := ct) rfl (hH.1 118 (17, 105) rfl) rfl (show (qm_up I 121 (ct.toInt.toNat) 3) 118 10 = _ from ((hk_ot rfl).trans q_ct)) ?_
                                  refine qm_Ru.go 1 (c' := (19, [.ref 118, .int 3, .int pos, .int 0, .long 0, .float 0], [.int pos, .int ct, .ref 122], (h.1, qm_up I 121 (ct.toInt.toNat) 3, J, h.2.2.2))) rfl ?_
                                  refine hk_ias rfl (hH.1 122 (0, 403) rfl) (by omega) (by omega) ?_
                                  refine qm_Ru.go 1 (c' := (21, [.ref 118, .int 3, .int pos, .int 0, .long 0, .float 0], [.ref 118], (h.1, qm_up (qm_up I 121 (ct.toInt.toNat) 3) 122 (ct.toInt.toNat) pos, J, h.2.2.2))) rfl ?_
                                  refine hk_getr rfl (hH.1 118 (17, 105) rfl) rfl (hH.2 118 7 (some 123) rfl) ?_
                                  refine qm_Ru.go 1 (c' := (25, [.ref 118, .int 3, .int pos, .int 0, .long 0, .float 0], [.ref 118, .ref 123], (h.1, qm_up (qm_up I 121 (ct.toInt.toNat) 3) 122 (ct.toInt.toNat) pos, J, h.2.2.2))) rfl ?_
                                  refine hk_geti (v := ct) rfl (hH.1 118 (17, 105) rfl) rfl (show (qm_up (qm_up I 121 (ct.toInt.toNat) 3) 122 (ct.toInt.toNat) pos) 118 10 = _ from ((hk_ot rfl).trans ((hk_ot rfl).trans q_ct))) ?_
                                  refine qm_Ru.go 1 (c' := (29, [.ref 118, .int 3, .int pos, .int 0, .long 0, .float 0], [.int 0, .int ct, .ref 123], (h.1, qm_up (qm_up I 121 (ct.toInt.toNat) 3) 122 (ct.toInt.toNat) pos, J, h.2.2.2))) rfl ?_
                                  refine hk_ias rfl (hH.1 123 (0, 403) rfl) (by omega) (by omega) ?_
                                  refine qm_Ru.go 1 (c' := (31, [.ref 118, .int 3, .int pos, .int 0, .long 0, .float 0], [.ref 118], (h.1, qm_up (qm_up (qm_up I 121 (ct.toInt.toNat) 3) 122 (ct.toInt.toNat) pos) 123 (ct.toInt.toNat) 0, J, h.2.2.2))) rfl ?_
                                  refine hk_getr rfl (hH.1 118 (17, 105) rfl) rfl (hH.2 118 8 (some 124) rfl) ?_
                                  refine qm_Ru.go 1 (c' := (35, [.ref 118, .int 3, .int pos, .int 0, .long 0, .float 0], [.ref 118, .ref 124], (h.1, qm_up (qm_up (qm_up I 121 (ct.toInt.toNat) 3) 122 (ct.toInt.toNat) pos) 123 (ct.toInt.toNat) 0, J, h.2.2.2))) rfl ?_
                                  refine hk_geti (v := ct) rfl (hH.1 118 (17, 105) rfl) rfl (show (qm_up (qm_up (qm_up I 121 (ct.toInt.toNat) 3) 122 (ct.toInt.toNat) pos) 123 (ct.toInt.toNat) 0) 118 10 = _ from ((hk_ot rfl).trans ((hk_ot rfl).trans ((hk_ot rfl).trans q_ct)))) ?_
                                  refine qm_Ru.go 1 (c' := (40, [.ref 118, .int 3, .int pos, .int 0, .long 0, .float 0], [.long 0, .int ct, .ref 124], (h.1, qm_up (qm_up (qm_up I 121 (ct.toInt.toNat) 3) 122 (ct.toInt.toNat) pos) 123 (ct.toInt.toNat) 0, J, h.2.2.2))) rfl ?_
                                  refine hk_las rfl (hH.1 124 (3, 403) rfl) (by omega) (by omega) ?_
                                  refine qm_Ru.go 2 (c' := (43, [.ref 118, .int 3, .int pos, .int 0, .long 0, .float 0], [.ref 118, .ref 118], (h.1, qm_up (qm_up (qm_up I 121 (ct.toInt.toNat) 3) 122 (ct.toInt.toNat) pos) 123 (ct.toInt.toNat) 0, qm_up J 124 (ct.toInt.toNat) 0, h.2.2.2))) rfl ?_
                                  refine hk_geti (v := ct) rfl (hH.1 118 (17, 105) rfl) rfl (show (qm_up (qm_up (qm_up I 121 (ct.toInt.toNat) 3) 122 (ct.toInt.toNat) pos) 123 (ct.toInt.toNat) 0) 118 10 = _ from ((hk_ot rfl).trans ((hk_ot rfl).trans ((hk_ot rfl).trans q_ct)))) ?_
                                  refine qm_Ru.go 2 (c' := (48, [.ref 118, .int 3, .int pos, .int 0, .long 0, .float 0], [.int (ct + 1), .ref 118], (h.1, qm_up (qm_up (qm_up I 121 (ct.toInt.toNat) 3) 122 (ct.toInt.toNat) pos) 123 (ct.toInt.toNat) 0, qm_up J 124 (ct.toInt.toNat) 0, h.2.2.2))) rfl ?_
                                  obtain ⟨v37, q_v37, e_v37⟩ := hk_add (x := ct) (y := 1) (a := ct.toInt) (b := 1) rfl rfl (by omega) (by omega)
                                  rw [q_v37]
                                  refine hk_puti rfl (hH.1 118 (17, 105) rfl) rfl ?_
                                  refine qm_Ru.go 0 (c' := (51, [.ref 118, .int 3, .int pos, .int 0, .long 0, .float 0], [], (h.1, qm_up (qm_up (qm_up (qm_up I 121 (ct.toInt.toNat) 3) 122 (ct.toInt.toNat) pos) 123 (ct.toInt.toNat) 0) 118 10 v37, qm_up J 124 (ct.toInt.toNat) 0, h.2.2.2))) rfl ?_
                                  refine qm_Ru.rt (v := none) (h' := (h.1, qm_up (qm_up (qm_up (qm_up I 121 (ct.toInt.toNat) 3) 122 (ct.toInt.toNat) pos) 123 (ct.toInt.toNat) 0) 118 10 v37, qm_up J 124 (ct.toInt.toNat) 0, h.2.2.2)) rfl ?_
                                  refine qm_Ru.go 3 (c' := (167, [.ref 118, .int pos, .int v17, .int 0, .int 0, .int 3], [.int 1], (h.1, qm_up (qm_up (qm_up (qm_up I 121 (ct.toInt.toNat) 3) 122 (ct.toInt.toNat) pos) 123 (ct.toInt.toNat) 0) 118 10 v37, qm_up J 124 (ct.toInt.toNat) 0, h.2.2.2))) rfl ?_
                                  refine qm_Ru.rt (v := (some (.int 1))) (h' := (h.1, qm_up (qm_up (qm_up (qm_up I 121 (ct.toInt.toNat) 3) 122 (ct.toInt.toNat) pos) 123 (ct.toInt.toNat) 0) 118 10 v37, qm_up J 124 (ct.toInt.toNat) 0, h.2.2.2)) rfl ?_
                                  refine qm_Ru.go 1 (c' := (290, [.ref 118, .int pos, .int v17, l3, l4, l5, l6, l7], [.int (pos + 1)], (h.1, qm_up (qm_up (qm_up (qm_up I 121 (ct.toInt.toNat) 3) 122 (ct.toInt.toNat) pos) 123 (ct.toInt.toNat) 0) 118 10 v37, qm_up J 124 (ct.toInt.toNat) 0, h.2.2.2))) rfl ?_
                                  rw [q_v28]
                                  refine qm_Ru.go 2 (c' := (7, [.ref 118, .int v28, .int v17, l3, l4, l5, l6, l7], [], (h.1, qm_up (qm_up (qm_up (qm_up I 121 (ct.toInt.toNat) 3) 122 (ct.toInt.toNat) pos) 123 (ct.toInt.toNat) 0) 118 10 v37, qm_up J 124 (ct.toInt.toNat) 0, h.2.2.2))) rfl ?_
                                  exact ih (m - 1) (by omega) (qm_up (qm_up (qm_up (qm_up I 121 (ct.toInt.toNat) 3) 122 (ct.toInt.toNat) pos) 123 (ct.toInt.toNat) 0) 118 10 v37) (qm_up J 124 (ct.toInt.toNat) 0) v37 v28 (hb_up (o := 118) (k := 10) (x := v37) (hb_up (o := 123) (k := ct.toInt.toNat) (x := 0) (hb_up (o := 122) (k := ct.toInt.toNat) (x := pos) (hb_up (o := 121) (k := ct.toInt.toNat) (x := 3) hBI ⟨(show (0 : Int) ≤ 3 from by decide), (show (3 : Int) ≤ 44 from by decide)⟩) (qa_in_full _)) (qa_in_full _)) ⟨by show (0 : Int) ≤ v37.toInt; omega, by show v37.toInt ≤ (401 : Int); omega⟩) (fun o ho i => ((hk_mod ho rfl).trans ((hk_mod ho rfl).trans ((hk_mod ho rfl).trans ((hk_mod ho rfl).trans ((e o (hk_ms rfl ho) i).trans rfl)))))) (fun i hi => ((hk_neq (fun z => by subst z; cases hi)).trans ((hk_ot rfl).trans ((hk_ot rfl).trans ((hk_ot rfl).trans ((e8 i (hk_ms rfl hi)).trans rfl)))))) (show (qm_up (qm_up (qm_up (qm_up I 121 (ct.toInt.toNat) 3) 122 (ct.toInt.toNat) pos) 123 (ct.toInt.toNat) 0) 118 10 v37) 118 10 = _ from (hk_same)) (by omega) (by omega) (by omega) (.int v17) l3 l4 l5 l6 l7
                                · refine qm_Ru.go 8 (c' := (154, [.ref 118, .int pos, .int v17, .int 0, .int 0, .int 10], [.long 0, .int 0, .int pos, .int 10, .ref 118], (h.1, I, J, h.2.2.2))) rfl ?_
                                  refine hk_inv (o := 118) (r := []) (as := [.ref 118, .int 10, .int pos, .int 0, .long 0]) rfl rfl (hH.1 118 (17, 105) rfl) rfl rfl rfl rfl ?_
                                  refine qm_Ru.go 1 (c' := (1, [.ref 118, .int 10, .int pos, .int 0, .long 0, .float 0], [.ref 118], (h.1, I, J, h.2.2.2))) rfl ?_
                                  refine hk_getr rfl (hH.1 118 (17, 105) rfl) rfl (hH.2 118 5 (some 121) rfl) ?_
                                  refine qm_Ru.go 1 (c' := (5, [.ref 118, .int 10, .int pos, .int 0, .long 0, .float 0], [.ref 118, .ref 121], (h.1, I, J, h.2.2.2))) rfl ?_
                                  refine hk_geti (v := ct) rfl (hH.1 118 (17, 105) rfl) rfl q_ct ?_
                                  refine qm_Ru.go 1 (c' := (9, [.ref 118, .int 10, .int pos, .int 0, .long 0, .float 0], [.int 10, .int ct, .ref 121], (h.1, I, J, h.2.2.2))) rfl ?_
                                  refine hk_ias rfl (hH.1 121 (0, 403) rfl) (by omega) (by omega) ?_
                                  refine qm_Ru.go 1 (c' := (11, [.ref 118, .int 10, .int pos, .int 0, .long 0, .float 0], [.ref 118], (h.1, qm_up I 121 (ct.toInt.toNat) 10, J, h.2.2.2))) rfl ?_
                                  refine hk_getr rfl (hH.1 118 (17, 105) rfl) rfl (hH.2 118 6 (some 122) rfl) ?_
                                  refine qm_Ru.go 1 (c' := (15, [.ref 118, .int 10, .int pos, .int 0, .long 0, .float 0], [.ref 118, .ref 122], (h.1, qm_up I 121 (ct.toInt.toNat) 10, J, h.2.2.2))) rfl ?_
                                  refine hk_geti (v := ct) rfl (hH.1 118 (17, 105) rfl) rfl (show (qm_up I 121 (ct.toInt.toNat) 10) 118 10 = _ from ((hk_ot rfl).trans q_ct)) ?_
                                  refine qm_Ru.go 1 (c' := (19, [.ref 118, .int 10, .int pos, .int 0, .long 0, .float 0], [.int pos, .int ct, .ref 122], (h.1, qm_up I 121 (ct.toInt.toNat) 10, J, h.2.2.2))) rfl ?_
                                  refine hk_ias rfl (hH.1 122 (0, 403) rfl) (by omega) (by omega) ?_
                                  refine qm_Ru.go 1 (c' := (21, [.ref 118, .int 10, .int pos, .int 0, .long 0, .float 0], [.ref 118], (h.1, qm_up (qm_up I 121 (ct.toInt.toNat) 10) 122 (ct.toInt.toNat) pos, J, h.2.2.2))) rfl ?_
                                  refine hk_getr rfl (hH.1 118 (17, 105) rfl) rfl (hH.2 118 7 (some 123) rfl) ?_
                                  refine qm_Ru.go 1 (c' := (25, [.ref 118, .int 10, .int pos, .int 0, .long 0, .float 0], [.ref 118, .ref 123], (h.1, qm_up (qm_up I 121 (ct.toInt.toNat) 10) 122 (ct.toInt.toNat) pos, J, h.2.2.2))) rfl ?_
                                  refine hk_geti (v := ct) rfl (hH.1 118 (17, 105) rfl) rfl (show (qm_up (qm_up I 121 (ct.toInt.toNat) 10) 122 (ct.toInt.toNat) pos) 118 10 = _ from ((hk_ot rfl).trans ((hk_ot rfl).trans q_ct))) ?_
                                  refine qm_Ru.go 1 (c' := (29, [.ref 118, .int 10, .int pos, .int 0, .long 0, .float 0], [.int 0, .int ct, .ref 123], (h.1, qm_up (qm_up I 121 (ct.toInt.toNat) 10) 122 (ct.toInt.toNat) pos, J, h.2.2.2))) rfl ?_
                                  refine hk_ias rfl (hH.1 123 (0, 403) rfl) (by omega) (by omega) ?_
                                  refine qm_Ru.go 1 (c' := (31, [.ref 118, .int 10, .int pos, .int 0, .long 0, .float 0], [.ref 118], (h.1, qm_up (qm_up (qm_up I 121 (ct.toInt.toNat) 10) 122 (ct.toInt.toNat) pos) 123 (ct.toInt.toNat) 0, J, h.2.2.2))) rfl ?_
                                  refine hk_getr rfl (hH.1 118 (17, 105) rfl) rfl (hH.2 118 8 (some 124) rfl) ?_
                                  refine qm_Ru.go 1 (c' := (35, [.ref 118, .int 10, .int pos, .int 0, .long 0, .float 0], [.ref 118, .ref 124], (h.1, qm_up (qm_up (qm_up I 121 (ct.toInt.toNat) 10) 122 (ct.toInt.toNat) pos) 123 (ct.toInt.toNat) 0, J, h.2.2.2))) rfl ?_
                                  refine hk_geti (v := ct) rfl (hH.1 118 (17, 105) rfl) rfl (show (qm_up (qm_up (qm_up I 121 (ct.toInt.toNat) 10) 122 (ct.toInt.toNat) pos) 123 (ct.toInt.toNat) 0) 118 10 = _ from ((hk_ot rfl).trans ((hk_ot rfl).trans ((hk_ot rfl).trans q_ct)))) ?_
                                  refine qm_Ru.go 1 (c' := (40, [.ref 118, .int 10, .int pos, .int 0, .long 0, .float 0], [.long 0, .int ct, .ref 124], (h.1, qm_up (qm_up (qm_up I 121 (ct.toInt.toNat) 10) 122 (ct.toInt.toNat) pos) 123 (ct.toInt.toNat) 0, J, h.2.2.2))) rfl ?_
                                  refine hk_las rfl (hH.1 124 (3, 403) rfl) (by omega) (by omega) ?_
                                  refine qm_Ru.go 2 (c' := (43, [.ref 118, .int 10, .int pos, .int 0, .long 0, .float 0], [.ref 118, .ref 118], (h.1, qm_up (qm_up (qm_up I 121 (ct.toInt.toNat) 10) 122 (ct.toInt.toNat) pos) 123 (ct.toInt.toNat) 0, qm_up J 124 (ct.toInt.toNat) 0, h.2.2.2))) rfl ?_
                                  refine hk_geti (v := ct) rfl (hH.1 118 (17, 105) rfl) rfl (show (qm_up (qm_up (qm_up I 121 (ct.toInt.toNat) 10) 122 (ct.toInt.toNat) pos) 123 (ct.toInt.toNat) 0) 118 10 = _ from ((hk_ot rfl).trans ((hk_ot rfl).trans ((hk_ot rfl).trans q_ct)))) ?_
                                  refine qm_Ru.go 2 (c' := (48, [.ref 118, .int 10, .int pos, .int 0, .long 0, .float 0], [.int (ct + 1), .ref 118], (h.1, qm_up (qm_up (qm_up I 121 (ct.toInt.toNat) 10) 122 (ct.toInt.toNat) pos) 123 (ct.toInt.toNat) 0, qm_up J 124 (ct.toInt.toNat) 0, h.2.2.2))) rfl ?_
                                  obtain ⟨v39, q_v39, e_v39⟩ := hk_add (x := ct) (y := 1) (a := ct.toInt) (b := 1) rfl rfl (by omega) (by omega)
                                  rw [q_v39]
                                  refine hk_puti rfl (hH.1 118 (17, 105) rfl) rfl ?_
                                  refine qm_Ru.go 0 (c' := (51, [.ref 118, .int 10, .int pos, .int 0, .long 0, .float 0], [], (h.1, qm_up (qm_up (qm_up (qm_up I 121 (ct.toInt.toNat) 10) 122 (ct.toInt.toNat) pos) 123 (ct.toInt.toNat) 0) 118 10 v39, qm_up J 124 (ct.toInt.toNat) 0, h.2.2.2))) rfl ?_
                                  refine qm_Ru.rt (v := none) (h' := (h.1, qm_up (qm_up (qm_up (qm_up I 121 (ct.toInt.toNat) 10) 122 (ct.toInt.toNat) pos) 123 (ct.toInt.toNat) 0) 118 10 v39, qm_up J 124 (ct.toInt.toNat) 0, h.2.2.2)) rfl ?_
                                  refine qm_Ru.go 3 (c' := (167, [.ref 118, .int pos, .int v17, .int 0, .int 0, .int 10], [.int 1], (h.1, qm_up (qm_up (qm_up (qm_up I 121 (ct.toInt.toNat) 10) 122 (ct.toInt.toNat) pos) 123 (ct.toInt.toNat) 0) 118 10 v39, qm_up J 124 (ct.toInt.toNat) 0, h.2.2.2))) rfl ?_
                                  refine qm_Ru.rt (v := (some (.int 1))) (h' := (h.1, qm_up (qm_up (qm_up (qm_up I 121 (ct.toInt.toNat) 10) 122 (ct.toInt.toNat) pos) 123 (ct.toInt.toNat) 0) 118 10 v39, qm_up J 124 (ct.toInt.toNat) 0, h.2.2.2)) rfl ?_
                                  refine qm_Ru.go 1 (c' := (290, [.ref 118, .int pos, .int v17, l3, l4, l5, l6, l7], [.int (pos + 1)], (h.1, qm_up (qm_up (qm_up (qm_up I 121 (ct.toInt.toNat) 10) 122 (ct.toInt.toNat) pos) 123 (ct.toInt.toNat) 0) 118 10 v39, qm_up J 124 (ct.toInt.toNat) 0, h.2.2.2))) rfl ?_
                                  rw [q_v28]
                                  refine qm_Ru.go 2 (c' := (7, [.ref 118, .int v28, .int v17, l3, l4, l5, l6, l7], [], (h.1, qm_up (qm_up (qm_up (qm_up I 121 (ct.toInt.toNat) 10) 122 (ct.toInt.toNat) pos) 123 (ct.toInt.toNat) 0) 118 10 v39, qm_up J 124 (ct.toInt.toNat) 0, h.2.2.2))) rfl ?_
                                  exact ih (m - 1) (by omega) (qm_up (qm_up (qm_up (qm_up I 121 (ct.toInt.toNat) 10) 122 (ct.toInt.toNat) pos) 123 (ct.toInt.toNat) 0) 118 10 v39) (qm_up J 124 (ct.toInt.toNat) 0) v39 v28 (hb_up (o := 118) (k := 10) (x := v39) (hb_up (o := 123) (k := ct.toInt.toNat) (x := 0) (hb_up (o := 122) (k := ct.toInt.toNat) (x := pos) (hb_up (o := 121) (k := ct.toInt.toNat) (x := 10) hBI ⟨(show (0 : Int) ≤ 10 from by decide), (show (10 : Int) ≤ 44 from by decide)⟩) (qa_in_full _)) (qa_in_full _)) ⟨by show (0 : Int) ≤ v39.toInt; omega, by show v39.toInt ≤ (401 : Int); omega⟩) (fun o ho i => ((hk_mod ho rfl).trans ((hk_mod ho rfl).trans ((hk_mod ho rfl).trans ((hk_mod ho rfl).trans ((e o (hk_ms rfl ho) i).trans rfl)))))) (fun i hi => ((hk_neq (fun z => by subst z; cases hi)).trans ((hk_ot rfl).trans ((hk_ot rfl).trans ((hk_ot rfl).trans ((e8 i (hk_ms rfl hi)).trans rfl)))))) (show (qm_up (qm_up (qm_up (qm_up I 121 (ct.toInt.toNat) 10) 122 (ct.toInt.toNat) pos) 123 (ct.toInt.toNat) 0) 118 10 v39) 118 10 = _ from (hk_same)) (by omega) (by omega) (by omega) (.int v17) l3 l4 l5 l6 l7
                              · refine qm_Ru.go 8 (c' := (154, [.ref 118, .int pos, .int v17, .int 0, .int 0, .int 9], [.long 0, .int 0, .int pos, .int 9, .ref 118], (h.1, I, J, h.2.2.2))) rfl ?_
                                refine hk_inv (o := 118) (r := []) (as := [.ref 118, .int 9, .int pos, .int 0, .long 0]) rfl rfl (hH.1 118 (17, 105) rfl) rfl rfl rfl rfl ?_
                                refine qm_Ru.go 1 (c' := (1, [.ref 118, .int 9, .int pos, .int 0, .long 0, .float 0], [.ref 118], (h.1, I, J, h.2.2.2))) rfl ?_
                                refine hk_getr rfl (hH.1 118 (17, 105) rfl) rfl (hH.2 118 5 (some 121) rfl) ?_
                                refine qm_Ru.go 1 (c' := (5, [.ref 118, .int 9, .int pos, .int 0, .long 0, .float 0], [.ref 118, .ref 121], (h.1, I, J, h.2.2.2))) rfl ?_
                                refine hk_geti (v := ct) rfl (hH.1 118 (17, 105) rfl) rfl q_ct ?_
                                refine qm_Ru.go 1 (c' := (9, [.ref 118, .int 9, .int pos, .int 0, .long 0, .float 0], [.int 9, .int ct, .ref 121], (h.1, I, J, h.2.2.2))) rfl ?_
                                refine hk_ias rfl (hH.1 121 (0, 403) rfl) (by omega) (by omega) ?_
                                refine qm_Ru.go 1 (c' := (11, [.ref 118, .int 9, .int pos, .int 0, .long 0, .float 0], [.ref 118], (h.1, qm_up I 121 (ct.toInt.toNat) 9, J, h.2.2.2))) rfl ?_
                                refine hk_getr rfl (hH.1 118 (17, 105) rfl) rfl (hH.2 118 6 (some 122) rfl) ?_
                                refine qm_Ru.go 1 (c' := (15, [.ref 118, .int 9, .int pos, .int 0, .long 0, .float 0], [.ref 118, .ref 122], (h.1, qm_up I 121 (ct.toInt.toNat) 9, J, h.2.2.2))) rfl ?_
                                refine hk_geti (v := ct) rfl (hH.1 118 (17, 105) rfl) rfl (show (qm_up I 121 (ct.toInt.toNat) 9) 118 10 = _ from ((hk_ot rfl).trans q_ct)) ?_
                                refine qm_Ru.go 1 (c' := (19, [.ref 118, .int 9, .int pos, .int 0, .long 0, .float 0], [.int pos, .int ct, .ref 122], (h.1, qm_up I 121 (ct.toInt.toNat) 9, J, h.2.2.2))) rfl ?_
                                refine hk_ias rfl (hH.1 122 (0, 403) rfl) (by omega) (by omega) ?_
                                refine qm_Ru.go 1 (c' := (21, [.ref 118, .int 9, .int pos, .int 0, .long 0, .float 0], [.ref 118], (h.1, qm_up (qm_up I 121 (ct.toInt.toNat) 9) 122 (ct.toInt.toNat) pos, J, h.2.2.2))) rfl ?_
                                refine hk_getr rfl (hH.1 118 (17, 105) rfl) rfl (hH.2 118 7 (some 123) rfl) ?_
                                refine qm_Ru.go 1 (c' := (25, [.ref 118, .int 9, .int pos, .int 0, .long 0, .float 0], [.ref 118, .ref 123], (h.1, qm_up (qm_up I 121 (ct.toInt.toNat) 9) 122 (ct.toInt.toNat) pos, J, h.2.2.2))) rfl ?_
                                refine hk_geti (v := ct) rfl (hH.1 118 (17, 105) rfl) rfl (show (qm_up (qm_up I 121 (ct.toInt.toNat) 9) 122 (ct.toInt.toNat) pos) 118 10 = _ from ((hk_ot rfl).trans ((hk_ot rfl).trans q_ct))) ?_
                                refine qm_Ru.go 1 (c' := (29, [.ref 118, .int 9, .int pos, .int 0, .long 0, .float 0], [.int 0, .int ct, .ref 123], (h.1, qm_up (qm_up I 121 (ct.toInt.toNat) 9) 122 (ct.toInt.toNat) pos, J, h.2.2.2))) rfl ?_
                                refine hk_ias rfl (hH.1 123 (0, 403) rfl) (by omega) (by omega) ?_
                                refine qm_Ru.go 1 (c' := (31, [.ref 118, .int 9, .int pos, .int 0, .long 0, .float 0], [.ref 118], (h.1, qm_up (qm_up (qm_up I 121 (ct.toInt.toNat) 9) 122 (ct.toInt.toNat) pos) 123 (ct.toInt.toNat) 0, J, h.2.2.2))) rfl ?_
                                refine hk_getr rfl (hH.1 118 (17, 105) rfl) rfl (hH.2 118 8 (some 124) rfl) ?_
                                refine qm_Ru.go 1 (c' := (35, [.ref 118, .int 9, .int pos, .int 0, .long 0, .float 0], [.ref 118, .ref 124], (h.1, qm_up (qm_up (qm_up I 121 (ct.toInt.toNat) 9) 122 (ct.toInt.toNat) pos) 123 (ct.toInt.toNat) 0, J, h.2.2.2))) rfl ?_
                                refine hk_geti (v := ct) rfl (hH.1 118 (17, 105) rfl) rfl (show (qm_up (qm_up (qm_up I 121 (ct.toInt.toNat) 9) 122 (ct.toInt.toNat) pos) 123 (ct.toInt.toNat) 0) 118 10 = _ from ((hk_ot rfl).trans ((hk_ot rfl).trans ((hk_ot rfl).trans q_ct)))) ?_
                                refine qm_Ru.go 1 (c' := (40, [.ref 118, .int 9, .int pos, .int 0, .long 0, .float 0], [.long 0, .int ct, .ref 124], (h.1, qm_up (qm_up (qm_up I 121 (ct.toInt.toNat) 9) 122 (ct.toInt.toNat) pos) 123 (ct.toInt.toNat) 0, J, h.2.2.2))) rfl ?_
                                refine hk_las rfl (hH.1 124 (3, 403) rfl) (by omega) (by omega) ?_
                                refine qm_Ru.go 2 (c' := (43, [.ref 118, .int 9, .int pos, .int 0, .long 0, .float 0], [.ref 118, .ref 118], (h.1, qm_up (qm_up (qm_up I 121 (ct.toInt.toNat) 9) 122 (ct.toInt.toNat) pos) 123 (ct.toInt.toNat) 0, qm_up J 124 (ct.toInt.toNat) 0, h.2.2.2))) rfl ?_
                                refine hk_geti (v := ct) rfl (hH.1 118 (17, 105) rfl) rfl (show (qm_up (qm_up (qm_up I 121 (ct.toInt.toNat) 9) 122 (ct.toInt.toNat) pos) 123 (ct.toInt.toNat) 0) 118 10 = _ from ((hk_ot rfl).trans ((hk_ot rfl).trans ((hk_ot rfl).trans q_ct)))) ?_
                                refine qm_Ru.go 2 (c' := (48, [.ref 118, .int 9, .int pos, .int 0, .long 0, .float 0], [.int (ct + 1), .ref 118], (h.1, qm_up (qm_up (qm_up I 121 (ct.toInt.toNat) 9) 122 (ct.toInt.toNat) pos) 123 (ct.toInt.toNat) 0, qm_up J 124 (ct.toInt.toNat) 0, h.2.2.2))) rfl ?_
                                obtain ⟨v41, q_v41, e_v41⟩ := hk_add (x := ct) (y := 1) (a := ct.toInt) (b := 1) rfl rfl (by omega) (by omega)
                                rw [q_v41]
                                refine hk_puti rfl (hH.1 118 (17, 105) rfl) rfl ?_
                                refine qm_Ru.go 0 (c' := (51, [.ref 118, .int 9, .int pos, .int 0, .long 0, .float 0], [], (h.1, qm_up (qm_up (qm_up (qm_up I 121 (ct.toInt.toNat) 9) 122 (ct.toInt.toNat) pos) 123 (ct.toInt.toNat) 0) 118 10 v41, qm_up J 124 (ct.toInt.toNat) 0, h.2.2.2))) rfl ?_
                                refine qm_Ru.rt (v := none) (h' := (h.1, qm_up (qm_up (qm_up (qm_up I 121 (ct.toInt.toNat) 9) 122 (ct.toInt.toNat) pos) 123 (ct.toInt.toNat) 0) 118 10 v41, qm_up J 124 (ct.toInt.toNat) 0, h.2.2.2)) rfl ?_
                                refine qm_Ru.go 3 (c' := (167, [.ref 118, .int pos, .int v17, .int 0, .int 0, .int 9], [.int 1], (h.1, qm_up (qm_up (qm_up (qm_up I 121 (ct.toInt.toNat) 9) 122 (ct.toInt.toNat) pos) 123 (ct.toInt.toNat) 0) 118 10 v41, qm_up J 124 (ct.toInt.toNat) 0, h.2.2.2))) rfl ?_
                                refine qm_Ru.rt (v := (some (.int 1))) (h' := (h.1, qm_up (qm_up (qm_up (qm_up I 121 (ct.toInt.toNat) 9) 122 (ct.toInt.toNat) pos) 123 (ct.toInt.toNat) 0) 118 10 v41, qm_up J 124 (ct.toInt.toNat) 0, h.2.2.2)) rfl ?_
                                refine qm_Ru.go 1 (c' := (290, [.ref 118, .int pos, .int v17, l3, l4, l5, l6, l7], [.int (pos + 1)], (h.1, qm_up (qm_up (qm_up (qm_up I 121 (ct.toInt.toNat) 9) 122 (ct.toInt.toNat) pos) 123 (ct.toInt.toNat) 0) 118 10 v41, qm_up J 124 (ct.toInt.toNat) 0, h.2.2.2))) rfl ?_
                                rw [q_v28]
                                refine qm_Ru.go 2 (c' := (7, [.ref 118, .int v28, .int v17, l3, l4, l5, l6, l7], [], (h.1, qm_up (qm_up (qm_up (qm_up I 121 (ct.toInt.toNat) 9) 122 (ct.toInt.toNat) pos) 123 (ct.toInt.toNat) 0) 118 10 v41, qm_up J 124 (ct.toInt.toNat) 0, h.2.2.2))) rfl ?_
                                exact ih (m - 1) (by omega) (qm_up (qm_up (qm_up (qm_up I 121 (ct.toInt.toNat) 9) 122 (ct.toInt.toNat) pos) 123 (ct.toInt.toNat) 0) 118 10 v41) (qm_up J 124 (ct.toInt.toNat) 0) v41 v28 (hb_up (o := 118) (k := 10) (x := v41) (hb_up (o := 123) (k := ct.toInt.toNat) (x := 0) (hb_up (o := 122) (k := ct.toInt.toNat) (x := pos) (hb_up (o := 121) (k := ct.toInt.toNat) (x := 9) hBI ⟨(show (0 : Int) ≤ 9 from by decide), (show (9 : Int) ≤ 44 from by decide)⟩) (qa_in_full _)) (qa_in_full _)) ⟨by show (0 : Int) ≤ v41.toInt; omega, by show v41.toInt ≤ (401 : Int); omega⟩) (fun o ho i => ((hk_mod ho rfl).trans ((hk_mod ho rfl).trans ((hk_mod ho rfl).trans ((hk_mod ho rfl).trans ((e o (hk_ms rfl ho) i).trans rfl)))))) (fun i hi => ((hk_neq (fun z => by subst z; cases hi)).trans ((hk_ot rfl).trans ((hk_ot rfl).trans ((hk_ot rfl).trans ((e8 i (hk_ms rfl hi)).trans rfl)))))) (show (qm_up (qm_up (qm_up (qm_up I 121 (ct.toInt.toNat) 9) 122 (ct.toInt.toNat) pos) 123 (ct.toInt.toNat) 0) 118 10 v41) 118 10 = _ from (hk_same)) (by omega) (by omega) (by omega) (.int v17) l3 l4 l5 l6 l7
                            · refine qm_Ru.go 8 (c' := (154, [.ref 118, .int pos, .int v17, .int 0, .int 0, .int 8], [.long 0, .int 0, .int pos, .int 8, .ref 118], (h.1, I, J, h.2.2.2))) rfl ?_
                              refine hk_inv (o := 118) (r := []) (as := [.ref 118, .int 8, .int pos, .int 0, .long 0]) rfl rfl (hH.1 118 (17, 105) rfl) rfl rfl rfl rfl ?_
                              refine qm_Ru.go 1 (c' := (1, [.ref 118, .int 8, .int pos, .int 0, .long 0, .float 0], [.ref 118], (h.1, I, J, h.2.2.2))) rfl ?_
                              refine hk_getr rfl (hH.1 118 (17, 105) rfl) rfl (hH.2 118 5 (some 121) rfl) ?_
                              refine qm_Ru.go 1 (c' := (5, [.ref 118, .int 8, .int pos, .int 0, .long 0, .float 0], [.ref 118, .ref 121], (h.1, I, J, h.2.2.2))) rfl ?_
                              refine hk_geti (v := ct) rfl (hH.1 118 (17, 105) rfl) rfl q_ct ?_
                              refine qm_Ru.go 1 (c' := (9, [.ref 118, .int 8, .int pos, .int 0, .long 0, .float 0], [.int 8, .int ct, .ref 121], (h.1, I, J, h.2.2.2))) rfl ?_
                              refine hk_ias rfl (hH.1 121 (0, 403) rfl) (by omega) (by omega) ?_
                              refine qm_Ru.go 1 (c' := (11, [.ref 118, .int 8, .int pos, .int 0, .long 0, .float 0], [.ref 118], (h.1, qm_up I 121 (ct.toInt.toNat) 8, J, h.2.2.2))) rfl ?_
                              refine hk_getr rfl (hH.1 118 (17, 105) rfl) rfl (hH.2 118 6 (some 122) rfl) ?_
                              refine qm_Ru.go 1 (c' := (15, [.ref 118, .int 8, .int pos, .int 0, .long 0, .float 0], [.ref 118, .ref 122], (h.1, qm_up I 121 (ct.toInt.toNat) 8, J, h.2.2.2))) rfl ?_
                              refine hk_geti (v := ct) rfl (hH.1 118 (17, 105) rfl) rfl (show (qm_up I 121 (ct.toInt.toNat) 8) 118 10 = _ from ((hk_ot rfl).trans q_ct)) ?_
                              refine qm_Ru.go 1 (c' := (19, [.ref 118, .int 8, .int pos, .int 0, .long 0, .float 0], [.int pos, .int ct, .ref 122], (h.1, qm_up I 121 (ct.toInt.toNat) 8, J, h.2.2.2))) rfl ?_
                              refine hk_ias rfl (hH.1 122 (0, 403) rfl) (by omega) (by omega) ?_
                              refine qm_Ru.go 1 (c' := (21, [.ref 118, .int 8, .int pos, .int 0, .long 0, .float 0], [.ref 118], (h.1, qm_up (qm_up I 121 (ct.toInt.toNat) 8) 122 (ct.toInt.toNat) pos, J, h.2.2.2))) rfl ?_
                              refine hk_getr rfl (hH.1 118 (17, 105) rfl) rfl (hH.2 118 7 (some 123) rfl) ?_
                              refine qm_Ru.go 1 (c' := (25, [.ref 118, .int 8, .int pos, .int 0, .long 0, .float 0], [.ref 118, .ref 123], (h.1, qm_up (qm_up I 121 (ct.toInt.toNat) 8) 122 (ct.toInt.toNat) pos, J, h.2.2.2))) rfl ?_
                              refine hk_geti (v := ct) rfl (hH.1 118 (17, 105) rfl) rfl (show (qm_up (qm_up I 121 (ct.toInt.toNat) 8) 122 (ct.toInt.toNat) pos) 118 10 = _ from ((hk_ot rfl).trans ((hk_ot rfl).trans q_ct))) ?_
                              refine qm_Ru.go 1 (c' := (29, [.ref 118, .int 8, .int pos, .int 0, .long 0, .float 0], [.int 0, .int ct, .ref 123], (h.1, qm_up (qm_up I 121 (ct.toInt.toNat) 8) 122 (ct.toInt.toNat) pos, J, h.2.2.2))) rfl ?_
                              refine hk_ias rfl (hH.1 123 (0, 403) rfl) (by omega) (by omega) ?_
                              refine qm_Ru.go 1 (c' := (31, [.ref 118, .int 8, .int pos, .int 0, .long 0, .float 0], [.ref 118], (h.1, qm_up (qm_up (qm_up I 121 (ct.toInt.toNat) 8) 122 (ct.toInt.toNat) pos) 123 (ct.toInt.toNat) 0, J, h.2.2.2))) rfl ?_
                              refine hk_getr rfl (hH.1 118 (17, 105) rfl) rfl (hH.2 118 8 (some 124) rfl) ?_
                              refine qm_Ru.go 1 (c' := (35, [.ref 118, .int 8, .int pos, .int 0, .long 0, .float 0], [.ref 118, .ref 124], (h.1, qm_up (qm_up (qm_up I 121 (ct.toInt.toNat) 8) 122 (ct.toInt.toNat) pos) 123 (ct.toInt.toNat) 0, J, h.2.2.2))) rfl ?_
                              refine hk_geti (v := ct) rfl (hH.1 118 (17, 105) rfl) rfl (show (qm_up (qm_up (qm_up I 121 (ct.toInt.toNat) 8) 122 (ct.toInt.toNat) pos) 123 (ct.toInt.toNat) 0) 118 10 = _ from ((hk_ot rfl).trans ((hk_ot rfl).trans ((hk_ot rfl).trans q_ct)))) ?_
                              refine qm_Ru.go 1 (c' := (40, [.ref 118, .int 8, .int pos, .int 0, .long 0, .float 0], [.long 0, .int ct, .ref 124], (h.1, qm_up (qm_up (qm_up I 121 (ct.toInt.toNat) 8) 122 (ct.toInt.toNat) pos) 123 (ct.toInt.toNat) 0, J, h.2.2.2))) rfl ?_
                              refine hk_las rfl (hH.1 124 (3, 403) rfl) (by omega) (by omega) ?_
                              refine qm_Ru.go 2 (c' := (43, [.ref 118, .int 8, .int pos, .int 0, .long 0, .float 0], [.ref 118, .ref 118], (h.1, qm_up (qm_up (qm_up I 121 (ct.toInt.toNat) 8) 122 (ct.toInt.toNat) pos) 123 (ct.toInt.toNat) 0, qm_up J 124 (ct.toInt.toNat) 0, h.2.2.2))) rfl ?_
                              refine hk_geti (v := ct) rfl (hH.1 118 (17, 105) rfl) rfl (show (qm_up (qm_up (qm_up I 121 (ct.toInt.toNat) 8) 122 (ct.toInt.toNat) pos) 123 (ct.toInt.toNat) 0) 118 10 = _ from ((hk_ot rfl).trans ((hk_ot rfl).trans ((hk_ot rfl).trans q_ct)))) ?_
                              refine qm_Ru.go 2 (c' := (48, [.ref 118, .int 8, .int pos, .int 0, .long 0, .float 0], [.int (ct + 1), .ref 118], (h.1, qm_up (qm_up (qm_up I 121 (ct.toInt.toNat) 8) 122 (ct.toInt.toNat) pos) 123 (ct.toInt.toNat) 0, qm_up J 124 (ct.toInt.toNat) 0, h.2.2.2))) rfl ?_
                              obtain ⟨v43, q_v43, e_v43⟩ := hk_add (x := ct) (y := 1) (a := ct.toInt) (b := 1) rfl rfl (by omega) (by omega)
                              rw [q_v43]
                              refine hk_puti rfl (hH.1 118 (17, 105) rfl) rfl ?_
                              refine qm_Ru.go 0 (c' := (51, [.ref 118, .int 8, .int pos, .int 0, .long 0, .float 0], [], (h.1, qm_up (qm_up (qm_up (qm_up I 121 (ct.toInt.toNat) 8) 122 (ct.toInt.toNat) pos) 123 (ct.toInt.toNat) 0) 118 10 v43, qm_up J 124 (ct.toInt.toNat) 0, h.2.2.2))) rfl ?_
                              refine qm_Ru.rt (v := none) (h' := (h.1, qm_up (qm_up (qm_up (qm_up I 121 (ct.toInt.toNat) 8) 122 (ct.toInt.toNat) pos) 123 (ct.toInt.toNat) 0) 118 10 v43, qm_up J 124 (ct.toInt.toNat) 0, h.2.2.2)) rfl ?_
                              refine qm_Ru.go 3 (c' := (167, [.ref 118, .int pos, .int v17, .int 0, .int 0, .int 8], [.int 1], (h.1, qm_up (qm_up (qm_up (qm_up I 121 (ct.toInt.toNat) 8) 122 (ct.toInt.toNat) pos) 123 (ct.toInt.toNat) 0) 118 10 v43, qm_up J 124 (ct.toInt.toNat) 0, h.2.2.2))) rfl ?_
                              refine qm_Ru.rt (v := (some (.int 1))) (h' := (h.1, qm_up (qm_up (qm_up (qm_up I 121 (ct.toInt.toNat) 8) 122 (ct.toInt.toNat) pos) 123 (ct.toInt.toNat) 0) 118 10 v43, qm_up J 124 (ct.toInt.toNat) 0, h.2.2.2)) rfl ?_
                              refine qm_Ru.go 1 (c' := (290, [.ref 118, .int pos, .int v17, l3, l4, l5, l6, l7], [.int (pos + 1)], (h.1, qm_up (qm_up (qm_up (qm_up I 121 (ct.toInt.toNat) 8) 122 (ct.toInt.toNat) pos) 123 (ct.toInt.toNat) 0) 118 10 v43, qm_up J 124 (ct.toInt.toNat) 0, h.2.2.2))) rfl ?_
                              rw [q_v28]
                              refine qm_Ru.go 2 (c' := (7, [.ref 118, .int v28, .int v17, l3, l4, l5, l6, l7], [], (h.1, qm_up (qm_up (qm_up (qm_up I 121 (ct.toInt.toNat) 8) 122 (ct.toInt.toNat) pos) 123 (ct.toInt.toNat) 0) 118 10 v43, qm_up J 124 (ct.toInt.toNat) 0, h.2.2.2))) rfl ?_
                              exact ih (m - 1) (by omega) (qm_up (qm_up (qm_up (qm_up I 121 (ct.toInt.toNat) 8) 122 (ct.toInt.toNat) pos) 123 (ct.toInt.toNat) 0) 118 10 v43) (qm_up J 124 (ct.toInt.toNat) 0) v43 v28 (hb_up (o := 118) (k := 10) (x := v43) (hb_up (o := 123) (k := ct.toInt.toNat) (x := 0) (hb_up (o := 122) (k := ct.toInt.toNat) (x := pos) (hb_up (o := 121) (k := ct.toInt.toNat) (x := 8) hBI ⟨(show (0 : Int) ≤ 8 from by decide), (show (8 : Int) ≤ 44 from by decide)⟩) (qa_in_full _)) (qa_in_full _)) ⟨by show (0 : Int) ≤ v43.toInt; omega, by show v43.toInt ≤ (401 : Int); omega⟩) (fun o ho i => ((hk_mod ho rfl).trans ((hk_mod ho rfl).trans ((hk_mod ho rfl).trans ((hk_mod ho rfl).trans ((e o (hk_ms rfl ho) i).trans rfl)))))) (fun i hi => ((hk_neq (fun z => by subst z; cases hi)).trans ((hk_ot rfl).trans ((hk_ot rfl).trans ((hk_ot rfl).trans ((e8 i (hk_ms rfl hi)).trans rfl)))))) (show (qm_up (qm_up (qm_up (qm_up I 121 (ct.toInt.toNat) 8) 122 (ct.toInt.toNat) pos) 123 (ct.toInt.toNat) 0) 118 10 v43) 118 10 = _ from (hk_same)) (by omega) (by omega) (by omega) (.int v17) l3 l4 l5 l6 l7
                          · refine qm_Ru.go 8 (c' := (154, [.ref 118, .int pos, .int v17, .int 0, .int 0, .int 7], [.long 0, .int 0, .int pos, .int 7, .ref 118], (h.1, I, J, h.2.2.2))) rfl ?_
                            refine hk_inv (o := 118) (r := []) (as := [.ref 118, .int 7, .int pos, .int 0, .long 0]) rfl rfl (hH.1 118 (17, 105) rfl) rfl rfl rfl rfl ?_
                            refine qm_Ru.go 1 (c' := (1, [.ref 118, .int 7, .int pos, .int 0, .long 0, .float 0], [.ref 118], (h.1, I, J, h.2.2.2))) rfl ?_
                            refine hk_getr rfl (hH.1 118 (17, 105) rfl) rfl (hH.2 118 5 (some 121) rfl) ?_
                            refine qm_Ru.go 1 (c' := (5, [.ref 118, .int 7, .int pos, .int 0, .long 0, .float 0], [.ref 118, .ref 121], (h.1, I, J, h.2.2.2))) rfl ?_
                            refine hk_geti (v := ct) rfl (hH.1 118 (17, 105) rfl) rfl q_ct ?_
                            refine qm_Ru.go 1 (c' := (9, [.ref 118, .int 7, .int pos, .int 0, .long 0, .float 0], [.int 7, .int ct, .ref 121], (h.1, I, J, h.2.2.2))) rfl ?_
                            refine hk_ias rfl (hH.1 121 (0, 403) rfl) (by omega) (by omega) ?_
                            refine qm_Ru.go 1 (c' := (11, [.ref 118, .int 7, .int pos, .int 0, .long 0, .float 0], [.ref 118], (h.1, qm_up I 121 (ct.toInt.toNat) 7, J, h.2.2.2))) rfl ?_
                            refine hk_getr rfl (hH.1 118 (17, 105) rfl) rfl (hH.2 118 6 (some 122) rfl) ?_
                            refine qm_Ru.go 1 (c' := (15, [.ref 118, .int 7, .int pos, .int 0, .long 0, .float 0], [.ref 118, .ref 122], (h.1, qm_up I 121 (ct.toInt.toNat) 7, J, h.2.2.2))) rfl ?_
                            refine hk_geti (v := ct) rfl (hH.1 118 (17, 105) rfl) rfl (show (qm_up I 121 (ct.toInt.toNat) 7) 118 10 = _ from ((hk_ot rfl).trans q_ct)) ?_
                            refine qm_Ru.go 1 (c' := (19, [.ref 118, .int 7, .int pos, .int 0, .long 0, .float 0], [.int pos, .int ct, .ref 122], (h.1, qm_up I 121 (ct.toInt.toNat) 7, J, h.2.2.2))) rfl ?_
                            refine hk_ias rfl (hH.1 122 (0, 403) rfl) (by omega) (by omega) ?_
                            refine qm_Ru.go 1 (c' := (21, [.ref 118, .int 7, .int pos, .int 0, .long 0, .float 0], [.ref 118], (h.1, qm_up (qm_up I 121 (ct.toInt.toNat) 7) 122 (ct.toInt.toNat) pos, J, h.2.2.2))) rfl ?_
                            refine hk_getr rfl (hH.1 118 (17, 105) rfl) rfl (hH.2 118 7 (some 123) rfl) ?_
                            refine qm_Ru.go 1 (c' := (25, [.ref 118, .int 7, .int pos, .int 0, .long 0, .float 0], [.ref 118, .ref 123], (h.1, qm_up (qm_up I 121 (ct.toInt.toNat) 7) 122 (ct.toInt.toNat) pos, J, h.2.2.2))) rfl ?_
                            refine hk_geti (v := ct) rfl (hH.1 118 (17, 105) rfl) rfl (show (qm_up (qm_up I 121 (ct.toInt.toNat) 7) 122 (ct.toInt.toNat) pos) 118 10 = _ from ((hk_ot rfl).trans ((hk_ot rfl).trans q_ct))) ?_
                            refine qm_Ru.go 1 (c' := (29, [.ref 118, .int 7, .int pos, .int 0, .long 0, .float 0], [.int 0, .int ct, .ref 123], (h.1, qm_up (qm_up I 121 (ct.toInt.toNat) 7) 122 (ct.toInt.toNat) pos, J, h.2.2.2))) rfl ?_
                            refine hk_ias rfl (hH.1 123 (0, 403) rfl) (by omega) (by omega) ?_
                            refine qm_Ru.go 1 (c' := (31, [.ref 118, .int 7, .int pos, .int 0, .long 0, .float 0], [.ref 118], (h.1, qm_up (qm_up (qm_up I 121 (ct.toInt.toNat) 7) 122 (ct.toInt.toNat) pos) 123 (ct.toInt.toNat) 0, J, h.2.2.2))) rfl ?_
                            refine hk_getr rfl (hH.1 118 (17, 105) rfl) rfl (hH.2 118 8 (some 124) rfl) ?_
                            refine qm_Ru.go 1 (c' := (35, [.ref 118, .int 7, .int pos, .int 0, .long 0, .float 0], [.ref 118, .ref 124], (h.1, qm_up (qm_up (qm_up I 121 (ct.toInt.toNat) 7) 122 (ct.toInt.toNat) pos) 123 (ct.toInt.toNat) 0, J, h.2.2.2))) rfl ?_
                            refine hk_geti (v := ct) rfl (hH.1 118 (17, 105) rfl) rfl (show (qm_up (qm_up (qm_up I 121 (ct.toInt.toNat) 7) 122 (ct.toInt.toNat) pos) 123 (ct.toInt.toNat) 0) 118 10 = _ from ((hk_ot rfl).trans ((hk_ot rfl).trans ((hk_ot rfl).trans q_ct)))) ?_
                            refine qm_Ru.go 1 (c' := (40, [.ref 118, .int 7, .int pos, .int 0, .long 0, .float 0], [.long 0, .int ct, .ref 124], (h.1, qm_up (qm_up (qm_up I 121 (ct.toInt.toNat) 7) 122 (ct.toInt.toNat) pos) 123 (ct.toInt.toNat) 0, J, h.2.2.2))) rfl ?_
                            refine hk_las rfl (hH.1 124 (3, 403) rfl) (by omega) (by omega) ?_
                            refine qm_Ru.go 2 (c' := (43, [.ref 118, .int 7, .int pos, .int 0, .long 0, .float 0], [.ref 118, .ref 118], (h.1, qm_up (qm_up (qm_up I 121 (ct.toInt.toNat) 7) 122 (ct.toInt.toNat) pos) 123 (ct.toInt.toNat) 0, qm_up J 124 (ct.toInt.toNat) 0, h.2.2.2))) rfl ?_
                            refine hk_geti (v := ct) rfl (hH.1 118 (17, 105) rfl) rfl (show (qm_up (qm_up (qm_up I 121 (ct.toInt.toNat) 7) 122 (ct.toInt.toNat) pos) 123 (ct.toInt.toNat) 0) 118 10 = _ from ((hk_ot rfl).trans ((hk_ot rfl).trans ((hk_ot rfl).trans q_ct)))) ?_
                            refine qm_Ru.go 2 (c' := (48, [.ref 118, .int 7, .int pos, .int 0, .long 0, .float 0], [.int (ct + 1), .ref 118], (h.1, qm_up (qm_up (qm_up I 121 (ct.toInt.toNat) 7) 122 (ct.toInt.toNat) pos) 123 (ct.toInt.toNat) 0, qm_up J 124 (ct.toInt.toNat) 0, h.2.2.2))) rfl ?_
                            obtain ⟨v45, q_v45, e_v45⟩ := hk_add (x := ct) (y := 1) (a := ct.toInt) (b := 1) rfl rfl (by omega) (by omega)
                            rw [q_v45]
                            refine hk_puti rfl (hH.1 118 (17, 105) rfl) rfl ?_
                            refine qm_Ru.go 0 (c' := (51, [.ref 118, .int 7, .int pos, .int 0, .long 0, .float 0], [], (h.1, qm_up (qm_up (qm_up (qm_up I 121 (ct.toInt.toNat) 7) 122 (ct.toInt.toNat) pos) 123 (ct.toInt.toNat) 0) 118 10 v45, qm_up J 124 (ct.toInt.toNat) 0, h.2.2.2))) rfl ?_
                            refine qm_Ru.rt (v := none) (h' := (h.1, qm_up (qm_up (qm_up (qm_up I 121 (ct.toInt.toNat) 7) 122 (ct.toInt.toNat) pos) 123 (ct.toInt.toNat) 0) 118 10 v45, qm_up J 124 (ct.toInt.toNat) 0, h.2.2.2)) rfl ?_
                            refine qm_Ru.go 3 (c' := (167, [.ref 118, .int pos, .int v17, .int 0, .int 0, .int 7], [.int 1], (h.1, qm_up (qm_up (qm_up (qm_up I 121 (ct.toInt.toNat) 7) 122 (ct.toInt.toNat) pos) 123 (ct.toInt.toNat) 0) 118 10 v45, qm_up J 124 (ct.toInt.toNat) 0, h.2.2.2))) rfl ?_
                            refine qm_Ru.rt (v := (some (.int 1))) (h' := (h.1, qm_up (qm_up (qm_up (qm_up I 121 (ct.toInt.toNat) 7) 122 (ct.toInt.toNat) pos) 123 (ct.toInt.toNat) 0) 118 10 v45, qm_up J 124 (ct.toInt.toNat) 0, h.2.2.2)) rfl ?_
                            refine qm_Ru.go 1 (c' := (290, [.ref 118, .int pos, .int v17, l3, l4, l5, l6, l7], [.int (pos + 1)], (h.1, qm_up (qm_up (qm_up (qm_up I 121 (ct.toInt.toNat) 7) 122 (ct.toInt.toNat) pos) 123 (ct.toInt.toNat) 0) 118 10 v45, qm_up J 124 (ct.toInt.toNat) 0, h.2.2.2))) rfl ?_
                            rw [q_v28]
                            refine qm_Ru.go 2 (c' := (7, [.ref 118, .int v28, .int v17, l3, l4, l5, l6, l7], [], (h.1, qm_up (qm_up (qm_up (qm_up I 121 (ct.toInt.toNat) 7) 122 (ct.toInt.toNat) pos) 123 (ct.toInt.toNat) 0) 118 10 v45, qm_up J 124 (ct.toInt.toNat) 0, h.2.2.2))) rfl ?_
                            exact ih (m - 1) (by omega) (qm_up (qm_up (qm_up (qm_up I 121 (ct.toInt.toNat) 7) 122 (ct.toInt.toNat) pos) 123 (ct.toInt.toNat) 0) 118 10 v45) (qm_up J 124 (ct.toInt.toNat) 0) v45 v28 (hb_up (o := 118) (k := 10) (x := v45) (hb_up (o := 123) (k := ct.toInt.toNat) (x := 0) (hb_up (o := 122) (k := ct.toInt.toNat) (x := pos) (hb_up (o := 121) (k := ct.toInt.toNat) (x := 7) hBI ⟨(show (0 : Int) ≤ 7 from by decide), (show (7 : Int) ≤ 44 from by decide)⟩) (qa_in_full _)) (qa_in_full _)) ⟨by show (0 : Int) ≤ v45.toInt; omega, by show v45.toInt ≤ (401 : Int); omega⟩) (fun o ho i => ((hk_mod ho rfl).trans ((hk_mod ho rfl).trans ((hk_mod ho rfl).trans ((hk_mod ho rfl).trans ((e o (hk_ms rfl ho) i).trans rfl)))))) (fun i hi => ((hk_neq (fun z => by subst z; cases hi)).trans ((hk_ot rfl).trans ((hk_ot rfl).trans ((hk_ot rfl).trans ((e8 i (hk_ms rfl hi)).trans rfl)))))) (show (qm_up (qm_up (qm_up (qm_up I 121 (ct.toInt.toNat) 7) 122 (ct.toInt.toNat) pos) 123 (ct.toInt.toNat) 0) 118 10 v45) 118 10 = _ from (hk_same)) (by omega) (by omega) (by omega) (.int v17) l3 l4 l5 l6 l7
                        · refine qm_Ru.go 8 (c' := (154, [.ref 118, .int pos, .int v17, .int 0, .int 0, .int 6], [.long 0, .int 0, .int pos, .int 6, .ref 118], (h.1, I, J, h.2.2.2))) rfl ?_
                          refine hk_inv (o := 118) (r := []) (as := [.ref 118, .int 6, .int pos, .int 0, .long 0]) rfl rfl (hH.1 118 (17, 105) rfl) rfl rfl rfl rfl ?_
                          refine qm_Ru.go 1 (c' := (1, [.ref 118, .int 6, .int pos, .int 0, .long 0, .float 0], [.ref 118], (h.1, I, J, h.2.2.2))) rfl ?_
                          refine hk_getr rfl (hH.1 118 (17, 105) rfl) rfl (hH.2 118 5 (some 121) rfl) ?_
                          refine qm_Ru.go 1 (c' := (5, [.ref 118, .int 6, .int pos, .int 0, .long 0, .float 0], [.ref 118, .ref 121], (h.1, I, J, h.2.2.2))) rfl ?_
                          refine hk_geti (v := ct) rfl (hH.1 118 (17, 105) rfl) rfl q_ct ?_
                          refine qm_Ru.go 1 (c' := (9, [.ref 118, .int 6, .int pos, .int 0, .long 0, .float 0], [.int 6, .int ct, .ref 121], (h.1, I, J, h.2.2.2))) rfl ?_
                          refine hk_ias rfl (hH.1 121 (0, 403) rfl) (by omega) (by omega) ?_
                          refine qm_Ru.go 1 (c' := (11, [.ref 118, .int 6, .int pos, .int 0, .long 0, .float 0], [.ref 118], (h.1, qm_up I 121 (ct.toInt.toNat) 6, J, h.2.2.2))) rfl ?_
                          refine hk_getr rfl (hH.1 118 (17, 105) rfl) rfl (hH.2 118 6 (some 122) rfl) ?_
                          refine qm_Ru.go 1 (c' := (15, [.ref 118, .int 6, .int pos, .int 0, .long 0, .float 0], [.ref 118, .ref 122], (h.1, qm_up I 121 (ct.toInt.toNat) 6, J, h.2.2.2))) rfl ?_
                          refine hk_geti (v := ct) rfl (hH.1 118 (17, 105) rfl) rfl (show (qm_up I 121 (ct.toInt.toNat) 6) 118 10 = _ from ((hk_ot rfl).trans q_ct)) ?_
                          refine qm_Ru.go 1 (c' := (19, [.ref 118, .int 6, .int pos, .int 0, .long 0, .float 0], [.int pos, .int ct, .ref 122], (h.1, qm_up I 121 (ct.toInt.toNat) 6, J, h.2.2.2))) rfl ?_
                          refine hk_ias rfl (hH.1 122 (0, 403) rfl) (by omega) (by omega) ?_
                          refine qm_Ru.go 1 (c' := (21, [.ref 118, .int 6, .int pos, .int 0, .long 0, .float 0], [.ref 118], (h.1, qm_up (qm_up I 121 (ct.toInt.toNat) 6) 122 (ct.toInt.toNat) pos, J, h.2.2.2))) rfl ?_
                          refine hk_getr rfl (hH.1 118 (17, 105) rfl) rfl (hH.2 118 7 (some 123) rfl) ?_
                          refine qm_Ru.go 1 (c' := (25, [.ref 118, .int 6, .int pos, .int 0, .long 0, .float 0], [.ref 118, .ref 123], (h.1, qm_up (qm_up I 121 (ct.toInt.toNat) 6) 122 (ct.toInt.toNat) pos, J, h.2.2.2))) rfl ?_
                          refine hk_geti (v := ct) rfl (hH.1 118 (17, 105) rfl) rfl (show (qm_up (qm_up I 121 (ct.toInt.toNat) 6) 122 (ct.toInt.toNat) pos) 118 10 = _ from ((hk_ot rfl).trans ((hk_ot rfl).trans q_ct))) ?_
                          refine qm_Ru.go 1 (c' := (29, [.ref 118, .int 6, .int pos, .int 0, .long 0, .float 0], [.int 0, .int ct, .ref 123], (h.1, qm_up (qm_up I 121 (ct.toInt.toNat) 6) 122 (ct.toInt.toNat) pos, J, h.2.2.2))) rfl ?_
                          refine hk_ias rfl (hH.1 123 (0, 403) rfl) (by omega) (by omega) ?_
                          refine qm_Ru.go 1 (c' := (31, [.ref 118, .int 6, .int pos, .int 0, .long 0, .float 0], [.ref 118], (h.1, qm_up (qm_up (qm_up I 121 (ct.toInt.toNat) 6) 122 (ct.toInt.toNat) pos) 123 (ct.toInt.toNat) 0, J, h.2.2.2))) rfl ?_
                          refine hk_getr rfl (hH.1 118 (17, 105) rfl) rfl (hH.2 118 8 (some 124) rfl) ?_
                          refine qm_Ru.go 1 (c' := (35, [.ref 118, .int 6, .int pos, .int 0, .long 0, .float 0], [.ref 118, .ref 124], (h.1, qm_up (qm_up (qm_up I 121 (ct.toInt.toNat) 6) 122 (ct.toInt.toNat) pos) 123 (ct.toInt.toNat) 0, J, h.2.2.2))) rfl ?_
                          refine hk_geti (v := ct) rfl (hH.1 118 (17, 105) rfl) rfl (show (qm_up (qm_up (qm_up I 121 (ct.toInt.toNat) 6) 122 (ct.toInt.toNat) pos) 123 (ct.toInt.toNat) 0) 118 10 = _ from ((hk_ot rfl).trans ((hk_ot rfl).trans ((hk_ot rfl).trans q_ct)))) ?_
                          refine qm_Ru.go 1 (c' := (40, [.ref 118, .int 6, .int pos, .int 0, .long 0, .float 0], [.long 0, .int ct, .ref 124], (h.1, qm_up (qm_up (qm_up I 121 (ct.toInt.toNat) 6) 122 (ct.toInt.toNat) pos) 123 (ct.toInt.toNat) 0, J, h.2.2.2))) rfl ?_
                          refine hk_las rfl (hH.1 124 (3, 403) rfl) (by omega) (by omega) ?_
                          refine qm_Ru.go 2 (c' := (43, [.ref 118, .int 6, .int pos, .int 0, .long 0, .float 0], [.ref 118, .ref 118], (h.1, qm_up (qm_up (qm_up I 121 (ct.toInt.toNat) 6) 122 (ct.toInt.toNat) pos) 123 (ct.toInt.toNat) 0, qm_up J 124 (ct.toInt.toNat) 0, h.2.2.2))) rfl ?_
                          refine hk_geti (v := ct) rfl (hH.1 118 (17, 105) rfl) rfl (show (qm_up (qm_up (qm_up I 121 (ct.toInt.toNat) 6) 122 (ct.toInt.toNat) pos) 123 (ct.toInt.toNat) 0) 118 10 = _ from ((hk_ot rfl).trans ((hk_ot rfl).trans ((hk_ot rfl).trans q_ct)))) ?_
                          refine qm_Ru.go 2 (c' := (48, [.ref 118, .int 6, .int pos, .int 0, .long 0, .float 0], [.int (ct + 1), .ref 118], (h.1, qm_up (qm_up (qm_up I 121 (ct.toInt.toNat) 6) 122 (ct.toInt.toNat) pos) 123 (ct.toInt.toNat) 0, qm_up J 124 (ct.toInt.toNat) 0, h.2.2.2))) rfl ?_
                          obtain ⟨v47, q_v47, e_v47⟩ := hk_add (x := ct) (y := 1) (a := ct.toInt) (b := 1) rfl rfl (by omega) (by omega)
                          rw [q_v47]
                          refine hk_puti rfl (hH.1 118 (17, 105) rfl) rfl ?_
                          refine qm_Ru.go 0 (c' := (51, [.ref 118, .int 6, .int pos, .int 0, .long 0, .float 0], [], (h.1, qm_up (qm_up (qm_up (qm_up I 121 (ct.toInt.toNat) 6) 122 (ct.toInt.toNat) pos) 123 (ct.toInt.toNat) 0) 118 10 v47, qm_up J 124 (ct.toInt.toNat) 0, h.2.2.2))) rfl ?_
                          refine qm_Ru.rt (v := none) (h' := (h.1, qm_up (qm_up (qm_up (qm_up I 121 (ct.toInt.toNat) 6) 122 (ct.toInt.toNat) pos) 123 (ct.toInt.toNat) 0) 118 10 v47, qm_up J 124 (ct.toInt.toNat) 0, h.2.2.2)) rfl ?_
                          refine qm_Ru.go 3 (c' := (167, [.ref 118, .int pos, .int v17, .int 0, .int 0, .int 6], [.int 1], (h.1, qm_up (qm_up (qm_up (qm_up I 121 (ct.toInt.toNat) 6) 122 (ct.toInt.toNat) pos) 123 (ct.toInt.toNat) 0) 118 10 v47, qm_up J 124 (ct.toInt.toNat) 0, h.2.2.2))) rfl ?_
                          refine qm_Ru.rt (v := (some (.int 1))) (h' := (h.1, qm_up (qm_up (qm_up (qm_up I 121 (ct.toInt.toNat) 6) 122 (ct.toInt.toNat) pos) 123 (ct.toInt.toNat) 0) 118 10 v47, qm_up J 124 (ct.toInt.toNat) 0, h.2.2.2)) rfl ?_
                          refine qm_Ru.go 1 (c' := (290, [.ref 118, .int pos, .int v17, l3, l4, l5, l6, l7], [.int (pos + 1)], (h.1, qm_up (qm_up (qm_up (qm_up I 121 (ct.toInt.toNat) 6) 122 (ct.toInt.toNat) pos) 123 (ct.toInt.toNat) 0) 118 10 v47, qm_up J 124 (ct.toInt.toNat) 0, h.2.2.2))) rfl ?_
                          rw [q_v28]
                          refine qm_Ru.go 2 (c' := (7, [.ref 118, .int v28, .int v17, l3, l4, l5, l6, l7], [], (h.1, qm_up (qm_up (qm_up (qm_up I 121 (ct.toInt.toNat) 6) 122 (ct.toInt.toNat) pos) 123 (ct.toInt.toNat) 0) 118 10 v47, qm_up J 124 (ct.toInt.toNat) 0, h.2.2.2))) rfl ?_
                          exact ih (m - 1) (by omega) (qm_up (qm_up (qm_up (qm_up I 121 (ct.toInt.toNat) 6) 122 (ct.toInt.toNat) pos) 123 (ct.toInt.toNat) 0) 118 10 v47) (qm_up J 124 (ct.toInt.toNat) 0) v47 v28 (hb_up (o := 118) (k := 10) (x := v47) (hb_up (o := 123) (k := ct.toInt.toNat) (x := 0) (hb_up (o := 122) (k := ct.toInt.toNat) (x := pos) (hb_up (o := 121) (k := ct.toInt.toNat) (x := 6) hBI ⟨(show (0 : Int) ≤ 6 from by decide), (show (6 : Int) ≤ 44 from by decide)⟩) (qa_in_full _)) (qa_in_full _)) ⟨by show (0 : Int) ≤ v47.toInt; omega, by show v47.toInt ≤ (401 : Int); omega⟩) (fun o ho i => ((hk_mod ho rfl).trans ((hk_mod ho rfl).trans ((hk_mod ho rfl).trans ((hk_mod ho rfl).trans ((e o (hk_ms rfl ho) i).trans rfl)))))) (fun i hi => ((hk_neq (fun z => by subst z; cases hi)).trans ((hk_ot rfl).trans ((hk_ot rfl).trans ((hk_ot rfl).trans ((e8 i (hk_ms rfl hi)).trans rfl)))))) (show (qm_up (qm_up (qm_up (qm_up I 121 (ct.toInt.toNat) 6) 122 (ct.toInt.toNat) pos) 123 (ct.toInt.toNat) 0) 118 10 v47) 118 10 = _ from (hk_same)) (by omega) (by omega) (by omega) (.int v17) l3 l4 l5 l6 l7
                      · refine qm_Ru.go 1 (c' := (9, [.ref 118, .int v28], [.ref 118], (h.1, I, J, h.2.2.2))) rfl ?_
                        refine hk_getr rfl (hH.1 118 (17, 105) rfl) rfl (hH.2 118 3 (some 120) rfl) ?_
                        refine qm_Ru.go 1 (c' := (13, [.ref 118, .int v28], [.int v28, .ref 120], (h.1, I, J, h.2.2.2))) rfl ?_
                        obtain ⟨v49, q_v49⟩ : ∃ v, h.2.1 120 (v28.toInt.toNat) = v := ⟨_, rfl⟩
                        have b_v49 : (-128 : Int) ≤ v49.toInt ∧ v49.toInt ≤ 127 := by rw [← q_v49]; exact hB 120 (v28.toInt.toNat)
                        refine hk_bal (v := v49) rfl (hH.1 120 (1, 2000) rfl) (by decide) (by omega) (by omega) (show (I) 120 (v28.toInt.toNat) = _ from ((e 120 rfl (v28.toInt.toNat)).trans q_v49)) ?_
                        refine qm_Ru.go 2 (c' := (18, [.ref 118, .int v28], [.int (v49 &&& 255)], (h.1, I, J, h.2.2.2))) rfl ?_
                        obtain ⟨v50, q_v50⟩ : ∃ v, (v49 &&& 255) = v := ⟨_, rfl⟩
                        rw [q_v50]
                        refine qm_Ru.go 1 (c' := (22, [.ref 118, .int v28], [.int v50], (h.1, I, J, h.2.2.2))) rfl ?_
                        refine qm_Ru.rt (v := (some (.int v50))) (h' := (h.1, I, J, h.2.2.2)) rfl ?_
                        refine qm_Ru.go 0 (c' := (286, [.ref 118, .int pos, .int v17, l3, l4, l5, l6, l7], [.int v50, .int v17, .int pos, .ref 118, .int pos], (h.1, I, J, h.2.2.2))) rfl ?_
                        refine hk_inv (o := 118) (r := [.int pos]) (as := [.ref 118, .int pos, .int v17, .int v50]) rfl rfl (hH.1 118 (17, 105) rfl) rfl rfl rfl rfl ?_
                        refine qm_Ru.go 2 (c' := (3, [.ref 118, .int pos, .int v17, .int v50, .float 0, .float 0], [.int 61, .int v50], (h.1, I, J, h.2.2.2))) rfl ?_
                        refine hk_ceq (ix := v50.toInt) (iy := 61) rfl rfl rfl (fun z51 => ?_) (fun z51 => ?_)
                        · refine qm_Ru.go 2 (c' := (13, [.ref 118, .int pos, .int v17, .int v50, .float 0, .float 0], [.int 61, .int v17], (h.1, I, J, h.2.2.2))) rfl ?_
                          refine hk_cne (ix := v17.toInt) (iy := 61) rfl rfl rfl (fun z52 => ?_) (fun z52 => by exfalso; omega)
                          refine qm_Ru.go 2 (c' := (24, [.ref 118, .int pos, .int v17, .int v50, .float 0, .float 0], [.int 33, .int v17], (h.1, I, J, h.2.2.2))) rfl ?_
                          refine hk_cne (ix := v17.toInt) (iy := 33) rfl rfl rfl (fun z53 => ?_) (fun z53 => ?_)
                          · refine qm_Ru.go 2 (c' := (35, [.ref 118, .int pos, .int v17, .int v50, .float 0, .float 0], [.int 60, .int v17], (h.1, I, J, h.2.2.2))) rfl ?_
                            refine hk_cne (ix := v17.toInt) (iy := 60) rfl rfl rfl (fun z54 => ?_) (fun z54 => by exfalso; omega)
                            refine qm_Ru.go 8 (c' := (64, [.ref 118, .int pos, .int v17, .int v50, .int 0, .int 3], [.int 59, .int v17], (h.1, I, J, h.2.2.2))) rfl ?_
                            refine hk_cne (ix := v17.toInt) (iy := 59) rfl rfl rfl (fun z55 => ?_) (fun z55 => by exfalso; omega)
                            refine qm_Ru.go 2 (c' := (76, [.ref 118, .int pos, .int v17, .int v50, .int 0, .int 3], [.int 40, .int v17], (h.1, I, J, h.2.2.2))) rfl ?_
                            refine hk_cne (ix := v17.toInt) (iy := 40) rfl rfl rfl (fun z56 => ?_) (fun z56 => ?_)
                            · refine qm_Ru.go 2 (c' := (89, [.ref 118, .int pos, .int v17, .int v50, .int 0, .int 3], [.int 41, .int v17], (h.1, I, J, h.2.2.2))) rfl ?_
                              refine hk_cne (ix := v17.toInt) (iy := 41) rfl rfl rfl (fun z57 => ?_) (fun z57 => ?_)
                              · refine qm_Ru.go 2 (c' := (102, [.ref 118, .int pos, .int v17, .int v50, .int 0, .int 3], [.int 43, .int v17], (h.1, I, J, h.2.2.2))) rfl ?_
                                refine hk_cne (ix := v17.toInt) (iy := 43) rfl rfl rfl (fun z58 => ?_) (fun z58 => ?_)
                                · refine qm_Ru.go 2 (c' := (115, [.ref 118, .int pos, .int v17, .int v50, .int 0, .int 3], [.int 45, .int v17], (h.1, I, J, h.2.2.2))) rfl ?_
                                  refine hk_cne (ix := v17.toInt) (iy := 45) rfl rfl rfl (fun z59 => ?_) (fun z59 => ?_)
                                  · refine qm_Ru.go 2 (c' := (128, [.ref 118, .int pos, .int v17, .int v50, .int 0, .int 3], [.int 42, .int v17], (h.1, I, J, h.2.2.2))) rfl ?_
                                    refine hk_cne (ix := v17.toInt) (iy := 42) rfl rfl rfl (fun z60 => ?_) (fun z60 => ?_)
                                    · refine qm_Ru.go 2 (c' := (141, [.ref 118, .int pos, .int v17, .int v50, .int 0, .int 3], [.int 60, .int v17], (h.1, I, J, h.2.2.2))) rfl ?_
                                      refine hk_cne (ix := v17.toInt) (iy := 60) rfl rfl rfl (fun z61 => ?_) (fun z61 => by exfalso; omega)
                                      refine qm_Ru.go 5 (c' := (154, [.ref 118, .int pos, .int v17, .int v50, .int 0, .int 3], [.long 0, .int 0, .int pos, .int 3, .ref 118], (h.1, I, J, h.2.2.2))) rfl ?_
                                      refine hk_inv (o := 118) (r := []) (as := [.ref 118, .int 3, .int pos, .int 0, .long 0]) rfl rfl (hH.1 118 (17, 105) rfl) rfl rfl rfl rfl ?_
                                      refine qm_Ru.go 1 (c' := (1, [.ref 118, .int 3, .int pos, .int 0, .long 0, .float 0], [.ref 118], (h.1, I, J, h.2.2.2))) rfl ?_
                                      refine hk_getr rfl (hH.1 118 (17, 105) rfl) rfl (hH.2 118 5 (some 121) rfl) ?_
                                      refine qm_Ru.go 1 (c' := (5, [.ref 118, .int 3, .int pos, .int 0, .long 0, .float 0], [.ref 118, .ref 121], (h.1, I, J, h.2.2.2))) rfl ?_
                                      refine hk_geti (v := ct) rfl (hH.1 118 (17, 105) rfl) rfl q_ct ?_
                                      refine qm_Ru.go 1 (c' := (9, [.ref 118, .int 3, .int pos, .int 0, .long 0, .float 0], [.int 3, .int ct, .ref 121], (h.1, I, J, h.2.2.2))) rfl ?_
                                      refine hk_ias rfl (hH.1 121 (0, 403) rfl) (by omega) (by omega) ?_
                                      refine qm_Ru.go 1 (c' := (11, [.ref 118, .int 3, .int pos, .int 0, .long 0, .float 0], [.ref 118], (h.1, qm_up I 121 (ct.toInt.toNat) 3, J, h.2.2.2))) rfl ?_
                                      refine hk_getr rfl (hH.1 118 (17, 105) rfl) rfl (hH.2 118 6 (some 122) rfl) ?_
                                      refine qm_Ru.go 1 (c' := (15, [.ref 118, .int 3, .int pos, .int 0, .long 0, .float 0], [.ref 118, .ref 122], (h.1, qm_up I 121 (ct.toInt.toNat) 3, J, h.2.2.2))) rfl ?_
                                      refine hk_geti (v := ct) rfl (hH.1 118 (17, 105) rfl) rfl (show (qm_up I 121 (ct.toInt.toNat) 3) 118 10 = _ from ((hk_ot rfl).trans q_ct)) ?_
                                      refine qm_Ru.go 1 (c' := (19, [.ref 118, .int 3, .int pos, .int 0, .long 0, .float 0], [.int pos, .int ct, .ref 122], (h.1, qm_up I 121 (ct.toInt.toNat) 3, J, h.2.2.2))) rfl ?_
                                      refine hk_ias rfl (hH.1 122 (0, 403) rfl) (by omega) (by omega) ?_
                                      refine qm_Ru.go 1 (c' := (21, [.ref 118, .int 3, .int pos, .int 0, .long 0, .float 0], [.ref 118], (h.1, qm_up (qm_up I 121 (ct.toInt.toNat) 3) 122 (ct.toInt.toNat) pos, J, h.2.2.2))) rfl ?_
                                      refine hk_getr rfl (hH.1 118 (17, 105) rfl) rfl (hH.2 118 7 (some 123) rfl) ?_
                                      refine qm_Ru.go 1 (c' := (25, [.ref 118, .int 3, .int pos, .int 0, .long 0, .float 0], [.ref 118, .ref 123], (h.1, qm_up (qm_up I 121 (ct.toInt.toNat) 3) 122 (ct.toInt.toNat) pos, J, h.2.2.2))) rfl ?_
                                      refine hk_geti (v := ct) rfl (hH.1 118 (17, 105) rfl) rfl (show (qm_up (qm_up I 121 (ct.toInt.toNat) 3) 122 (ct.toInt.toNat) pos) 118 10 = _ from ((hk_ot rfl).trans ((hk_ot rfl).trans q_ct))) ?_
                                      refine qm_Ru.go 1 (c' := (29, [.ref 118, .int 3, .int pos, .int 0, .long 0, .float 0], [.int 0, .int ct, .ref 123], (h.1, qm_up (qm_up I 121 (ct.toInt.toNat) 3) 122 (ct.toInt.toNat) pos, J, h.2.2.2))) rfl ?_
                                      refine hk_ias rfl (hH.1 123 (0, 403) rfl) (by omega) (by omega) ?_
                                      refine qm_Ru.go 1 (c' := (31, [.ref 118, .int 3, .int pos, .int 0, .long 0, .float 0], [.ref 118], (h.1, qm_up (qm_up (qm_up I 121 (ct.toInt.toNat) 3) 122 (ct.toInt.toNat) pos) 123 (ct.toInt.toNat) 0, J, h.2.2.2))) rfl ?_
                                      refine hk_getr rfl (hH.1 118 (17, 105) rfl) rfl (hH.2 118 8 (some 124) rfl) ?_
                                      refine qm_Ru.go 1 (c' := (35, [.ref 118, .int 3, .int pos, .int 0, .long 0, .float 0], [.ref 118, .ref 124], (h.1, qm_up (qm_up (qm_up I 121 (ct.toInt.toNat) 3) 122 (ct.toInt.toNat) pos) 123 (ct.toInt.toNat) 0, J, h.2.2.2))) rfl ?_
                                      refine hk_geti (v := ct) rfl (hH.1 118 (17, 105) rfl) rfl (show (qm_up (qm_up (qm_up I 121 (ct.toInt.toNat) 3) 122 (ct.toInt.toNat) pos) 123 (ct.toInt.toNat) 0) 118 10 = _ from ((hk_ot rfl).trans ((hk_ot rfl).trans ((hk_ot rfl).trans q_ct)))) ?_
                                      refine qm_Ru.go 1 (c' := (40, [.ref 118, .int 3, .int pos, .int 0, .long 0, .float 0], [.long 0, .int ct, .ref 124], (h.1, qm_up (qm_up (qm_up I 121 (ct.toInt.toNat) 3) 122 (ct.toInt.toNat) pos) 123 (ct.toInt.toNat) 0, J, h.2.2.2))) rfl ?_
                                      refine hk_las rfl (hH.1 124 (3, 403) rfl) (by omega) (by omega) ?_
                                      refine qm_Ru.go 2 (c' := (43, [.ref 118, .int 3, .int pos, .int 0, .long 0, .float 0], [.ref 118, .ref 118], (h.1, qm_up (qm_up (qm_up I 121 (ct.toInt.toNat) 3) 122 (ct.toInt.toNat) pos) 123 (ct.toInt.toNat) 0, qm_up J 124 (ct.toInt.toNat) 0, h.2.2.2))) rfl ?_
                                      refine hk_geti (v := ct) rfl (hH.1 118 (17, 105) rfl) rfl (show (qm_up (qm_up (qm_up I 121 (ct.toInt.toNat) 3) 122 (ct.toInt.toNat) pos) 123 (ct.toInt.toNat) 0) 118 10 = _ from ((hk_ot rfl).trans ((hk_ot rfl).trans ((hk_ot rfl).trans q_ct)))) ?_
                                      refine qm_Ru.go 2 (c' := (48, [.ref 118, .int 3, .int pos, .int 0, .long 0, .float 0], [.int (ct + 1), .ref 118], (h.1, qm_up (qm_up (qm_up I 121 (ct.toInt.toNat) 3) 122 (ct.toInt.toNat) pos) 123 (ct.toInt.toNat) 0, qm_up J 124 (ct.toInt.toNat) 0, h.2.2.2))) rfl ?_
                                      obtain ⟨v62, q_v62, e_v62⟩ := hk_add (x := ct) (y := 1) (a := ct.toInt) (b := 1) rfl rfl (by omega) (by omega)
                                      rw [q_v62]
                                      refine hk_puti rfl (hH.1 118 (17, 105) rfl) rfl ?_
                                      refine qm_Ru.go 0 (c' := (51, [.ref 118, .int 3, .int pos, .int 0, .long 0, .float 0], [], (h.1, qm_up (qm_up (qm_up (qm_up I 121 (ct.toInt.toNat) 3) 122 (ct.toInt.toNat) pos) 123 (ct.toInt.toNat) 0) 118 10 v62, qm_up J 124 (ct.toInt.toNat) 0, h.2.2.2))) rfl ?_
                                      refine qm_Ru.rt (v := none) (h' := (h.1, qm_up (qm_up (qm_up (qm_up I 121 (ct.toInt.toNat) 3) 122 (ct.toInt.toNat) pos) 123 (ct.toInt.toNat) 0) 118 10 v62, qm_up J 124 (ct.toInt.toNat) 0, h.2.2.2)) rfl ?_
                                      refine qm_Ru.go 3 (c' := (167, [.ref 118, .int pos, .int v17, .int v50, .int 0, .int 3], [.int 1], (h.1, qm_up (qm_up (qm_up (qm_up I 121 (ct.toInt.toNat) 3) 122 (ct.toInt.toNat) pos) 123 (ct.toInt.toNat) 0) 118 10 v62, qm_up J 124 (ct.toInt.toNat) 0, h.2.2.2))) rfl ?_
                                      refine qm_Ru.rt (v := (some (.int 1))) (h' := (h.1, qm_up (qm_up (qm_up (qm_up I 121 (ct.toInt.toNat) 3) 122 (ct.toInt.toNat) pos) 123 (ct.toInt.toNat) 0) 118 10 v62, qm_up J 124 (ct.toInt.toNat) 0, h.2.2.2)) rfl ?_
                                      refine qm_Ru.go 1 (c' := (290, [.ref 118, .int pos, .int v17, l3, l4, l5, l6, l7], [.int (pos + 1)], (h.1, qm_up (qm_up (qm_up (qm_up I 121 (ct.toInt.toNat) 3) 122 (ct.toInt.toNat) pos) 123 (ct.toInt.toNat) 0) 118 10 v62, qm_up J 124 (ct.toInt.toNat) 0, h.2.2.2))) rfl ?_
                                      rw [q_v28]
                                      refine qm_Ru.go 2 (c' := (7, [.ref 118, .int v28, .int v17, l3, l4, l5, l6, l7], [], (h.1, qm_up (qm_up (qm_up (qm_up I 121 (ct.toInt.toNat) 3) 122 (ct.toInt.toNat) pos) 123 (ct.toInt.toNat) 0) 118 10 v62, qm_up J 124 (ct.toInt.toNat) 0, h.2.2.2))) rfl ?_
                                      exact ih (m - 1) (by omega) (qm_up (qm_up (qm_up (qm_up I 121 (ct.toInt.toNat) 3) 122 (ct.toInt.toNat) pos) 123 (ct.toInt.toNat) 0) 118 10 v62) (qm_up J 124 (ct.toInt.toNat) 0) v62 v28 (hb_up (o := 118) (k := 10) (x := v62) (hb_up (o := 123) (k := ct.toInt.toNat) (x := 0) (hb_up (o := 122) (k := ct.toInt.toNat) (x := pos) (hb_up (o := 121) (k := ct.toInt.toNat) (x := 3) hBI ⟨(show (0 : Int) ≤ 3 from by decide), (show (3 : Int) ≤ 44 from by decide)⟩) (qa_in_full _)) (qa_in_full _)) ⟨by show (0 : Int) ≤ v62.toInt; omega, by show v62.toInt ≤ (401 : Int); omega⟩) (fun o ho i => ((hk_mod ho rfl).trans ((hk_mod ho rfl).trans ((hk_mod ho rfl).trans ((hk_mod ho rfl).trans ((e o (hk_ms rfl ho) i).trans rfl)))))) (fun i hi => ((hk_neq (fun z => by subst z; cases hi)).trans ((hk_ot rfl).trans ((hk_ot rfl).trans ((hk_ot rfl).trans ((e8 i (hk_ms rfl hi)).trans rfl)))))) (show (qm_up (qm_up (qm_up (qm_up I 121 (ct.toInt.toNat) 3) 122 (ct.toInt.toNat) pos) 123 (ct.toInt.toNat) 0) 118 10 v62) 118 10 = _ from (hk_same)) (by omega) (by omega) (by omega) (.int v17) l3 l4 l5 l6 l7
                                    · refine qm_Ru.go 8 (c' := (154, [.ref 118, .int pos, .int v17, .int v50, .int 0, .int 10], [.long 0, .int 0, .int pos, .int 10, .ref 118], (h.1, I, J, h.2.2.2))) rfl ?_
                                      refine hk_inv (o := 118) (r := []) (as := [.ref 118, .int 10, .int pos, .int 0, .long 0]) rfl rfl (hH.1 118 (17, 105) rfl) rfl rfl rfl rfl ?_
                                      refine qm_Ru.go 1 (c' := (1, [.ref 118, .int 10, .int pos, .int 0, .long 0, .float 0], [.ref 118], (h.1, I, J, h.2.2.2))) rfl ?_
                                      refine hk_getr rfl (hH.1 118 (17, 105) rfl) rfl (hH.2 118 5 (some 121) rfl) ?_
                                      refine qm_Ru.go 1 (c' := (5, [.ref 118, .int 10, .int pos, .int 0, .long 0, .float 0], [.ref 118, .ref 121], (h.1, I, J, h.2.2.2))) rfl ?_
                                      refine hk_geti (v := ct) rfl (hH.1 118 (17, 105) rfl) rfl q_ct ?_
                                      refine qm_Ru.go 1 (c' := (9, [.ref 118, .int 10, .int pos, .int 0, .long 0, .float 0], [.int 10, .int ct, .ref 121], (h.1, I, J, h.2.2.2))) rfl ?_
                                      refine hk_ias rfl (hH.1 121 (0, 403) rfl) (by omega) (by omega) ?_
                                      refine qm_Ru.go 1 (c' := (11, [.ref 118, .int 10, .int pos, .int 0, .long 0, .float 0], [.ref 118], (h.1, qm_up I 121 (ct.toInt.toNat) 10, J, h.2.2.2))) rfl ?_
                                      refine hk_getr rfl (hH.1 118 (17, 105) rfl) rfl (hH.2 118 6 (some 122) rfl) ?_
                                      refine qm_Ru.go 1 (c' := (15, [.ref 118, .int 10, .int pos, .int 0, .long 0, .float 0], [.ref 118, .ref 122], (h.1, qm_up I 121 (ct.toInt.toNat) 10, J, h.2.2.2))) rfl ?_
                                      refine hk_geti (v := ct) rfl (hH.1 118 (17, 105) rfl) rfl (show (qm_up I 121 (ct.toInt.toNat) 10) 118 10 = _ from ((hk_ot rfl).trans q_ct)) ?_
                                      refine qm_Ru.go 1 (c' := (19, [.ref 118, .int 10, .int pos, .int 0, .long 0, .float 0], [.int pos, .int ct, .ref 122], (h.1, qm_up I 121 (ct.toInt.toNat) 10, J, h.2.2.2))) rfl ?_
                                      refine hk_ias rfl (hH.1 122 (0, 403) rfl) (by omega) (by omega) ?_
                                      refine qm_Ru.go 1 (c' := (21, [.ref 118, .int 10, .int pos, .int 0, .long 0, .float 0], [.ref 118], (h.1, qm_up (qm_up I 121 (ct.toInt.toNat) 10) 122 (ct.toInt.toNat) pos, J, h.2.2.2))) rfl ?_
                                      refine hk_getr rfl (hH.1 118 (17, 105) rfl) rfl (hH.2 118 7 (some 123) rfl) ?_
                                      refine qm_Ru.go 1 (c' := (25, [.ref 118, .int 10, .int pos, .int 0, .long 0, .float 0], [.ref 118, .ref 123], (h.1, qm_up (qm_up I 121 (ct.toInt.toNat) 10) 122 (ct.toInt.toNat) pos, J, h.2.2.2))) rfl ?_
                                      refine hk_geti (v := ct) rfl (hH.1 118 (17, 105) rfl) rfl (show (qm_up (qm_up I 121 (ct.toInt.toNat) 10) 122 (ct.toInt.toNat) pos) 118 10 = _ from ((hk_ot rfl).trans ((hk_ot rfl).trans q_ct))) ?_
                                      refine qm_Ru.go 1 (c' := (29, [.ref 118, .int 10, .int pos, .int 0, .long 0, .float 0], [.int 0, .int ct, .ref 123], (h.1, qm_up (qm_up I 121 (ct.toInt.toNat) 10) 122 (ct.toInt.toNat) pos, J, h.2.2.2))) rfl ?_
                                      refine hk_ias rfl (hH.1 123 (0, 403) rfl) (by omega) (by omega) ?_
                                      refine qm_Ru.go 1 (c' := (31, [.ref 118, .int 10, .int pos, .int 0, .long 0, .float 0], [.ref 118], (h.1, qm_up (qm_up (qm_up I 121 (ct.toInt.toNat) 10) 122 (ct.toInt.toNat) pos) 123 (ct.toInt.toNat) 0, J, h.2.2.2))) rfl ?_
                                      refine hk_getr rfl (hH.1 118 (17, 105) rfl) rfl (hH.2 118 8 (some 124) rfl) ?_
                                      refine qm_Ru.go 1 (c' := (35, [.ref 118, .int 10, .int pos, .int 0, .long 0, .float 0], [.ref 118, .ref 124], (h.1, qm_up (qm_up (qm_up I 121 (ct.toInt.toNat) 10) 122 (ct.toInt.toNat) pos) 123 (ct.toInt.toNat) 0, J, h.2.2.2))) rfl ?_
                                      refine hk_geti (v := ct) rfl (hH.1 118 (17, 105) rfl) rfl (show (qm_up (qm_up (qm_up I 121 (ct.toInt.toNat) 10) 122 (ct.toInt.toNat) pos) 123 (ct.toInt.toNat) 0) 118 10 = _ from ((hk_ot rfl).trans ((hk_ot rfl).trans ((hk_ot rfl).trans q_ct)))) ?_
                                      refine qm_Ru.go 1 (c' := (40, [.ref 118, .int 10, .int pos, .int 0, .long 0, .float 0], [.long 0, .int ct, .ref 124], (h.1, qm_up (qm_up (qm_up I 121 (ct.toInt.toNat) 10) 122 (ct.toInt.toNat) pos) 123 (ct.toInt.toNat) 0, J, h.2.2.2))) rfl ?_
                                      refine hk_las rfl (hH.1 124 (3, 403) rfl) (by omega) (by omega) ?_
                                      refine qm_Ru.go 2 (c' := (43, [.ref 118, .int 10, .int pos, .int 0, .long 0, .float 0], [.ref 118, .ref 118], (h.1, qm_up (qm_up (qm_up I 121 (ct.toInt.toNat) 10) 122 (ct.toInt.toNat) pos) 123 (ct.toInt.toNat) 0, qm_up J 124 (ct.toInt.toNat) 0, h.2.2.2))) rfl ?_
                                      refine hk_geti (v := ct) rfl (hH.1 118 (17, 105) rfl) rfl (show (qm_up (qm_up (qm_up I 121 (ct.toInt.toNat) 10) 122 (ct.toInt.toNat) pos) 123 (ct.toInt.toNat) 0) 118 10 = _ from ((hk_ot rfl).trans ((hk_ot rfl).trans ((hk_ot rfl).trans q_ct)))) ?_
                                      refine qm_Ru.go 2 (c' := (48, [.ref 118, .int 10, .int pos, .int 0, .long 0, .float 0], [.int (ct + 1), .ref 118], (h.1, qm_up (qm_up (qm_up I 121 (ct.toInt.toNat) 10) 122 (ct.toInt.toNat) pos) 123 (ct.toInt.toNat) 0, qm_up J 124 (ct.toInt.toNat) 0, h.2.2.2))) rfl ?_
                                      obtain ⟨v64, q_v64, e_v64⟩ := hk_add (x := ct) (y := 1) (a := ct.toInt) (b := 1) rfl rfl (by omega) (by omega)
                                      rw [q_v64]
                                      refine hk_puti rfl (hH.1 118 (17, 105) rfl) rfl ?_
                                      refine qm_Ru.go 0 (c' := (51, [.ref 118, .int 10, .int pos, .int 0, .long 0, .float 0], [], (h.1, qm_up (qm_up (qm_up (qm_up I 121 (ct.toInt.toNat) 10) 122 (ct.toInt.toNat) pos) 123 (ct.toInt.toNat) 0) 118 10 v64, qm_up J 124 (ct.toInt.toNat) 0, h.2.2.2))) rfl ?_
                                      refine qm_Ru.rt (v := none) (h' := (h.1, qm_up (qm_up (qm_up (qm_up I 121 (ct.toInt.toNat) 10) 122 (ct.toInt.toNat) pos) 123 (ct.toInt.toNat) 0) 118 10 v64, qm_up J 124 (ct.toInt.toNat) 0, h.2.2.2)) rfl ?_
                                      refine qm_Ru.go 3 (c' := (167, [.ref 118, .int pos, .int v17, .int v50, .int 0, .int 10], [.int 1], (h.1, qm_up (qm_up (qm_up (qm_up I 121 (ct.toInt.toNat) 10) 122 (ct.toInt.toNat) pos) 123 (ct.toInt.toNat) 0) 118 10 v64, qm_up J 124 (ct.toInt.toNat) 0, h.2.2.2))) rfl ?_
                                      refine qm_Ru.rt (v := (some (.int 1))) (h' := (h.1, qm_up (qm_up (qm_up (qm_up I 121 (ct.toInt.toNat) 10) 122 (ct.toInt.toNat) pos) 123 (ct.toInt.toNat) 0) 118 10 v64, qm_up J 124 (ct.toInt.toNat) 0, h.2.2.2)) rfl ?_
                                      refine qm_Ru.go 1 (c' := (290, [.ref 118, .int pos, .int v17, l3, l4, l5, l6, l7], [.int (pos + 1)], (h.1, qm_up (qm_up (qm_up (qm_up I 121 (ct.toInt.toNat) 10) 122 (ct.toInt.toNat) pos) 123 (ct.toInt.toNat) 0) 118 10 v64, qm_up J 124 (ct.toInt.toNat) 0, h.2.2.2))) rfl ?_
                                      rw [q_v28]
                                      refine qm_Ru.go 2 (c' := (7, [.ref 118, .int v28, .int v17, l3, l4, l5, l6, l7], [], (h.1, qm_up (qm_up (qm_up (qm_up I 121 (ct.toInt.toNat) 10) 122 (ct.toInt.toNat) pos) 123 (ct.toInt.toNat) 0) 118 10 v64, qm_up J 124 (ct.toInt.toNat) 0, h.2.2.2))) rfl ?_
                                      exact ih (m - 1) (by omega) (qm_up (qm_up (qm_up (qm_up I 121 (ct.toInt.toNat) 10) 122 (ct.toInt.toNat) pos) 123 (ct.toInt.toNat) 0) 118 10 v64) (qm_up J 124 (ct.toInt.toNat) 0) v64 v28 (hb_up (o := 118) (k := 10) (x := v64) (hb_up (o := 123) (k := ct.toInt.toNat) (x := 0) (hb_up (o := 122) (k := ct.toInt.toNat) (x := pos) (hb_up (o := 121) (k := ct.toInt.toNat) (x := 10) hBI ⟨(show (0 : Int) ≤ 10 from by decide), (show (10 : Int) ≤ 44 from by decide)⟩) (qa_in_full _)) (qa_in_full _)) ⟨by show (0 : Int) ≤ v64.toInt; omega, by show v64.toInt ≤ (401 : Int); omega⟩) (fun o ho i => ((hk_mod ho rfl).trans ((hk_mod ho rfl).trans ((hk_mod ho rfl).trans ((hk_mod ho rfl).trans ((e o (hk_ms rfl ho) i).trans rfl)))))) (fun i hi => ((hk_neq (fun z => by subst z; cases hi)).trans ((hk_ot rfl).trans ((hk_ot rfl).trans ((hk_ot rfl).trans ((e8 i (hk_ms rfl hi)).trans rfl)))))) (show (qm_up (qm_up (qm_up (qm_up I 121 (ct.toInt.toNat) 10) 122 (ct.toInt.toNat) pos) 123 (ct.toInt.toNat) 0) 118 10 v64) 118 10 = _ from (hk_same)) (by omega) (by omega) (by omega) (.int v17) l3 l4 l5 l6 l7
                                  · refine qm_Ru.go 8 (c' := (154, [.ref 118, .int pos, .int v17, .int v50, .int 0, .int 9], [.long 0, .int 0, .int pos, .int 9, .ref 118], (h.1, I, J, h.2.2.2))) rfl ?_
                                    refine hk_inv (o := 118) (r := []) (as := [.ref 118, .int 9, .int pos, .int 0, .long 0]) rfl rfl (hH.1 118 (17, 105) rfl) rfl rfl rfl rfl ?_
                                    refine qm_Ru.go 1 (c' := (1, [.ref 118, .int 9, .int pos, .int 0, .long 0, .float 0], [.ref 118], (h.1, I, J, h.2.2.2))) rfl ?_
                                    refine hk_getr rfl (hH.1 118 (17, 105) rfl) rfl (hH.2 118 5 (some 121) rfl) ?_
                                    refine qm_Ru.go 1 (c' := (5, [.ref 118, .int 9, .int pos, .int 0, .long 0, .float 0], [.ref 118, .ref 121], (h.1, I, J, h.2.2.2))) rfl ?_
                                    refine hk_geti (v := ct) rfl (hH.1 118 (17, 105) rfl) rfl q_ct ?_
                                    refine qm_Ru.go 1 (c' := (9, [.ref 118, .int 9, .int pos, .int 0, .long 0, .float 0], [.int 9, .int ct, .ref 121], (h.1, I, J, h.2.2.2))) rfl ?_
                                    refine hk_ias rfl (hH.1 121 (0, 403) rfl) (by omega) (by omega) ?_
                                    refine qm_Ru.go 1 (c' := (11, [.ref 118, .int 9, .int pos, .int 0, .long 0, .float 0], [.ref 118], (h.1, qm_up I 121 (ct.toInt.toNat) 9, J, h.2.2.2))) rfl ?_
                                    refine hk_getr rfl (hH.1 118 (17, 105) rfl) rfl (hH.2 118 6 (some 122) rfl) ?_
                                    refine qm_Ru.go 1 (c' := (15, [.ref 118, .int 9, .int pos, .int 0, .long 0, .float 0], [.ref 118, .ref 122], (h.1, qm_up I 121 (ct.toInt.toNat) 9, J, h.2.2.2))) rfl ?_
                                    refine hk_geti (v := ct) rfl (hH.1 118 (17, 105) rfl) rfl (show (qm_up I 121 (ct.toInt.toNat) 9) 118 10 = _ from ((hk_ot rfl).trans q_ct)) ?_
                                    refine qm_Ru.go 1 (c' := (19, [.ref 118, .int 9, .int pos, .int 0, .long 0, .float 0], [.int pos, .int ct, .ref 122], (h.1, qm_up I 121 (ct.toInt.toNat) 9, J, h.2.2.2))) rfl ?_
                                    refine hk_ias rfl (hH.1 122 (0, 403) rfl) (by omega) (by omega) ?_
                                    refine qm_Ru.go 1 (c' := (21, [.ref 118, .int 9, .int pos, .int 0, .long 0, .float 0], [.ref 118], (h.1, qm_up (qm_up I 121 (ct.toInt.toNat) 9) 122 (ct.toInt.toNat) pos, J, h.2.2.2))) rfl ?_
                                    refine hk_getr rfl (hH.1 118 (17, 105) rfl) rfl (hH.2 118 7 (some 123) rfl) ?_
                                    refine qm_Ru.go 1 (c' := (25, [.ref 118, .int 9, .int pos, .int 0, .long 0, .float 0], [.ref 118, .ref 123], (h.1, qm_up (qm_up I 121 (ct.toInt.toNat) 9) 122 (ct.toInt.toNat) pos, J, h.2.2.2))) rfl ?_
                                    refine hk_geti (v := ct) rfl (hH.1 118 (17, 105) rfl) rfl (show (qm_up (qm_up I 121 (ct.toInt.toNat) 9) 122 (ct.toInt.toNat) pos) 118 10 = _ from ((hk_ot rfl).trans ((hk_ot rfl).trans q_ct))) ?_
                                    refine qm_Ru.go 1 (c' := (29, [.ref 118, .int 9, .int pos, .int 0, .long 0, .float 0], [.int 0, .int ct, .ref 123], (h.1, qm_up (qm_up I 121 (ct.toInt.toNat) 9) 122 (ct.toInt.toNat) pos, J, h.2.2.2))) rfl ?_
                                    refine hk_ias rfl (hH.1 123 (0, 403) rfl) (by omega) (by omega) ?_
                                    refine qm_Ru.go 1 (c' := (31, [.ref 118, .int 9, .int pos, .int 0, .long 0, .float 0], [.ref 118], (h.1, qm_up (qm_up (qm_up I 121 (ct.toInt.toNat) 9) 122 (ct.toInt.toNat) pos) 123 (ct.toInt.toNat) 0, J, h.2.2.2))) rfl ?_
                                    refine hk_getr rfl (hH.1 118 (17, 105) rfl) rfl (hH.2 118 8 (some 124) rfl) ?_
                                    refine qm_Ru.go 1 (c' := (35, [.ref 118, .int 9, .int pos, .int 0, .long 0, .float 0], [.ref 118, .ref 124], (h.1, qm_up (qm_up (qm_up I 121 (ct.toInt.toNat) 9) 122 (ct.toInt.toNat) pos) 123 (ct.toInt.toNat) 0, J, h.2.2.2))) rfl ?_
                                    refine hk_geti (v := ct) rfl (hH.1 118 (17, 105) rfl) rfl (show (qm_up (qm_up (qm_up I 121 (ct.toInt.toNat) 9) 122 (ct.toInt.toNat) pos) 123 (ct.toInt.toNat) 0) 118 10 = _ from ((hk_ot rfl).trans ((hk_ot rfl).trans ((hk_ot rfl).trans q_ct)))) ?_
                                    refine qm_Ru.go 1 (c' := (40, [.ref 118, .int 9, .int pos, .int 0, .long 0, .float 0], [.long 0, .int ct, .ref 124], (h.1, qm_up (qm_up (qm_up I 121 (ct.toInt.toNat) 9) 122 (ct.toInt.toNat) pos) 123 (ct.toInt.toNat) 0, J, h.2.2.2))) rfl ?_
                                    refine hk_las rfl (hH.1 124 (3, 403) rfl) (by omega) (by omega) ?_
                                    refine qm_Ru.go 2 (c' := (43, [.ref 118, .int 9, .int pos, .int 0, .long 0, .float 0], [.ref 118, .ref 118], (h.1, qm_up (qm_up (qm_up I 121 (ct.toInt.toNat) 9) 122 (ct.toInt.toNat) pos) 123 (ct.toInt.toNat) 0, qm_up J 124 (ct.toInt.toNat) 0, h.2.2.2))) rfl ?_
                                    refine hk_geti (v := ct) rfl (hH.1 118 (17, 105) rfl) rfl (show (qm_up (qm_up (qm_up I 121 (ct.toInt.toNat) 9) 122 (ct.toInt.toNat) pos) 123 (ct.toInt.toNat) 0) 118 10 = _ from ((hk_ot rfl).trans ((hk_ot rfl).trans ((hk_ot rfl).trans q_ct)))) ?_
                                    refine qm_Ru.go 2 (c' := (48, [.ref 118, .int 9, .int pos, .int 0, .long 0, .float 0], [.int (ct + 1), .ref 118], (h.1, qm_up (qm_up (qm_up I 121 (ct.toInt.toNat) 9) 122 (ct.toInt.toNat) pos) 123 (ct.toInt.toNat) 0, qm_up J 124 (ct.toInt.toNat) 0, h.2.2.2))) rfl ?_
                                    obtain ⟨v66, q_v66, e_v66⟩ := hk_add (x := ct) (y := 1) (a := ct.toInt) (b := 1) rfl rfl (by omega) (by omega)
                                    rw [q_v66]
                                    refine hk_puti rfl (hH.1 118 (17, 105) rfl) rfl ?_
                                    refine qm_Ru.go 0 (c' := (51, [.ref 118, .int 9, .int pos, .int 0, .long 0, .float 0], [], (h.1, qm_up (qm_up (qm_up (qm_up I 121 (ct.toInt.toNat) 9) 122 (ct.toInt.toNat) pos) 123 (ct.toInt.toNat) 0) 118 10 v66, qm_up J 124 (ct.toInt.toNat) 0, h.2.2.2))) rfl ?_
                                    refine qm_Ru.rt (v := none) (h' := (h.1, qm_up (qm_up (qm_up (qm_up I 121 (ct.toInt.toNat) 9) 122 (ct.toInt.toNat) pos) 123 (ct.toInt.toNat) 0) 118 10 v66, qm_up J 124 (ct.toInt.toNat) 0, h.2.2.2)) rfl ?_
                                    refine qm_Ru.go 3 (c' := (167, [.ref 118, .int pos, .int v17, .int v50, .int 0, .int 9], [.int 1], (h.1, qm_up (qm_up (qm_up (qm_up I 121 (ct.toInt.toNat) 9) 122 (ct.toInt.toNat) pos) 123 (ct.toInt.toNat) 0) 118 10 v66, qm_up J 124 (ct.toInt.toNat) 0, h.2.2.2))) rfl ?_
                                    refine qm_Ru.rt (v := (some (.int 1))) (h' := (h.1, qm_up (qm_up (qm_up (qm_up I 121 (ct.toInt.toNat) 9) 122 (ct.toInt.toNat) pos) 123 (ct.toInt.toNat) 0) 118 10 v66, qm_up J 124 (ct.toInt.toNat) 0, h.2.2.2)) rfl ?_
                                    refine qm_Ru.go 1 (c' := (290, [.ref 118, .int pos, .int v17, l3, l4, l5, l6, l7], [.int (pos + 1)], (h.1, qm_up (qm_up (qm_up (qm_up I 121 (ct.toInt.toNat) 9) 122 (ct.toInt.toNat) pos) 123 (ct.toInt.toNat) 0) 118 10 v66, qm_up J 124 (ct.toInt.toNat) 0, h.2.2.2))) rfl ?_
                                    rw [q_v28]
                                    refine qm_Ru.go 2 (c' := (7, [.ref 118, .int v28, .int v17, l3, l4, l5, l6, l7], [], (h.1, qm_up (qm_up (qm_up (qm_up I 121 (ct.toInt.toNat) 9) 122 (ct.toInt.toNat) pos) 123 (ct.toInt.toNat) 0) 118 10 v66, qm_up J 124 (ct.toInt.toNat) 0, h.2.2.2))) rfl ?_
                                    exact ih (m - 1) (by omega) (qm_up (qm_up (qm_up (qm_up I 121 (ct.toInt.toNat) 9) 122 (ct.toInt.toNat) pos) 123 (ct.toInt.toNat) 0) 118 10 v66) (qm_up J 124 (ct.toInt.toNat) 0) v66 v28 (hb_up (o := 118) (k := 10) (x := v66) (hb_up (o := 123) (k := ct.toInt.toNat) (x := 0) (hb_up (o := 122) (k := ct.toInt.toNat) (x := pos) (hb_up (o := 121) (k := ct.toInt.toNat) (x := 9) hBI ⟨(show (0 : Int) ≤ 9 from by decide), (show (9 : Int) ≤ 44 from by decide)⟩) (qa_in_full _)) (qa_in_full _)) ⟨by show (0 : Int) ≤ v66.toInt; omega, by show v66.toInt ≤ (401 : Int); omega⟩) (fun o ho i => ((hk_mod ho rfl).trans ((hk_mod ho rfl).trans ((hk_mod ho rfl).trans ((hk_mod ho rfl).trans ((e o (hk_ms rfl ho) i).trans rfl)))))) (fun i hi => ((hk_neq (fun z => by subst z; cases hi)).trans ((hk_ot rfl).trans ((hk_ot rfl).trans ((hk_ot rfl).trans ((e8 i (hk_ms rfl hi)).trans rfl)))))) (show (qm_up (qm_up (qm_up (qm_up I 121 (ct.toInt.toNat) 9) 122 (ct.toInt.toNat) pos) 123 (ct.toInt.toNat) 0) 118 10 v66) 118 10 = _ from (hk_same)) (by omega) (by omega) (by omega) (.int v17) l3 l4 l5 l6 l7
                                · refine qm_Ru.go 8 (c' := (154, [.ref 118, .int pos, .int v17, .int v50, .int 0, .int 8], [.long 0, .int 0, .int pos, .int 8, .ref 118], (h.1, I, J, h.2.2.2))) rfl ?_
                                  refine hk_inv (o := 118) (r := []) (as := [.ref 118, .int 8, .int pos, .int 0, .long 0]) rfl rfl (hH.1 118 (17, 105) rfl) rfl rfl rfl rfl ?_
                                  refine qm_Ru.go 1 (c' := (1, [.ref 118, .int 8, .int pos, .int 0, .long 0, .float 0], [.ref 118], (h.1, I, J, h.2.2.2))) rfl ?_
                                  refine hk_getr rfl (hH.1 118 (17, 105) rfl) rfl (hH.2 118 5 (some 121) rfl) ?_
                                  refine qm_Ru.go 1 (c' := (5, [.ref 118, .int 8, .int pos, .int 0, .long 0, .float 0], [.ref 118, .ref 121], (h.1, I, J, h.2.2.2))) rfl ?_
                                  refine hk_geti (v := ct) rfl (hH.1 118 (17, 105) rfl) rfl q_ct ?_
                                  refine qm_Ru.go 1 (c' := (9, [.ref 118, .int 8, .int pos, .int 0, .long 0, .float 0], [.int 8, .int ct, .ref 121], (h.1, I, J, h.2.2.2))) rfl ?_
                                  refine hk_ias rfl (hH.1 121 (0, 403) rfl) (by omega) (by omega) ?_
                                  refine qm_Ru.go 1 (c' := (11, [.ref 118, .int 8, .int pos, .int 0, .long 0, .float 0], [.ref 118], (h.1, qm_up I 121 (ct.toInt.toNat) 8, J, h.2.2.2))) rfl ?_
                                  refine hk_getr rfl (hH.1 118 (17, 105) rfl) rfl (hH.2 118 6 (some 122) rfl) ?_
                                  refine qm_Ru.go 1 (c' := (15, [.ref 118, .int 8, .int pos, .int 0, .long 0, .float 0], [.ref 118, .ref 122], (h.1, qm_up I 121 (ct.toInt.toNat) 8, J, h.2.2.2))) rfl ?_
                                  refine hk_geti (v := ct) rfl (hH.1 118 (17, 105) rfl) rfl (show (qm_up I 121 (ct.toInt.toNat) 8) 118 10 = _ from ((hk_ot rfl).trans q_ct)) ?_
                                  refine qm_Ru.go 1 (c' := (19, [.ref 118, .int 8, .int pos, .int 0, .long 0, .float 0], [.int pos, .int ct, .ref 122], (h.1, qm_up I 121 (ct.toInt.toNat) 8, J, h.2.2.2))) rfl ?_
                                  refine hk_ias rfl (hH.1 122 (0, 403) rfl) (by omega) (by omega) ?_
                                  refine qm_Ru.go 1 (c' := (21, [.ref 118, .int 8, .int pos, .int 0, .long 0, .float 0], [.ref 118], (h.1, qm_up (qm_up I 121 (ct.toInt.toNat) 8) 122 (ct.toInt.toNat) pos, J, h.2.2.2))) rfl ?_
                                  refine hk_getr rfl (hH.1 118 (17, 105) rfl) rfl (hH.2 118 7 (some 123) rfl) ?_
                                  refine qm_Ru.go 1 (c' := (25, [.ref 118, .int 8, .int pos, .int 0, .long 0, .float 0], [.ref 118, .ref 123], (h.1, qm_up (qm_up I 121 (ct.toInt.toNat) 8) 122 (ct.toInt.toNat) pos, J, h.2.2.2))) rfl ?_
                                  refine hk_geti (v := ct) rfl (hH.1 118 (17, 105) rfl) rfl (show (qm_up (qm_up I 121 (ct.toInt.toNat) 8) 122 (ct.toInt.toNat) pos) 118 10 = _ from ((hk_ot rfl).trans ((hk_ot rfl).trans q_ct))) ?_
                                  refine qm_Ru.go 1 (c' := (29, [.ref 118, .int 8, .int pos, .int 0, .long 0, .float 0], [.int 0, .int ct, .ref 123], (h.1, qm_up (qm_up I 121 (ct.toInt.toNat) 8) 122 (ct.toInt.toNat) pos, J, h.2.2.2))) rfl ?_
                                  refine hk_ias rfl (hH.1 123 (0, 403) rfl) (by omega) (by omega) ?_
                                  refine qm_Ru.go 1 (c' := (31, [.ref 118, .int 8, .int pos, .int 0, .long 0, .float 0], [.ref 118], (h.1, qm_up (qm_up (qm_up I 121 (ct.toInt.toNat) 8) 122 (ct.toInt.toNat) pos) 123 (ct.toInt.toNat) 0, J, h.2.2.2))) rfl ?_
                                  refine hk_getr rfl (hH.1 118 (17, 105) rfl) rfl (hH.2 118 8 (some 124) rfl) ?_
                                  refine qm_Ru.go 1 (c' := (35, [.ref 118, .int 8, .int pos, .int 0, .long 0, .float 0], [.ref 118, .ref 124], (h.1, qm_up (qm_up (qm_up I 121 (ct.toInt.toNat) 8) 122 (ct.toInt.toNat) pos) 123 (ct.toInt.toNat) 0, J, h.2.2.2))) rfl ?_
                                  refine hk_geti (v := ct) rfl (hH.1 118 (17, 105) rfl) rfl (show (qm_up (qm_up (qm_up I 121 (ct.toInt.toNat) 8) 122 (ct.toInt.toNat) pos) 123 (ct.toInt.toNat) 0) 118 10 = _ from ((hk_ot rfl).trans ((hk_ot rfl).trans ((hk_ot rfl).trans q_ct)))) ?_
                                  refine qm_Ru.go 1 (c' := (40, [.ref 118, .int 8, .int pos, .int 0, .long 0, .float 0], [.long 0, .int ct, .ref 124], (h.1, qm_up (qm_up (qm_up I 121 (ct.toInt.toNat) 8) 122 (ct.toInt.toNat) pos) 123 (ct.toInt.toNat) 0, J, h.2.2.2))) rfl ?_
                                  refine hk_las rfl (hH.1 124 (3, 403) rfl) (by omega) (by omega) ?_
                                  refine qm_Ru.go 2 (c' := (43, [.ref 118, .int 8, .int pos, .int 0, .long 0, .float 0], [.ref 118, .ref 118], (h.1, qm_up (qm_up (qm_up I 121 (ct.toInt.toNat) 8) 122 (ct.toInt.toNat) pos) 123 (ct.toInt.toNat) 0, qm_up J 124 (ct.toInt.toNat) 0, h.2.2.2))) rfl ?_
                                  refine hk_geti (v := ct) rfl (hH.1 118 (17, 105) rfl) rfl (show (qm_up (qm_up (qm_up I 121 (ct.toInt.toNat) 8) 122 (ct.toInt.toNat) pos) 123 (ct.toInt.toNat) 0) 118 10 = _ from ((hk_ot rfl).trans ((hk_ot rfl).trans ((hk_ot rfl).trans q_ct)))) ?_
                                  refine qm_Ru.go 2 (c' := (48, [.ref 118, .int 8, .int pos, .int 0, .long 0, .float 0], [.int (ct + 1), .ref 118], (h.1, qm_up (qm_up (qm_up I 121 (ct.toInt.toNat) 8) 122 (ct.toInt.toNat) pos) 123 (ct.toInt.toNat) 0, qm_up J 124 (ct.toInt.toNat) 0, h.2.2.2))) rfl ?_
                                  obtain ⟨v68, q_v68, e_v68⟩ := hk_add (x := ct) (y := 1) (a := ct.toInt) (b := 1) rfl rfl (by omega) (by omega)
                                  rw [q_v68]
                                  refine hk_puti rfl (hH.1 118 (17, 105) rfl) rfl ?_
                                  refine qm_Ru.go 0 (c' := (51, [.ref 118, .int 8, .int pos, .int 0, .long 0, .float 0], [], (h.1, qm_up (qm_up (qm_up (qm_up I 121 (ct.toInt.toNat) 8) 122 (ct.toInt.toNat) pos) 123 (ct.toInt.toNat) 0) 118 10 v68, qm_up J 124 (ct.toInt.toNat) 0, h.2.2.2))) rfl ?_
                                  refine qm_Ru.rt (v := none) (h' := (h.1, qm_up (qm_up (qm_up (qm_up I 121 (ct.toInt.toNat) 8) 122 (ct.toInt.toNat) pos) 123 (ct.toInt.toNat) 0) 118 10 v68, qm_up J 124 (ct.toInt.toNat) 0, h.2.2.2)) rfl ?_
                                  refine qm_Ru.go 3 (c' := (167, [.ref 118, .int pos, .int v17, .int v50, .int 0, .int 8], [.int 1], (h.1, qm_up (qm_up (qm_up (qm_up I 121 (ct.toInt.toNat) 8) 122 (ct.toInt.toNat) pos) 123 (ct.toInt.toNat) 0) 118 10 v68, qm_up J 124 (ct.toInt.toNat) 0, h.2.2.2))) rfl ?_
                                  refine qm_Ru.rt (v := (some (.int 1))) (h' := (h.1, qm_up (qm_up (qm_up (qm_up I 121 (ct.toInt.toNat) 8) 122 (ct.toInt.toNat) pos) 123 (ct.toInt.toNat) 0) 118 10 v68, qm_up J 124 (ct.toInt.toNat) 0, h.2.2.2)) rfl ?_
                                  refine qm_Ru.go 1 (c' := (290, [.ref 118, .int pos, .int v17, l3, l4, l5, l6, l7], [.int (pos + 1)], (h.1, qm_up (qm_up (qm_up (qm_up I 121 (ct.toInt.toNat) 8) 122 (ct.toInt.toNat) pos) 123 (ct.toInt.toNat) 0) 118 10 v68, qm_up J 124 (ct.toInt.toNat) 0, h.2.2.2))) rfl ?_
                                  rw [q_v28]
                                  refine qm_Ru.go 2 (c' := (7, [.ref 118, .int v28, .int v17, l3, l4, l5, l6, l7], [], (h.1, qm_up (qm_up (qm_up (qm_up I 121 (ct.toInt.toNat) 8) 122 (ct.toInt.toNat) pos) 123 (ct.toInt.toNat) 0) 118 10 v68, qm_up J 124 (ct.toInt.toNat) 0, h.2.2.2))) rfl ?_
                                  exact ih (m - 1) (by omega) (qm_up (qm_up (qm_up (qm_up I 121 (ct.toInt.toNat) 8) 122 (ct.toInt.toNat) pos) 123 (ct.toInt.toNat) 0) 118 10 v68) (qm_up J 124 (ct.toInt.toNat) 0) v68 v28 (hb_up (o := 118) (k := 10) (x := v68) (hb_up (o := 123) (k := ct.toInt.toNat) (x := 0) (hb_up (o := 122) (k := ct.toInt.toNat) (x := pos) (hb_up (o := 121) (k := ct.toInt.toNat) (x := 8) hBI ⟨(show (0 : Int) ≤ 8 from by decide), (show (8 : Int) ≤ 44 from by decide)⟩) (qa_in_full _)) (qa_in_full _)) ⟨by show (0 : Int) ≤ v68.toInt; omega, by show v68.toInt ≤ (401 : Int); omega⟩) (fun o ho i => ((hk_mod ho rfl).trans ((hk_mod ho rfl).trans ((hk_mod ho rfl).trans ((hk_mod ho rfl).trans ((e o (hk_ms rfl ho) i).trans rfl)))))) (fun i hi => ((hk_neq (fun z => by subst z; cases hi)).trans ((hk_ot rfl).trans ((hk_ot rfl).trans ((hk_ot rfl).trans ((e8 i (hk_ms rfl hi)).trans rfl)))))) (show (qm_up (qm_up (qm_up (qm_up I 121 (ct.toInt.toNat) 8) 122 (ct.toInt.toNat) pos) 123 (ct.toInt.toNat) 0) 118 10 v68) 118 10 = _ from (hk_same)) (by omega) (by omega) (by omega) (.int v17) l3 l4 l5 l6 l7
                              · refine qm_Ru.go 8 (c' := (154, [.ref 118, .int pos, .int v17, .int v50, .int 0, .int 7], [.long 0, .int 0, .int pos, .int 7, .ref 118], (h.1, I, J, h.2.2.2))) rfl ?_
                                refine hk_inv (o := 118) (r := []) (as := [.ref 118, .int 7, .int pos, .int 0, .long 0]) rfl rfl (hH.1 118 (17, 105) rfl) rfl rfl rfl rfl ?_
                                refine qm_Ru.go 1 (c' := (1, [.ref 118, .int 7, .int pos, .int 0, .long 0, .float 0], [.ref 118], (h.1, I, J, h.2.2.2))) rfl ?_
                                refine hk_getr rfl (hH.1 118 (17, 105) rfl) rfl (hH.2 118 5 (some 121) rfl) ?_
                                refine qm_Ru.go 1 (c' := (5, [.ref 118, .int 7, .int pos, .int 0, .long 0, .float 0], [.ref 118, .ref 121], (h.1, I, J, h.2.2.2))) rfl ?_
                                refine hk_geti (v := ct) rfl (hH.1 118 (17, 105) rfl) rfl q_ct ?_
                                refine qm_Ru.go 1 (c' := (9, [.ref 118, .int 7, .int pos, .int 0, .long 0, .float 0], [.int 7, .int ct, .ref 121], (h.1, I, J, h.2.2.2))) rfl ?_
                                refine hk_ias rfl (hH.1 121 (0, 403) rfl) (by omega) (by omega) ?_
                                refine qm_Ru.go 1 (c' := (11, [.ref 118, .int 7, .int pos, .int 0, .long 0, .float 0], [.ref 118], (h.1, qm_up I 121 (ct.toInt.toNat) 7, J, h.2.2.2))) rfl ?_
                                refine hk_getr rfl (hH.1 118 (17, 105) rfl) rfl (hH.2 118 6 (some 122) rfl) ?_
                                refine qm_Ru.go 1 (c' := (15, [.ref 118, .int 7, .int pos, .int 0, .long 0, .float 0], [.ref 118, .ref 122], (h.1, qm_up I 121 (ct.toInt.toNat) 7, J, h.2.2.2))) rfl ?_
                                refine hk_geti (v := ct) rfl (hH.1 118 (17, 105) rfl) rfl (show (qm_up I 121 (ct.toInt.toNat) 7) 118 10 = _ from ((hk_ot rfl).trans q_ct)) ?_
                                refine qm_Ru.go 1 (c' := (19, [.ref 118, .int 7, .int pos, .int 0, .long 0, .float 0], [.int pos, .int ct, .ref 122], (h.1, qm_up I 121 (ct.toInt.toNat) 7, J, h.2.2.2))) rfl ?_
                                refine hk_ias rfl (hH.1 122 (0, 403) rfl) (by omega) (by omega) ?_
                                refine qm_Ru.go 1 (c' := (21, [.ref 118, .int 7, .int pos, .int 0, .long 0, .float 0], [.ref 118], (h.1, qm_up (qm_up I 121 (ct.toInt.toNat) 7) 122 (ct.toInt.toNat) pos, J, h.2.2.2))) rfl ?_
                                refine hk_getr rfl (hH.1 118 (17, 105) rfl) rfl (hH.2 118 7 (some 123) rfl) ?_
                                refine qm_Ru.go 1 (c' := (25, [.ref 118, .int 7, .int pos, .int 0, .long 0, .float 0], [.ref 118, .ref 123], (h.1, qm_up (qm_up I 121 (ct.toInt.toNat) 7) 122 (ct.toInt.toNat) pos, J, h.2.2.2))) rfl ?_
                                refine hk_geti (v := ct) rfl (hH.1 118 (17, 105) rfl) rfl (show (qm_up (qm_up I 121 (ct.toInt.toNat) 7) 122 (ct.toInt.toNat) pos) 118 10 = _ from ((hk_ot rfl).trans ((hk_ot rfl).trans q_ct))) ?_
                                refine qm_Ru.go 1 (c' := (29, [.ref 118, .int 7, .int pos, .int 0, .long 0, .float 0], [.int 0, .int ct, .ref 123], (h.1, qm_up (qm_up I 121 (ct.toInt.toNat) 7) 122 (ct.toInt.toNat) pos, J, h.2.2.2))) rfl ?_
                                refine hk_ias rfl (hH.1 123 (0, 403) rfl) (by omega) (by omega) ?_
                                refine qm_Ru.go 1 (c' := (31, [.ref 118, .int 7, .int pos, .int 0, .long 0, .float 0], [.ref 118], (h.1, qm_up (qm_up (qm_up I 121 (ct.toInt.toNat) 7) 122 (ct.toInt.toNat) pos) 123 (ct.toInt.toNat) 0, J, h.2.2.2))) rfl ?_
                                refine hk_getr rfl (hH.1 118 (17, 105) rfl) rfl (hH.2 118 8 (some 124) rfl) ?_
                                refine qm_Ru.go 1 (c' := (35, [.ref 118, .int 7, .int pos, .int 0, .long 0, .float 0], [.ref 118, .ref 124], (h.1, qm_up (qm_up (qm_up I 121 (ct.toInt.toNat) 7) 122 (ct.toInt.toNat) pos) 123 (ct.toInt.toNat) 0, J, h.2.2.2))) rfl ?_
                                refine hk_geti (v := ct) rfl (hH.1 118 (17, 105) rfl) rfl (show (qm_up (qm_up (qm_up I 121 (ct.toInt.toNat) 7) 122 (ct.toInt.toNat) pos) 123 (ct.toInt.toNat) 0) 118 10 = _ from ((hk_ot rfl).trans ((hk_ot rfl).trans ((hk_ot rfl).trans q_ct)))) ?_
                                refine qm_Ru.go 1 (c' := (40, [.ref 118, .int 7, .int pos, .int 0, .long 0, .float 0], [.long 0, .int ct, .ref 124], (h.1, qm_up (qm_up (qm_up I 121 (ct.toInt.toNat) 7) 122 (ct.toInt.toNat) pos) 123 (ct.toInt.toNat) 0, J, h.2.2.2))) rfl ?_
                                refine hk_las rfl (hH.1 124 (3, 403) rfl) (by omega) (by omega) ?_
                                refine qm_Ru.go 2 (c' := (43, [.ref 118, .int 7, .int pos, .int 0, .long 0, .float 0], [.ref 118, .ref 118], (h.1, qm_up (qm_up (qm_up I 121 (ct.toInt.toNat) 7) 122 (ct.toInt.toNat) pos) 123 (ct.toInt.toNat) 0, qm_up J 124 (ct.toInt.toNat) 0, h.2.2.2))) rfl ?_
                                refine hk_geti (v := ct) rfl (hH.1 118 (17, 105) rfl) rfl (show (qm_up (qm_up (qm_up I 121 (ct.toInt.toNat) 7) 122 (ct.toInt.toNat) pos) 123 (ct.toInt.toNat) 0) 118 10 = _ from ((hk_ot rfl).trans ((hk_ot rfl).trans ((hk_ot rfl).trans q_ct)))) ?_
                                refine qm_Ru.go 2 (c' := (48, [.ref 118, .int 7, .int pos, .int 0, .long 0, .float 0], [.int (ct + 1), .ref 118], (h.1, qm_up (qm_up (qm_up I 121 (ct.toInt.toNat) 7) 122 (ct.toInt.toNat) pos) 123 (ct.toInt.toNat) 0, qm_up J 124 (ct.toInt.toNat) 0, h.2.2.2))) rfl ?_
                                obtain ⟨v70, q_v70, e_v70⟩ := hk_add (x := ct) (y := 1) (a := ct.toInt) (b := 1) rfl rfl (by omega) (by omega)
                                rw [q_v70]
                                refine hk_puti rfl (hH.1 118 (17, 105) rfl) rfl ?_
                                refine qm_Ru.go 0 (c' := (51, [.ref 118, .int 7, .int pos, .int 0, .long 0, .float 0], [], (h.1, qm_up (qm_up (qm_up (qm_up I 121 (ct.toInt.toNat) 7) 122 (ct.toInt.toNat) pos) 123 (ct.toInt.toNat) 0) 118 10 v70, qm_up J 124 (ct.toInt.toNat) 0, h.2.2.2))) rfl ?_
                                refine qm_Ru.rt (v := none) (h' := (h.1, qm_up (qm_up (qm_up (qm_up I 121 (ct.toInt.toNat) 7) 122 (ct.toInt.toNat) pos) 123 (ct.toInt.toNat) 0) 118 10 v70, qm_up J 124 (ct.toInt.toNat) 0, h.2.2.2)) rfl ?_
                                refine qm_Ru.go 3 (c' := (167, [.ref 118, .int pos, .int v17, .int v50, .int 0, .int 7], [.int 1], (h.1, qm_up (qm_up (qm_up (qm_up I 121 (ct.toInt.toNat) 7) 122 (ct.toInt.toNat) pos) 123 (ct.toInt.toNat) 0) 118 10 v70, qm_up J 124 (ct.toInt.toNat) 0, h.2.2.2))) rfl ?_
                                refine qm_Ru.rt (v := (some (.int 1))) (h' := (h.1, qm_up (qm_up (qm_up (qm_up I 121 (ct.toInt.toNat) 7) 122 (ct.toInt.toNat) pos) 123 (ct.toInt.toNat) 0) 118 10 v70, qm_up J 124 (ct.toInt.toNat) 0, h.2.2.2)) rfl ?_
                                refine qm_Ru.go 1 (c' := (290, [.ref 118, .int pos, .int v17, l3, l4, l5, l6, l7], [.int (pos + 1)], (h.1, qm_up (qm_up (qm_up (qm_up I 121 (ct.toInt.toNat) 7) 122 (ct.toInt.toNat) pos) 123 (ct.toInt.toNat) 0) 118 10 v70, qm_up J 124 (ct.toInt.toNat) 0, h.2.2.2))) rfl ?_
                                rw [q_v28]
                                refine qm_Ru.go 2 (c' := (7, [.ref 118, .int v28, .int v17, l3, l4, l5, l6, l7], [], (h.1, qm_up (qm_up (qm_up (qm_up I 121 (ct.toInt.toNat) 7) 122 (ct.toInt.toNat) pos) 123 (ct.toInt.toNat) 0) 118 10 v70, qm_up J 124 (ct.toInt.toNat) 0, h.2.2.2))) rfl ?_
                                exact ih (m - 1) (by omega) (qm_up (qm_up (qm_up (qm_up I 121 (ct.toInt.toNat) 7) 122 (ct.toInt.toNat) pos) 123 (ct.toInt.toNat) 0) 118 10 v70) (qm_up J 124 (ct.toInt.toNat) 0) v70 v28 (hb_up (o := 118) (k := 10) (x := v70) (hb_up (o := 123) (k := ct.toInt.toNat) (x := 0) (hb_up (o := 122) (k := ct.toInt.toNat) (x := pos) (hb_up (o := 121) (k := ct.toInt.toNat) (x := 7) hBI ⟨(show (0 : Int) ≤ 7 from by decide), (show (7 : Int) ≤ 44 from by decide)⟩) (qa_in_full _)) (qa_in_full _)) ⟨by show (0 : Int) ≤ v70.toInt; omega, by show v70.toInt ≤ (401 : Int); omega⟩) (fun o ho i => ((hk_mod ho rfl).trans ((hk_mod ho rfl).trans ((hk_mod ho rfl).trans ((hk_mod ho rfl).trans ((e o (hk_ms rfl ho) i).trans rfl)))))) (fun i hi => ((hk_neq (fun z => by subst z; cases hi)).trans ((hk_ot rfl).trans ((hk_ot rfl).trans ((hk_ot rfl).trans ((e8 i (hk_ms rfl hi)).trans rfl)))))) (show (qm_up (qm_up (qm_up (qm_up I 121 (ct.toInt.toNat) 7) 122 (ct.toInt.toNat) pos) 123 (ct.toInt.toNat) 0) 118 10 v70) 118 10 = _ from (hk_same)) (by omega) (by omega) (by omega) (.int v17) l3 l4 l5 l6 l7
                            · refine qm_Ru.go 8 (c' := (154, [.ref 118, .int pos, .int v17, .int v50, .int 0, .int 6], [.long 0, .int 0, .int pos, .int 6, .ref 118], (h.1, I, J, h.2.2.2))) rfl ?_
                              refine hk_inv (o := 118) (r := []) (as := [.ref 118, .int 6, .int pos, .int 0, .long 0]) rfl rfl (hH.1 118 (17, 105) rfl) rfl rfl rfl rfl ?_
                              refine qm_Ru.go 1 (c' := (1, [.ref 118, .int 6, .int pos, .int 0, .long 0, .float 0], [.ref 118], (h.1, I, J, h.2.2.2))) rfl ?_
                              refine hk_getr rfl (hH.1 118 (17, 105) rfl) rfl (hH.2 118 5 (some 121) rfl) ?_
                              refine qm_Ru.go 1 (c' := (5, [.ref 118, .int 6, .int pos, .int 0, .long 0, .float 0], [.ref 118, .ref 121], (h.1, I, J, h.2.2.2))) rfl ?_
                              refine hk_geti (v := ct) rfl (hH.1 118 (17, 105) rfl) rfl q_ct ?_
                              refine qm_Ru.go 1 (c' := (9, [.ref 118, .int 6, .int pos, .int 0, .long 0, .float 0], [.int 6, .int ct, .ref 121], (h.1, I, J, h.2.2.2))) rfl ?_
                              refine hk_ias rfl (hH.1 121 (0, 403) rfl) (by omega) (by omega) ?_
                              refine qm_Ru.go 1 (c' := (11, [.ref 118, .int 6, .int pos, .int 0, .long 0, .float 0], [.ref 118], (h.1, qm_up I 121 (ct.toInt.toNat) 6, J, h.2.2.2))) rfl ?_
                              refine hk_getr rfl (hH.1 118 (17, 105) rfl) rfl (hH.2 118 6 (some 122) rfl) ?_
                              refine qm_Ru.go 1 (c' := (15, [.ref 118, .int 6, .int pos, .int 0, .long 0, .float 0], [.ref 118, .ref 122], (h.1, qm_up I 121 (ct.toInt.toNat) 6, J, h.2.2.2))) rfl ?_
                              refine hk_geti (v := ct) rfl (hH.1 118 (17, 105) rfl) rfl (show (qm_up I 121 (ct.toInt.toNat) 6) 118 10 = _ from ((hk_ot rfl).trans q_ct)) ?_
                              refine qm_Ru.go 1 (c' := (19, [.ref 118, .int 6, .int pos, .int 0, .long 0, .float 0], [.int pos, .int ct, .ref 122], (h.1, qm_up I 121 (ct.toInt.toNat) 6, J, h.2.2.2))) rfl ?_
                              refine hk_ias rfl (hH.1 122 (0, 403) rfl) (by omega) (by omega) ?_
                              refine qm_Ru.go 1 (c' := (21, [.ref 118, .int 6, .int pos, .int 0, .long 0, .float 0], [.ref 118], (h.1, qm_up (qm_up I 121 (ct.toInt.toNat) 6) 122 (ct.toInt.toNat) pos, J, h.2.2.2))) rfl ?_
                              refine hk_getr rfl (hH.1 118 (17, 105) rfl) rfl (hH.2 118 7 (some 123) rfl) ?_
                              refine qm_Ru.go 1 (c' := (25, [.ref 118, .int 6, .int pos, .int 0, .long 0, .float 0], [.ref 118, .ref 123], (h.1, qm_up (qm_up I 121 (ct.toInt.toNat) 6) 122 (ct.toInt.toNat) pos, J, h.2.2.2))) rfl ?_
                              refine hk_geti (v := ct) rfl (hH.1 118 (17, 105) rfl) rfl (show (qm_up (qm_up I 121 (ct.toInt.toNat) 6) 122 (ct.toInt.toNat) pos) 118 10 = _ from ((hk_ot rfl).trans ((hk_ot rfl).trans q_ct))) ?_
                              refine qm_Ru.go 1 (c' := (29, [.ref 118, .int 6, .int pos, .int 0, .long 0, .float 0], [.int 0, .int ct, .ref 123], (h.1, qm_up (qm_up I 121 (ct.toInt.toNat) 6) 122 (ct.toInt.toNat) pos, J, h.2.2.2))) rfl ?_
                              refine hk_ias rfl (hH.1 123 (0, 403) rfl) (by omega) (by omega) ?_
                              refine qm_Ru.go 1 (c' := (31, [.ref 118, .int 6, .int pos, .int 0, .long 0, .float 0], [.ref 118], (h.1, qm_up (qm_up (qm_up I 121 (ct.toInt.toNat) 6) 122 (ct.toInt.toNat) pos) 123 (ct.toInt.toNat) 0, J, h.2.2.2))) rfl ?_
                              refine hk_getr rfl (hH.1 118 (17, 105) rfl) rfl (hH.2 118 8 (some 124) rfl) ?_
                              refine qm_Ru.go 1 (c' := (35, [.ref 118, .int 6, .int pos, .int 0, .long 0, .float 0], [.ref 118, .ref 124], (h.1, qm_up (qm_up (qm_up I 121 (ct.toInt.toNat) 6) 122 (ct.toInt.toNat) pos) 123 (ct.toInt.toNat) 0, J, h.2.2.2))) rfl ?_
                              refine hk_geti (v := ct) rfl (hH.1 118 (17, 105) rfl) rfl (show (qm_up (qm_up (qm_up I 121 (ct.toInt.toNat) 6) 122 (ct.toInt.toNat) pos) 123 (ct.toInt.toNat) 0) 118 10 = _ from ((hk_ot rfl).trans ((hk_ot rfl).trans ((hk_ot rfl).trans q_ct)))) ?_
                              refine qm_Ru.go 1 (c' := (40, [.ref 118, .int 6, .int pos, .int 0, .long 0, .float 0], [.long 0, .int ct, .ref 124], (h.1, qm_up (qm_up (qm_up I 121 (ct.toInt.toNat) 6) 122 (ct.toInt.toNat) pos) 123 (ct.toInt.toNat) 0, J, h.2.2.2))) rfl ?_
                              refine hk_las rfl (hH.1 124 (3, 403) rfl) (by omega) (by omega) ?_
                              refine qm_Ru.go 2 (c' := (43, [.ref 118, .int 6, .int pos, .int 0, .long 0, .float 0], [.ref 118, .ref 118], (h.1, qm_up (qm_up (qm_up I 121 (ct.toInt.toNat) 6) 122 (ct.toInt.toNat) pos) 123 (ct.toInt.toNat) 0, qm_up J 124 (ct.toInt.toNat) 0, h.2.2.2))) rfl ?_
                              refine hk_geti (v := ct) rfl (hH.1 118 (17, 105) rfl) rfl (show (qm_up (qm_up (qm_up I 121 (ct.toInt.toNat) 6) 122 (ct.toInt.toNat) pos) 123 (ct.toInt.toNat) 0) 118 10 = _ from ((hk_ot rfl).trans ((hk_ot rfl).trans ((hk_ot rfl).trans q_ct)))) ?_
                              refine qm_Ru.go 2 (c' := (48, [.ref 118, .int 6, .int pos, .int 0, .long 0, .float 0], [.int (ct + 1), .ref 118], (h.1, qm_up (qm_up (qm_up I 121 (ct.toInt.toNat) 6) 122 (ct.toInt.toNat) pos) 123 (ct.toInt.toNat) 0, qm_up J 124 (ct.toInt.toNat) 0, h.2.2.2))) rfl ?_
                              obtain ⟨v72, q_v72, e_v72⟩ := hk_add (x := ct) (y := 1) (a := ct.toInt) (b := 1) rfl rfl (by omega) (by omega)
                              rw [q_v72]
                              refine hk_puti rfl (hH.1 118 (17, 105) rfl) rfl ?_
                              refine qm_Ru.go 0 (c' := (51, [.ref 118, .int 6, .int pos, .int 0, .long 0, .float 0], [], (h.1, qm_up (qm_up (qm_up (qm_up I 121 (ct.toInt.toNat) 6) 122 (ct.toInt.toNat) pos) 123 (ct.toInt.toNat) 0) 118 10 v72, qm_up J 124 (ct.toInt.toNat) 0, h.2.2.2))) rfl ?_
                              refine qm_Ru.rt (v := none) (h' := (h.1, qm_up (qm_up (qm_up (qm_up I 121 (ct.toInt.toNat) 6) 122 (ct.toInt.toNat) pos) 123 (ct.toInt.toNat) 0) 118 10 v72, qm_up J 124 (ct.toInt.toNat) 0, h.2.2.2)) rfl ?_
                              refine qm_Ru.go 3 (c' := (167, [.ref 118, .int pos, .int v17, .int v50, .int 0, .int 6], [.int 1], (h.1, qm_up (qm_up (qm_up (qm_up I 121 (ct.toInt.toNat) 6) 122 (ct.toInt.toNat) pos) 123 (ct.toInt.toNat) 0) 118 10 v72, qm_up J 124 (ct.toInt.toNat) 0, h.2.2.2))) rfl ?_
                              refine qm_Ru.rt (v := (some (.int 1))) (h' := (h.1, qm_up (qm_up (qm_up (qm_up I 121 (ct.toInt.toNat) 6) 122 (ct.toInt.toNat) pos) 123 (ct.toInt.toNat) 0) 118 10 v72, qm_up J 124 (ct.toInt.toNat) 0, h.2.2.2)) rfl ?_
                              refine qm_Ru.go 1 (c' := (290, [.ref 118, .int pos, .int v17, l3, l4, l5, l6, l7], [.int (pos + 1)], (h.1, qm_up (qm_up (qm_up (qm_up I 121 (ct.toInt.toNat) 6) 122 (ct.toInt.toNat) pos) 123 (ct.toInt.toNat) 0) 118 10 v72, qm_up J 124 (ct.toInt.toNat) 0, h.2.2.2))) rfl ?_
                              rw [q_v28]
                              refine qm_Ru.go 2 (c' := (7, [.ref 118, .int v28, .int v17, l3, l4, l5, l6, l7], [], (h.1, qm_up (qm_up (qm_up (qm_up I 121 (ct.toInt.toNat) 6) 122 (ct.toInt.toNat) pos) 123 (ct.toInt.toNat) 0) 118 10 v72, qm_up J 124 (ct.toInt.toNat) 0, h.2.2.2))) rfl ?_
                              exact ih (m - 1) (by omega) (qm_up (qm_up (qm_up (qm_up I 121 (ct.toInt.toNat) 6) 122 (ct.toInt.toNat) pos) 123 (ct.toInt.toNat) 0) 118 10 v72) (qm_up J 124 (ct.toInt.toNat) 0) v72 v28 (hb_up (o := 118) (k := 10) (x := v72) (hb_up (o := 123) (k := ct.toInt.toNat) (x := 0) (hb_up (o := 122) (k := ct.toInt.toNat) (x := pos) (hb_up (o := 121) (k := ct.toInt.toNat) (x := 6) hBI ⟨(show (0 : Int) ≤ 6 from by decide), (show (6 : Int) ≤ 44 from by decide)⟩) (qa_in_full _)) (qa_in_full _)) ⟨by show (0 : Int) ≤ v72.toInt; omega, by show v72.toInt ≤ (401 : Int); omega⟩) (fun o ho i => ((hk_mod ho rfl).trans ((hk_mod ho rfl).trans ((hk_mod ho rfl).trans ((hk_mod ho rfl).trans ((e o (hk_ms rfl ho) i).trans rfl)))))) (fun i hi => ((hk_neq (fun z => by subst z; cases hi)).trans ((hk_ot rfl).trans ((hk_ot rfl).trans ((hk_ot rfl).trans ((e8 i (hk_ms rfl hi)).trans rfl)))))) (show (qm_up (qm_up (qm_up (qm_up I 121 (ct.toInt.toNat) 6) 122 (ct.toInt.toNat) pos) 123 (ct.toInt.toNat) 0) 118 10 v72) 118 10 = _ from (hk_same)) (by omega) (by omega) (by omega) (.int v17) l3 l4 l5 l6 l7
                          · refine qm_Ru.go 15 (c' := (154, [.ref 118, .int pos, .int v17, .int v50, .int 12, .int 12], [.long 0, .int 0, .int pos, .int 12, .ref 118], (h.1, I, J, h.2.2.2))) rfl ?_
                            refine hk_inv (o := 118) (r := []) (as := [.ref 118, .int 12, .int pos, .int 0, .long 0]) rfl rfl (hH.1 118 (17, 105) rfl) rfl rfl rfl rfl ?_
                            refine qm_Ru.go 1 (c' := (1, [.ref 118, .int 12, .int pos, .int 0, .long 0, .float 0], [.ref 118], (h.1, I, J, h.2.2.2))) rfl ?_
                            refine hk_getr rfl (hH.1 118 (17, 105) rfl) rfl (hH.2 118 5 (some 121) rfl) ?_
                            refine qm_Ru.go 1 (c' := (5, [.ref 118, .int 12, .int pos, .int 0, .long 0, .float 0], [.ref 118, .ref 121], (h.1, I, J, h.2.2.2))) rfl ?_
                            refine hk_geti (v := ct) rfl (hH.1 118 (17, 105) rfl) rfl q_ct ?_
                            refine qm_Ru.go 1 (c' := (9, [.ref 118, .int 12, .int pos, .int 0, .long 0, .float 0], [.int 12, .int ct, .ref 121], (h.1, I, J, h.2.2.2))) rfl ?_
                            refine hk_ias rfl (hH.1 121 (0, 403) rfl) (by omega) (by omega) ?_
                            refine qm_Ru.go 1 (c' := (11, [.ref 118, .int 12, .int pos, .int 0, .long 0, .float 0], [.ref 118], (h.1, qm_up I 121 (ct.toInt.toNat) 12, J, h.2.2.2))) rfl ?_
                            refine hk_getr rfl (hH.1 118 (17, 105) rfl) rfl (hH.2 118 6 (some 122) rfl) ?_
                            refine qm_Ru.go 1 (c' := (15, [.ref 118, .int 12, .int pos, .int 0, .long 0, .float 0], [.ref 118, .ref 122], (h.1, qm_up I 121 (ct.toInt.toNat) 12, J, h.2.2.2))) rfl ?_
                            refine hk_geti (v := ct) rfl (hH.1 118 (17, 105) rfl) rfl (show (qm_up I 121 (ct.toInt.toNat) 12) 118 10 = _ from ((hk_ot rfl).trans q_ct)) ?_
                            refine qm_Ru.go 1 (c' := (19, [.ref 118, .int 12, .int pos, .int 0, .long 0, .float 0], [.int pos, .int ct, .ref 122], (h.1, qm_up I 121 (ct.toInt.toNat) 12, J, h.2.2.2))) rfl ?_
                            refine hk_ias rfl (hH.1 122 (0, 403) rfl) (by omega) (by omega) ?_
                            refine qm_Ru.go 1 (c' := (21, [.ref 118, .int 12, .int pos, .int 0, .long 0, .float 0], [.ref 118], (h.1, qm_up (qm_up I 121 (ct.toInt.toNat) 12) 122 (ct.toInt.toNat) pos, J, h.2.2.2))) rfl ?_
                            refine hk_getr rfl (hH.1 118 (17, 105) rfl) rfl (hH.2 118 7 (some 123) rfl) ?_
                            refine qm_Ru.go 1 (c' := (25, [.ref 118, .int 12, .int pos, .int 0, .long 0, .float 0], [.ref 118, .ref 123], (h.1, qm_up (qm_up I 121 (ct.toInt.toNat) 12) 122 (ct.toInt.toNat) pos, J, h.2.2.2))) rfl ?_
                            refine hk_geti (v := ct) rfl (hH.1 118 (17, 105) rfl) rfl (show (qm_up (qm_up I 121 (ct.toInt.toNat) 12) 122 (ct.toInt.toNat) pos) 118 10 = _ from ((hk_ot rfl).trans ((hk_ot rfl).trans q_ct))) ?_
                            refine qm_Ru.go 1 (c' := (29, [.ref 118, .int 12, .int pos, .int 0, .long 0, .float 0], [.int 0, .int ct, .ref 123], (h.1, qm_up (qm_up I 121 (ct.toInt.toNat) 12) 122 (ct.toInt.toNat) pos, J, h.2.2.2))) rfl ?_
                            refine hk_ias rfl (hH.1 123 (0, 403) rfl) (by omega) (by omega) ?_
                            refine qm_Ru.go 1 (c' := (31, [.ref 118, .int 12, .int pos, .int 0, .long 0, .float 0], [.ref 118], (h.1, qm_up (qm_up (qm_up I 121 (ct.toInt.toNat) 12) 122 (ct.toInt.toNat) pos) 123 (ct.toInt.toNat) 0, J, h.2.2.2))) rfl ?_
                            refine hk_getr rfl (hH.1 118 (17, 105) rfl) rfl (hH.2 118 8 (some 124) rfl) ?_
                            refine qm_Ru.go 1 (c' := (35, [.ref 118, .int 12, .int pos, .int 0, .long 0, .float 0], [.ref 118, .ref 124], (h.1, qm_up (qm_up (qm_up I 121 (ct.toInt.toNat) 12) 122 (ct.toInt.toNat) pos) 123 (ct.toInt.toNat) 0, J, h.2.2.2))) rfl ?_
                            refine hk_geti (v := ct) rfl (hH.1 118 (17, 105) rfl) rfl (show (qm_up (qm_up (qm_up I 121 (ct.toInt.toNat) 12) 122 (ct.toInt.toNat) pos) 123 (ct.toInt.toNat) 0) 118 10 = _ from ((hk_ot rfl).trans ((hk_ot rfl).trans ((hk_ot rfl).trans q_ct)))) ?_
                            refine qm_Ru.go 1 (c' := (40, [.ref 118, .int 12, .int pos, .int 0, .long 0, .float 0], [.long 0, .int ct, .ref 124], (h.1, qm_up (qm_up (qm_up I 121 (ct.toInt.toNat) 12) 122 (ct.toInt.toNat) pos) 123 (ct.toInt.toNat) 0, J, h.2.2.2))) rfl ?_
                            refine hk_las rfl (hH.1 124 (3, 403) rfl) (by omega) (by omega) ?_
                            refine qm_Ru.go 2 (c' := (43, [.ref 118, .int 12, .int pos, .int 0, .long 0, .float 0], [.ref 118, .ref 118], (h.1, qm_up (qm_up (qm_up I 121 (ct.toInt.toNat) 12) 122 (ct.toInt.toNat) pos) 123 (ct.toInt.toNat) 0, qm_up J 124 (ct.toInt.toNat) 0, h.2.2.2))) rfl ?_
                            refine hk_geti (v := ct) rfl (hH.1 118 (17, 105) rfl) rfl (show (qm_up (qm_up (qm_up I 121 (ct.toInt.toNat) 12) 122 (ct.toInt.toNat) pos) 123 (ct.toInt.toNat) 0) 118 10 = _ from ((hk_ot rfl).trans ((hk_ot rfl).trans ((hk_ot rfl).trans q_ct)))) ?_
                            refine qm_Ru.go 2 (c' := (48, [.ref 118, .int 12, .int pos, .int 0, .long 0, .float 0], [.int (ct + 1), .ref 118], (h.1, qm_up (qm_up (qm_up I 121 (ct.toInt.toNat) 12) 122 (ct.toInt.toNat) pos) 123 (ct.toInt.toNat) 0, qm_up J 124 (ct.toInt.toNat) 0, h.2.2.2))) rfl ?_
                            obtain ⟨v74, q_v74, e_v74⟩ := hk_add (x := ct) (y := 1) (a := ct.toInt) (b := 1) rfl rfl (by omega) (by omega)
                            rw [q_v74]
                            refine hk_puti rfl (hH.1 118 (17, 105) rfl) rfl ?_
                            refine qm_Ru.go 0 (c' := (51, [.ref 118, .int 12, .int pos, .int 0, .long 0, .float 0], [], (h.1, qm_up (qm_up (qm_up (qm_up I 121 (ct.toInt.toNat) 12) 122 (ct.toInt.toNat) pos) 123 (ct.toInt.toNat) 0) 118 10 v74, qm_up J 124 (ct.toInt.toNat) 0, h.2.2.2))) rfl ?_
                            refine qm_Ru.rt (v := none) (h' := (h.1, qm_up (qm_up (qm_up (qm_up I 121 (ct.toInt.toNat) 12) 122 (ct.toInt.toNat) pos) 123 (ct.toInt.toNat) 0) 118 10 v74, qm_up J 124 (ct.toInt.toNat) 0, h.2.2.2)) rfl ?_
                            refine qm_Ru.go 4 (c' := (167, [.ref 118, .int pos, .int v17, .int v50, .int 12, .int 12], [.int 2], (h.1, qm_up (qm_up (qm_up (qm_up I 121 (ct.toInt.toNat) 12) 122 (ct.toInt.toNat) pos) 123 (ct.toInt.toNat) 0) 118 10 v74, qm_up J 124 (ct.toInt.toNat) 0, h.2.2.2))) rfl ?_
                            refine qm_Ru.rt (v := (some (.int 2))) (h' := (h.1, qm_up (qm_up (qm_up (qm_up I 121 (ct.toInt.toNat) 12) 122 (ct.toInt.toNat) pos) 123 (ct.toInt.toNat) 0) 118 10 v74, qm_up J 124 (ct.toInt.toNat) 0, h.2.2.2)) rfl ?_
                            refine qm_Ru.go 1 (c' := (290, [.ref 118, .int pos, .int v17, l3, l4, l5, l6, l7], [.int (pos + 2)], (h.1, qm_up (qm_up (qm_up (qm_up I 121 (ct.toInt.toNat) 12) 122 (ct.toInt.toNat) pos) 123 (ct.toInt.toNat) 0) 118 10 v74, qm_up J 124 (ct.toInt.toNat) 0, h.2.2.2))) rfl ?_
                            obtain ⟨v75, q_v75, e_v75⟩ := hk_add (x := pos) (y := 2) (a := pos.toInt) (b := 2) rfl rfl (by omega) (by omega)
                            rw [q_v75]
                            refine qm_Ru.go 2 (c' := (7, [.ref 118, .int v75, .int v17, l3, l4, l5, l6, l7], [], (h.1, qm_up (qm_up (qm_up (qm_up I 121 (ct.toInt.toNat) 12) 122 (ct.toInt.toNat) pos) 123 (ct.toInt.toNat) 0) 118 10 v74, qm_up J 124 (ct.toInt.toNat) 0, h.2.2.2))) rfl ?_
                            exact ih (m - 1) (by omega) (qm_up (qm_up (qm_up (qm_up I 121 (ct.toInt.toNat) 12) 122 (ct.toInt.toNat) pos) 123 (ct.toInt.toNat) 0) 118 10 v74) (qm_up J 124 (ct.toInt.toNat) 0) v74 v75 (hb_up (o := 118) (k := 10) (x := v74) (hb_up (o := 123) (k := ct.toInt.toNat) (x := 0) (hb_up (o := 122) (k := ct.toInt.toNat) (x := pos) (hb_up (o := 121) (k := ct.toInt.toNat) (x := 12) hBI ⟨(show (0 : Int) ≤ 12 from by decide), (show (12 : Int) ≤ 44 from by decide)⟩) (qa_in_full _)) (qa_in_full _)) ⟨by show (0 : Int) ≤ v74.toInt; omega, by show v74.toInt ≤ (401 : Int); omega⟩) (fun o ho i => ((hk_mod ho rfl).trans ((hk_mod ho rfl).trans ((hk_mod ho rfl).trans ((hk_mod ho rfl).trans ((e o (hk_ms rfl ho) i).trans rfl)))))) (fun i hi => ((hk_neq (fun z => by subst z; cases hi)).trans ((hk_ot rfl).trans ((hk_ot rfl).trans ((hk_ot rfl).trans ((e8 i (hk_ms rfl hi)).trans rfl)))))) (show (qm_up (qm_up (qm_up (qm_up I 121 (ct.toInt.toNat) 12) 122 (ct.toInt.toNat) pos) 123 (ct.toInt.toNat) 0) 118 10 v74) 118 10 = _ from (hk_same)) (by omega) (by omega) (by omega) (.int v17) l3 l4 l5 l6 l7
                        · refine qm_Ru.go 9 (c' := (64, [.ref 118, .int pos, .int v17, .int v50, .int 0, .int 3], [.int 59, .int v17], (h.1, I, J, h.2.2.2))) rfl ?_
                          refine hk_cne (ix := v17.toInt) (iy := 59) rfl rfl rfl (fun z76 => ?_) (fun z76 => by exfalso; omega)
                          refine qm_Ru.go 2 (c' := (76, [.ref 118, .int pos, .int v17, .int v50, .int 0, .int 3], [.int 40, .int v17], (h.1, I, J, h.2.2.2))) rfl ?_
                          refine hk_cne (ix := v17.toInt) (iy := 40) rfl rfl rfl (fun z77 => ?_) (fun z77 => ?_)
                          · refine qm_Ru.go 2 (c' := (89, [.ref 118, .int pos, .int v17, .int v50, .int 0, .int 3], [.int 41, .int v17], (h.1, I, J, h.2.2.2))) rfl ?_
                            refine hk_cne (ix := v17.toInt) (iy := 41) rfl rfl rfl (fun z78 => ?_) (fun z78 => ?_)
                            · refine qm_Ru.go 2 (c' := (102, [.ref 118, .int pos, .int v17, .int v50, .int 0, .int 3], [.int 43, .int v17], (h.1, I, J, h.2.2.2))) rfl ?_
                              refine hk_cne (ix := v17.toInt) (iy := 43) rfl rfl rfl (fun z79 => ?_) (fun z79 => ?_)
                              · refine qm_Ru.go 2 (c' := (115, [.ref 118, .int pos, .int v17, .int v50, .int 0, .int 3], [.int 45, .int v17], (h.1, I, J, h.2.2.2))) rfl ?_
                                refine hk_cne (ix := v17.toInt) (iy := 45) rfl rfl rfl (fun z80 => ?_) (fun z80 => ?_)
                                · refine qm_Ru.go 2 (c' := (128, [.ref 118, .int pos, .int v17, .int v50, .int 0, .int 3], [.int 42, .int v17], (h.1, I, J, h.2.2.2))) rfl ?_
                                  refine hk_cne (ix := v17.toInt) (iy := 42) rfl rfl rfl (fun z81 => ?_) (fun z81 => ?_)
                                  · refine qm_Ru.go 2 (c' := (141, [.ref 118, .int pos, .int v17, .int v50, .int 0, .int 3], [.int 60, .int v17], (h.1, I, J, h.2.2.2))) rfl ?_
                                    refine hk_cne (ix := v17.toInt) (iy := 60) rfl rfl rfl (fun z82 => ?_) (fun z82 => by exfalso; omega)
                                    refine qm_Ru.go 5 (c' := (154, [.ref 118, .int pos, .int v17, .int v50, .int 0, .int 3], [.long 0, .int 0, .int pos, .int 3, .ref 118], (h.1, I, J, h.2.2.2))) rfl ?_
                                    refine hk_inv (o := 118) (r := []) (as := [.ref 118, .int 3, .int pos, .int 0, .long 0]) rfl rfl (hH.1 118 (17, 105) rfl) rfl rfl rfl rfl ?_
                                    refine qm_Ru.go 1 (c' := (1, [.ref 118, .int 3, .int pos, .int 0, .long 0, .float 0], [.ref 118], (h.1, I, J, h.2.2.2))) rfl ?_
                                    refine hk_getr rfl (hH.1 118 (17, 105) rfl) rfl (hH.2 118 5 (some 121) rfl) ?_
                                    refine qm_Ru.go 1 (c' := (5, [.ref 118, .int 3, .int pos, .int 0, .long 0, .float 0], [.ref 118, .ref 121], (h.1, I, J, h.2.2.2))) rfl ?_
                                    refine hk_geti (v := ct) rfl (hH.1 118 (17, 105) rfl) rfl q_ct ?_
                                    refine qm_Ru.go 1 (c' := (9, [.ref 118, .int 3, .int pos, .int 0, .long 0, .float 0], [.int 3, .int ct, .ref 121], (h.1, I, J, h.2.2.2))) rfl ?_
                                    refine hk_ias rfl (hH.1 121 (0, 403) rfl) (by omega) (by omega) ?_
                                    refine qm_Ru.go 1 (c' := (11, [.ref 118, .int 3, .int pos, .int 0, .long 0, .float 0], [.ref 118], (h.1, qm_up I 121 (ct.toInt.toNat) 3, J, h.2.2.2))) rfl ?_
                                    refine hk_getr rfl (hH.1 118 (17, 105) rfl) rfl (hH.2 118 6 (some 122) rfl) ?_
                                    refine qm_Ru.go 1 (c' := (15, [.ref 118, .int 3, .int pos, .int 0, .long 0, .float 0], [.ref 118, .ref 122], (h.1, qm_up I 121 (ct.toInt.toNat) 3, J, h.2.2.2))) rfl ?_
                                    refine hk_geti (v := ct) rfl (hH.1 118 (17, 105) rfl) rfl (show (qm_up I 121 (ct.toInt.toNat) 3) 118 10 = _ from ((hk_ot rfl).trans q_ct)) ?_
                                    refine qm_Ru.go 1 (c' := (19, [.ref 118, .int 3, .int pos, .int 0, .long 0, .float 0], [.int pos, .int ct, .ref 122], (h.1, qm_up I 121 (ct.toInt.toNat) 3, J, h.2.2.2))) rfl ?_
                                    refine hk_ias rfl (hH.1 122 (0, 403) rfl) (by omega) (by omega) ?_
                                    refine qm_Ru.go 1 (c' := (21, [.ref 118, .int 3, .int pos, .int 0, .long 0, .float 0], [.ref 118], (h.1, qm_up (qm_up I 121 (ct.toInt.toNat) 3) 122 (ct.toInt.toNat) pos, J, h.2.2.2))) rfl ?_
                                    refine hk_getr rfl (hH.1 118 (17, 105) rfl) rfl (hH.2 118 7 (some 123) rfl) ?_
                                    refine qm_Ru.go 1 (c' := (25, [.ref 118, .int 3, .int pos, .int 0, .long 0, .float 0], [.ref 118, .ref 123], (h.1, qm_up (qm_up I 121 (ct.toInt.toNat) 3) 122 (ct.toInt.toNat) pos, J, h.2.2.2))) rfl ?_
                                    refine hk_geti (v := ct) rfl (hH.1 118 (17, 105) rfl) rfl (show (qm_up (qm_up I 121 (ct.toInt.toNat) 3) 122 (ct.toInt.toNat) pos) 118 10 = _ from ((hk_ot rfl).trans ((hk_ot rfl).trans q_ct))) ?_
                                    refine qm_Ru.go 1 (c' := (29, [.ref 118, .int 3, .int pos, .int 0, .long 0, .float 0], [.int 0, .int ct, .ref 123], (h.1, qm_up (qm_up I 121 (ct.toInt.toNat) 3) 122 (ct.toInt.toNat) pos, J, h.2.2.2))) rfl ?_
                                    refine hk_ias rfl (hH.1 123 (0, 403) rfl) (by omega) (by omega) ?_
                                    refine qm_Ru.go 1 (c' := (31, [.ref 118, .int 3, .int pos, .int 0, .long 0, .float 0], [.ref 118], (h.1, qm_up (qm_up (qm_up I 121 (ct.toInt.toNat) 3) 122 (ct.toInt.toNat) pos) 123 (ct.toInt.toNat) 0, J, h.2.2.2))) rfl ?_
                                    refine hk_getr rfl (hH.1 118 (17, 105) rfl) rfl (hH.2 118 8 (some 124) rfl) ?_
                                    refine qm_Ru.go 1 (c' := (35, [.ref 118, .int 3, .int pos, .int 0, .long 0, .float 0], [.ref 118, .ref 124], (h.1, qm_up (qm_up (qm_up I 121 (ct.toInt.toNat) 3) 122 (ct.toInt.toNat) pos) 123 (ct.toInt.toNat) 0, J, h.2.2.2))) rfl ?_
                                    refine hk_geti (v := ct) rfl (hH.1 118 (17, 105) rfl) rfl (show (qm_up (qm_up (qm_up I 121 (ct.toInt.toNat) 3) 122 (ct.toInt.toNat) pos) 123 (ct.toInt.toNat) 0) 118 10 = _ from ((hk_ot rfl).trans ((hk_ot rfl).trans ((hk_ot rfl).trans q_ct)))) ?_
                                    refine qm_Ru.go 1 (c' := (40, [.ref 118, .int 3, .int pos, .int 0, .long 0, .float 0], [.long 0, .int ct, .ref 124], (h.1, qm_up (qm_up (qm_up I 121 (ct.toInt.toNat) 3) 122 (ct.toInt.toNat) pos) 123 (ct.toInt.toNat) 0, J, h.2.2.2))) rfl ?_
                                    refine hk_las rfl (hH.1 124 (3, 403) rfl) (by omega) (by omega) ?_
                                    refine qm_Ru.go 2 (c' := (43, [.ref 118, .int 3, .int pos, .int 0, .long 0, .float 0], [.ref 118, .ref 118], (h.1, qm_up (qm_up (qm_up I 121 (ct.toInt.toNat) 3) 122 (ct.toInt.toNat) pos) 123 (ct.toInt.toNat) 0, qm_up J 124 (ct.toInt.toNat) 0, h.2.2.2))) rfl ?_
                                    refine hk_geti (v := ct) rfl (hH.1 118 (17, 105) rfl) rfl (show (qm_up (qm_up (qm_up I 121 (ct.toInt.toNat) 3) 122 (ct.toInt.toNat) pos) 123 (ct.toInt.toNat) 0) 118 10 = _ from ((hk_ot rfl).trans ((hk_ot rfl).trans ((hk_ot rfl).trans q_ct)))) ?_
                                    refine qm_Ru.go 2 (c' := (48, [.ref 118, .int 3, .int pos, .int 0, .long 0, .float 0], [.int (ct + 1), .ref 118], (h.1, qm_up (qm_up (qm_up I 121 (ct.toInt.toNat) 3) 122 (ct.toInt.toNat) pos) 123 (ct.toInt.toNat) 0, qm_up J 124 (ct.toInt.toNat) 0, h.2.2.2))) rfl ?_
                                    obtain ⟨v83, q_v83, e_v83⟩ := hk_add (x := ct) (y := 1) (a := ct.toInt) (b := 1) rfl rfl (by omega) (by omega)
                                    rw [q_v83]
                                    refine hk_puti rfl (hH.1 118 (17, 105) rfl) rfl ?_
                                    refine qm_Ru.go 0 (c' := (51, [.ref 118, .int 3, .int pos, .int 0, .long 0, .float 0], [], (h.1, qm_up (qm_up (qm_up (qm_up I 121 (ct.toInt.toNat) 3) 122 (ct.toInt.toNat) pos) 123 (ct.toInt.toNat) 0) 118 10 v83, qm_up J 124 (ct.toInt.toNat) 0, h.2.2.2))) rfl ?_
                                    refine qm_Ru.rt (v := none) (h' := (h.1, qm_up (qm_up (qm_up (qm_up I 121 (ct.toInt.toNat) 3) 122 (ct.toInt.toNat) pos) 123 (ct.toInt.toNat) 0) 118 10 v83, qm_up J 124 (ct.toInt.toNat) 0, h.2.2.2)) rfl ?_
                                    refine qm_Ru.go 3 (c' := (167, [.ref 118, .int pos, .int v17, .int v50, .int 0, .int 3], [.int 1], (h.1, qm_up (qm_up (qm_up (qm_up I 121 (ct.toInt.toNat) 3) 122 (ct.toInt.toNat) pos) 123 (ct.toInt.toNat) 0) 118 10 v83, qm_up J 124 (ct.toInt.toNat) 0, h.2.2.2))) rfl ?_
                                    refine qm_Ru.rt (v := (some (.int 1))) (h' := (h.1, qm_up (qm_up (qm_up (qm_up I 121 (ct.toInt.toNat) 3) 122 (ct.toInt.toNat) pos) 123 (ct.toInt.toNat) 0) 118 10 v83, qm_up J 124 (ct.toInt.toNat) 0, h.2.2.2)) rfl ?_
                                    refine qm_Ru.go 1 (c' := (290, [.ref 118, .int pos, .int v17, l3, l4, l5, l6, l7], [.int (pos + 1)], (h.1, qm_up (qm_up (qm_up (qm_up I 121 (ct.toInt.toNat) 3) 122 (ct.toInt.toNat) pos) 123 (ct.toInt.toNat) 0) 118 10 v83, qm_up J 124 (ct.toInt.toNat) 0, h.2.2.2))) rfl ?_
                                    rw [q_v28]
                                    refine qm_Ru.go 2 (c' := (7, [.ref 118, .int v28, .int v17, l3, l4, l5, l6, l7], [], (h.1, qm_up (qm_up (qm_up (qm_up I 121 (ct.toInt.toNat) 3) 122 (ct.toInt.toNat) pos) 123 (ct.toInt.toNat) 0) 118 10 v83, qm_up J 124 (ct.toInt.toNat) 0, h.2.2.2))) rfl ?_
                                    exact ih (m - 1) (by omega) (qm_up (qm_up (qm_up (qm_up I 121 (ct.toInt.toNat) 3) 122 (ct.toInt.toNat) pos) 123 (ct.toInt.toNat) 0) 118 10 v83) (qm_up J 124 (ct.toInt.toNat) 0) v83 v28 (hb_up (o := 118) (k := 10) (x := v83) (hb_up (o := 123) (k := ct.toInt.toNat) (x := 0) (hb_up (o := 122) (k := ct.toInt.toNat) (x := pos) (hb_up (o := 121) (k := ct.toInt.toNat) (x := 3) hBI ⟨(show (0 : Int) ≤ 3 from by decide), (show (3 : Int) ≤ 44 from by decide)⟩) (qa_in_full _)) (qa_in_full _)) ⟨by show (0 : Int) ≤ v83.toInt; omega, by show v83.toInt ≤ (401 : Int); omega⟩) (fun o ho i => ((hk_mod ho rfl).trans ((hk_mod ho rfl).trans ((hk_mod ho rfl).trans ((hk_mod ho rfl).trans ((e o (hk_ms rfl ho) i).trans rfl)))))) (fun i hi => ((hk_neq (fun z => by subst z; cases hi)).trans ((hk_ot rfl).trans ((hk_ot rfl).trans ((hk_ot rfl).trans ((e8 i (hk_ms rfl hi)).trans rfl)))))) (show (qm_up (qm_up (qm_up (qm_up I 121 (ct.toInt.toNat) 3) 122 (ct.toInt.toNat) pos) 123 (ct.toInt.toNat) 0) 118 10 v83) 118 10 = _ from (hk_same)) (by omega) (by omega) (by omega) (.int v17) l3 l4 l5 l6 l7
                                  · refine qm_Ru.go 8 (c' := (154, [.ref 118, .int pos, .int v17, .int v50, .int 0, .int 10], [.long 0, .int 0, .int pos, .int 10, .ref 118], (h.1, I, J, h.2.2.2))) rfl ?_
                                    refine hk_inv (o := 118) (r := []) (as := [.ref 118, .int 10, .int pos, .int 0, .long 0]) rfl rfl (hH.1 118 (17, 105) rfl) rfl rfl rfl rfl ?_
                                    refine qm_Ru.go 1 (c' := (1, [.ref 118, .int 10, .int pos, .int 0, .long 0, .float 0], [.ref 118], (h.1, I, J, h.2.2.2))) rfl ?_
                                    refine hk_getr rfl (hH.1 118 (17, 105) rfl) rfl (hH.2 118 5 (some 121) rfl) ?_
                                    refine qm_Ru.go 1 (c' := (5, [.ref 118, .int 10, .int pos, .int 0, .long 0, .float 0], [.ref 118, .ref 121], (h.1, I, J, h.2.2.2))) rfl ?_
                                    refine hk_geti (v := ct) rfl (hH.1 118 (17, 105) rfl) rfl q_ct ?_
                                    refine qm_Ru.go 1 (c' := (9, [.ref 118, .int 10, .int pos, .int 0, .long 0, .float 0], [.int 10, .int ct, .ref 121], (h.1, I, J, h.2.2.2))) rfl ?_
                                    refine hk_ias rfl (hH.1 121 (0, 403) rfl) (by omega) (by omega) ?_
                                    refine qm_Ru.go 1 (c' := (11, [.ref 118, .int 10, .int pos, .int 0, .long 0, .float 0], [.ref 118], (h.1, qm_up I 121 (ct.toInt.toNat) 10, J, h.2.2.2))) rfl ?_
                                    refine hk_getr rfl (hH.1 118 (17, 105) rfl) rfl (hH.2 118 6 (some 122) rfl) ?_
                                    refine qm_Ru.go 1 (c' := (15, [.ref 118, .int 10, .int pos, .int 0, .long 0, .float 0], [.ref 118, .ref 122], (h.1, qm_up I 121 (ct.toInt.toNat) 10, J, h.2.2.2))) rfl ?_
                                    refine hk_geti (v := ct) rfl (hH.1 118 (17, 105) rfl) rfl (show (qm_up I 121 (ct.toInt.toNat) 10) 118 10 = _ from ((hk_ot rfl).trans q_ct)) ?_
                                    refine qm_Ru.go 1 (c' := (19, [.ref 118, .int 10, .int pos, .int 0, .long 0, .float 0], [.int pos, .int ct, .ref 122], (h.1, qm_up I 121 (ct.toInt.toNat) 10, J, h.2.2.2))) rfl ?_
                                    refine hk_ias rfl (hH.1 122 (0, 403) rfl) (by omega) (by omega) ?_
                                    refine qm_Ru.go 1 (c' := (21, [.ref 118, .int 10, .int pos, .int 0, .long 0, .float 0], [.ref 118], (h.1, qm_up (qm_up I 121 (ct.toInt.toNat) 10) 122 (ct.toInt.toNat) pos, J, h.2.2.2))) rfl ?_
                                    refine hk_getr rfl (hH.1 118 (17, 105) rfl) rfl (hH.2 118 7 (some 123) rfl) ?_
                                    refine qm_Ru.go 1 (c' := (25, [.ref 118, .int 10, .int pos, .int 0, .long 0, .float 0], [.ref 118, .ref 123], (h.1, qm_up (qm_up I 121 (ct.toInt.toNat) 10) 122 (ct.toInt.toNat) pos, J, h.2.2.2))) rfl ?_
                                    refine hk_geti (v := ct) rfl (hH.1 118 (17, 105) rfl) rfl (show (qm_up (qm_up I 121 (ct.toInt.toNat) 10) 122 (ct.toInt.toNat) pos) 118 10 = _ from ((hk_ot rfl).trans ((hk_ot rfl).trans q_ct))) ?_
                                    refine qm_Ru.go 1 (c' := (29, [.ref 118, .int 10, .int pos, .int 0, .long 0, .float 0], [.int 0, .int ct, .ref 123], (h.1, qm_up (qm_up I 121 (ct.toInt.toNat) 10) 122 (ct.toInt.toNat) pos, J, h.2.2.2))) rfl ?_
                                    refine hk_ias rfl (hH.1 123 (0, 403) rfl) (by omega) (by omega) ?_
                                    refine qm_Ru.go 1 (c' := (31, [.ref 118, .int 10, .int pos, .int 0, .long 0, .float 0], [.ref 118], (h.1, qm_up (qm_up (qm_up I 121 (ct.toInt.toNat) 10) 122 (ct.toInt.toNat) pos) 123 (ct.toInt.toNat) 0, J, h.2.2.2))) rfl ?_
                                    refine hk_getr rfl (hH.1 118 (17, 105) rfl) rfl (hH.2 118 8 (some 124) rfl) ?_
                                    refine qm_Ru.go 1 (c' := (35, [.ref 118, .int 10, .int pos, .int 0, .long 0, .float 0], [.ref 118, .ref 124], (h.1, qm_up (qm_up (qm_up I 121 (ct.toInt.toNat) 10) 122 (ct.toInt.toNat) pos) 123 (ct.toInt.toNat) 0, J, h.2.2.2))) rfl ?_
                                    refine hk_geti (v := ct) rfl (hH.1 118 (17, 105) rfl) rfl (show (qm_up (qm_up (qm_up I 121 (ct.toInt.toNat) 10) 122 (ct.toInt.toNat) pos) 123 (ct.toInt.toNat) 0) 118 10 = _ from ((hk_ot rfl).trans ((hk_ot rfl).trans ((hk_ot rfl).trans q_ct)))) ?_
                                    refine qm_Ru.go 1 (c' := (40, [.ref 118, .int 10, .int pos, .int 0, .long 0, .float 0], [.long 0, .int ct, .ref 124], (h.1, qm_up (qm_up (qm_up I 121 (ct.toInt.toNat) 10) 122 (ct.toInt.toNat) pos) 123 (ct.toInt.toNat) 0, J, h.2.2.2))) rfl ?_
                                    refine hk_las rfl (hH.1 124 (3, 403) rfl) (by omega) (by omega) ?_
                                    refine qm_Ru.go 2 (c' := (43, [.ref 118, .int 10, .int pos, .int 0, .long 0, .float 0], [.ref 118, .ref 118], (h.1, qm_up (qm_up (qm_up I 121 (ct.toInt.toNat) 10) 122 (ct.toInt.toNat) pos) 123 (ct.toInt.toNat) 0, qm_up J 124 (ct.toInt.toNat) 0, h.2.2.2))) rfl ?_
                                    refine hk_geti (v := ct) rfl (hH.1 118 (17, 105) rfl) rfl (show (qm_up (qm_up (qm_up I 121 (ct.toInt.toNat) 10) 122 (ct.toInt.toNat) pos) 123 (ct.toInt.toNat) 0) 118 10 = _ from ((hk_ot rfl).trans ((hk_ot rfl).trans ((hk_ot rfl).trans q_ct)))) ?_
                                    refine qm_Ru.go 2 (c' := (48, [.ref 118, .int 10, .int pos, .int 0, .long 0, .float 0], [.int (ct + 1), .ref 118], (h.1, qm_up (qm_up (qm_up I 121 (ct.toInt.toNat) 10) 122 (ct.toInt.toNat) pos) 123 (ct.toInt.toNat) 0, qm_up J 124 (ct.toInt.toNat) 0, h.2.2.2))) rfl ?_
                                    obtain ⟨v85, q_v85, e_v85⟩ := hk_add (x := ct) (y := 1) (a := ct.toInt) (b := 1) rfl rfl (by omega) (by omega)
                                    rw [q_v85]
                                    refine hk_puti rfl (hH.1 118 (17, 105) rfl) rfl ?_
                                    refine qm_Ru.go 0 (c' := (51, [.ref 118, .int 10, .int pos, .int 0, .long 0, .float 0], [], (h.1, qm_up (qm_up (qm_up (qm_up I 121 (ct.toInt.toNat) 10) 122 (ct.toInt.toNat) pos) 123 (ct.toInt.toNat) 0) 118 10 v85, qm_up J 124 (ct.toInt.toNat) 0, h.2.2.2))) rfl ?_
                                    refine qm_Ru.rt (v := none) (h' := (h.1, qm_up (qm_up (qm_up (qm_up I 121 (ct.toInt.toNat) 10) 122 (ct.toInt.toNat) pos) 123 (ct.toInt.toNat) 0) 118 10 v85, qm_up J 124 (ct.toInt.toNat) 0, h.2.2.2)) rfl ?_
                                    refine qm_Ru.go 3 (c' := (167, [.ref 118, .int pos, .int v17, .int v50, .int 0, .int 10], [.int 1], (h.1, qm_up (qm_up (qm_up (qm_up I 121 (ct.toInt.toNat) 10) 122 (ct.toInt.toNat) pos) 123 (ct.toInt.toNat) 0) 118 10 v85, qm_up J 124 (ct.toInt.toNat) 0, h.2.2.2))) rfl ?_
                                    refine qm_Ru.rt (v := (some (.int 1))) (h' := (h.1, qm_up (qm_up (qm_up (qm_up I 121 (ct.toInt.toNat) 10) 122 (ct.toInt.toNat) pos) 123 (ct.toInt.toNat) 0) 118 10 v85, qm_up J 124 (ct.toInt.toNat) 0, h.2.2.2)) rfl ?_
                                    refine qm_Ru.go 1 (c' := (290, [.ref 118, .int pos, .int v17, l3, l4, l5, l6, l7], [.int (pos + 1)], (h.1, qm_up (qm_up (qm_up (qm_up I 121 (ct.toInt.toNat) 10) 122 (ct.toInt.toNat) pos) 123 (ct.toInt.toNat) 0) 118 10 v85, qm_up J 124 (ct.toInt.toNat) 0, h.2.2.2))) rfl ?_
                                    rw [q_v28]
                                    refine qm_Ru.go 2 (c' := (7, [.ref 118, .int v28, .int v17, l3, l4, l5, l6, l7], [], (h.1, qm_up (qm_up (qm_up (qm_up I 121 (ct.toInt.toNat) 10) 122 (ct.toInt.toNat) pos) 123 (ct.toInt.toNat) 0) 118 10 v85, qm_up J 124 (ct.toInt.toNat) 0, h.2.2.2))) rfl ?_
                                    exact ih (m - 1) (by omega) (qm_up (qm_up (qm_up (qm_up I 121 (ct.toInt.toNat) 10) 122 (ct.toInt.toNat) pos) 123 (ct.toInt.toNat) 0) 118 10 v85) (qm_up J 124 (ct.toInt.toNat) 0) v85 v28 (hb_up (o := 118) (k := 10) (x := v85) (hb_up (o := 123) (k := ct.toInt.toNat) (x := 0) (hb_up (o := 122) (k := ct.toInt.toNat) (x := pos) (hb_up (o := 121) (k := ct.toInt.toNat) (x := 10) hBI ⟨(show (0 : Int) ≤ 10 from by decide), (show (10 : Int) ≤ 44 from by decide)⟩) (qa_in_full _)) (qa_in_full _)) ⟨by show (0 : Int) ≤ v85.toInt; omega, by show v85.toInt ≤ (401 : Int); omega⟩) (fun o ho i => ((hk_mod ho rfl).trans ((hk_mod ho rfl).trans ((hk_mod ho rfl).trans ((hk_mod ho rfl).trans ((e o (hk_ms rfl ho) i).trans rfl)))))) (fun i hi => ((hk_neq (fun z => by subst z; cases hi)).trans ((hk_ot rfl).trans ((hk_ot rfl).trans ((hk_ot rfl).trans ((e8 i (hk_ms rfl hi)).trans rfl)))))) (show (qm_up (qm_up (qm_up (qm_up I 121 (ct.toInt.toNat) 10) 122 (ct.toInt.toNat) pos) 123 (ct.toInt.toNat) 0) 118 10 v85) 118 10 = _ from (hk_same)) (by omega) (by omega) (by omega) (.int v17) l3 l4 l5 l6 l7
                                · refine qm_Ru.go 8 (c' := (154, [.ref 118, .int pos, .int v17, .int v50, .int 0, .int 9], [.long 0, .int 0, .int pos, .int 9, .ref 118], (h.1, I, J, h.2.2.2))) rfl ?_
                                  refine hk_inv (o := 118) (r := []) (as := [.ref 118, .int 9, .int pos, .int 0, .long 0]) rfl rfl (hH.1 118 (17, 105) rfl) rfl rfl rfl rfl ?_
                                  refine qm_Ru.go 1 (c' := (1, [.ref 118, .int 9, .int pos, .int 0, .long 0, .float 0], [.ref 118], (h.1, I, J, h.2.2.2))) rfl ?_
                                  refine hk_getr rfl (hH.1 118 (17, 105) rfl) rfl (hH.2 118 5 (some 121) rfl) ?_
                                  refine qm_Ru.go 1 (c' := (5, [.ref 118, .int 9, .int pos, .int 0, .long 0, .float 0], [.ref 118, .ref 121], (h.1, I, J, h.2.2.2))) rfl ?_
                                  refine hk_geti (v := ct) rfl (hH.1 118 (17, 105) rfl) rfl q_ct ?_
                                  refine qm_Ru.go 1 (c' := (9, [.ref 118, .int 9, .int pos, .int 0, .long 0, .float 0], [.int 9, .int ct, .ref 121], (h.1, I, J, h.2.2.2))) rfl ?_
                                  refine hk_ias rfl (hH.1 121 (0, 403) rfl) (by omega) (by omega) ?_
                                  refine qm_Ru.go 1 (c' := (11, [.ref 118, .int 9, .int pos, .int 0, .long 0, .float 0], [.ref 118], (h.1, qm_up I 121 (ct.toInt.toNat) 9, J, h.2.2.2))) rfl ?_
                                  refine hk_getr rfl (hH.1 118 (17, 105) rfl) rfl (hH.2 118 6 (some 122) rfl) ?_
                                  refine qm_Ru.go 1 (c' := (15, [.ref 118, .int 9, .int pos, .int 0, .long 0, .float 0], [.ref 118, .ref 122], (h.1, qm_up I 121 (ct.toInt.toNat) 9, J, h.2.2.2))) rfl ?_
                                  refine hk_geti (v := ct) rfl (hH.1 118 (17, 105) rfl) rfl (show (qm_up I 121 (ct.toInt.toNat) 9) 118 10 = _ from ((hk_ot rfl).trans q_ct)) ?_
                                  refine qm_Ru.go 1 (c' := (19, [.ref 118, .int 9, .int pos, .int 0, .long 0, .float 0], [.int pos, .int ct, .ref 122], (h.1, qm_up I 121 (ct.toInt.toNat) 9, J, h.2.2.2))) rfl ?_
                                  refine hk_ias rfl (hH.1 122 (0, 403) rfl) (by omega) (by omega) ?_
                                  refine qm_Ru.go 1 (c' := (21, [.ref 118, .int 9, .int pos, .int 0, .long 0, .float 0], [.ref 118], (h.1, qm_up (qm_up I 121 (ct.toInt.toNat) 9) 122 (ct.toInt.toNat) pos, J, h.2.2.2))) rfl ?_
                                  refine hk_getr rfl (hH.1 118 (17, 105) rfl) rfl (hH.2 118 7 (some 123) rfl) ?_
                                  refine qm_Ru.go 1 (c' := (25, [.ref 118, .int 9, .int pos, .int 0, .long 0, .float 0], [.ref 118, .ref 123], (h.1, qm_up (qm_up I 121 (ct.toInt.toNat) 9) 122 (ct.toInt.toNat) pos, J, h.2.2.2))) rfl ?_
                                  refine hk_geti (v := ct) rfl (hH.1 118 (17, 105) rfl) rfl (show (qm_up (qm_up I 121 (ct.toInt.toNat) 9) 122 (ct.toInt.toNat) pos) 118 10 = _ from ((hk_ot rfl).trans ((hk_ot rfl).trans q_ct))) ?_
                                  refine qm_Ru.go 1 (c' := (29, [.ref 118, .int 9, .int pos, .int 0, .long 0, .float 0], [.int 0, .int ct, .ref 123], (h.1, qm_up (qm_up I 121 (ct.toInt.toNat) 9) 122 (ct.toInt.toNat) pos, J, h.2.2.2))) rfl ?_
                                  refine hk_ias rfl (hH.1 123 (0, 403) rfl) (by omega) (by omega) ?_
                                  refine qm_Ru.go 1 (c' := (31, [.ref 118, .int 9, .int pos, .int 0, .long 0, .float 0], [.ref 118], (h.1, qm_up (qm_up (qm_up I 121 (ct.toInt.toNat) 9) 122 (ct.toInt.toNat) pos) 123 (ct.toInt.toNat) 0, J, h.2.2.2))) rfl ?_
                                  refine hk_getr rfl (hH.1 118 (17, 105) rfl) rfl (hH.2 118 8 (some 124) rfl) ?_
                                  refine qm_Ru.go 1 (c' := (35, [.ref 118, .int 9, .int pos, .int 0, .long 0, .float 0], [.ref 118, .ref 124], (h.1, qm_up (qm_up (qm_up I 121 (ct.toInt.toNat) 9) 122 (ct.toInt.toNat) pos) 123 (ct.toInt.toNat) 0, J, h.2.2.2))) rfl ?_
                                  refine hk_geti (v := ct) rfl (hH.1 118 (17, 105) rfl) rfl (show (qm_up (qm_up (qm_up I 121 (ct.toInt.toNat) 9) 122 (ct.toInt.toNat) pos) 123 (ct.toInt.toNat) 0) 118 10 = _ from ((hk_ot rfl).trans ((hk_ot rfl).trans ((hk_ot rfl).trans q_ct)))) ?_
                                  refine qm_Ru.go 1 (c' := (40, [.ref 118, .int 9, .int pos, .int 0, .long 0, .float 0], [.long 0, .int ct, .ref 124], (h.1, qm_up (qm_up (qm_up I 121 (ct.toInt.toNat) 9) 122 (ct.toInt.toNat) pos) 123 (ct.toInt.toNat) 0, J, h.2.2.2))) rfl ?_
                                  refine hk_las rfl (hH.1 124 (3, 403) rfl) (by omega) (by omega) ?_
                                  refine qm_Ru.go 2 (c' := (43, [.ref 118, .int 9, .int pos, .int 0, .long 0, .float 0], [.ref 118, .ref 118], (h.1, qm_up (qm_up (qm_up I 121 (ct.toInt.toNat) 9) 122 (ct.toInt.toNat) pos) 123 (ct.toInt.toNat) 0, qm_up J 124 (ct.toInt.toNat) 0, h.2.2.2))) rfl ?_
                                  refine hk_geti (v := ct) rfl (hH.1 118 (17, 105) rfl) rfl (show (qm_up (qm_up (qm_up I 121 (ct.toInt.toNat) 9) 122 (ct.toInt.toNat) pos) 123 (ct.toInt.toNat) 0) 118 10 = _ from ((hk_ot rfl).trans ((hk_ot rfl).trans ((hk_ot rfl).trans q_ct)))) ?_
                                  refine qm_Ru.go 2 (c' := (48, [.ref 118, .int 9, .int pos, .int 0, .long 0, .float 0], [.int (ct + 1), .ref 118], (h.1, qm_up (qm_up (qm_up I 121 (ct.toInt.toNat) 9) 122 (ct.toInt.toNat) pos) 123 (ct.toInt.toNat) 0, qm_up J 124 (ct.toInt.toNat) 0, h.2.2.2))) rfl ?_
                                  obtain ⟨v87, q_v87, e_v87⟩ := hk_add (x := ct) (y := 1) (a := ct.toInt) (b := 1) rfl rfl (by omega) (by omega)
                                  rw [q_v87]
                                  refine hk_puti rfl (hH.1 118 (17, 105) rfl) rfl ?_
                                  refine qm_Ru.go 0 (c' := (51, [.ref 118, .int 9, .int pos, .int 0, .long 0, .float 0], [], (h.1, qm_up (qm_up (qm_up (qm_up I 121 (ct.toInt.toNat) 9) 122 (ct.toInt.toNat) pos) 123 (ct.toInt.toNat) 0) 118 10 v87, qm_up J 124 (ct.toInt.toNat) 0, h.2.2.2))) rfl ?_
                                  refine qm_Ru.rt (v := none) (h' := (h.1, qm_up (qm_up (qm_up (qm_up I 121 (ct.toInt.toNat) 9) 122 (ct.toInt.toNat) pos) 123 (ct.toInt.toNat) 0) 118 10 v87, qm_up J 124 (ct.toInt.toNat) 0, h.2.2.2)) rfl ?_
                                  refine qm_Ru.go 3 (c' := (167, [.ref 118, .int pos, .int v17, .int v50, .int 0, .int 9], [.int 1], (h.1, qm_up (qm_up (qm_up (qm_up I 121 (ct.toInt.toNat) 9) 122 (ct.toInt.toNat) pos) 123 (ct.toInt.toNat) 0) 118 10 v87, qm_up J 124 (ct.toInt.toNat) 0, h.2.2.2))) rfl ?_
                                  refine qm_Ru.rt (v := (some (.int 1))) (h' := (h.1, qm_up (qm_up (qm_up (qm_up I 121 (ct.toInt.toNat) 9) 122 (ct.toInt.toNat) pos) 123 (ct.toInt.toNat) 0) 118 10 v87, qm_up J 124 (ct.toInt.toNat) 0, h.2.2.2)) rfl ?_
                                  refine qm_Ru.go 1 (c' := (290, [.ref 118, .int pos, .int v17, l3, l4, l5, l6, l7], [.int (pos + 1)], (h.1, qm_up (qm_up (qm_up (qm_up I 121 (ct.toInt.toNat) 9) 122 (ct.toInt.toNat) pos) 123 (ct.toInt.toNat) 0) 118 10 v87, qm_up J 124 (ct.toInt.toNat) 0, h.2.2.2))) rfl ?_
                                  rw [q_v28]
                                  refine qm_Ru.go 2 (c' := (7, [.ref 118, .int v28, .int v17, l3, l4, l5, l6, l7], [], (h.1, qm_up (qm_up (qm_up (qm_up I 121 (ct.toInt.toNat) 9) 122 (ct.toInt.toNat) pos) 123 (ct.toInt.toNat) 0) 118 10 v87, qm_up J 124 (ct.toInt.toNat) 0, h.2.2.2))) rfl ?_
                                  exact ih (m - 1) (by omega) (qm_up (qm_up (qm_up (qm_up I 121 (ct.toInt.toNat) 9) 122 (ct.toInt.toNat) pos) 123 (ct.toInt.toNat) 0) 118 10 v87) (qm_up J 124 (ct.toInt.toNat) 0) v87 v28 (hb_up (o := 118) (k := 10) (x := v87) (hb_up (o := 123) (k := ct.toInt.toNat) (x := 0) (hb_up (o := 122) (k := ct.toInt.toNat) (x := pos) (hb_up (o := 121) (k := ct.toInt.toNat) (x := 9) hBI ⟨(show (0 : Int) ≤ 9 from by decide), (show (9 : Int) ≤ 44 from by decide)⟩) (qa_in_full _)) (qa_in_full _)) ⟨by show (0 : Int) ≤ v87.toInt; omega, by show v87.toInt ≤ (401 : Int); omega⟩) (fun o ho i => ((hk_mod ho rfl).trans ((hk_mod ho rfl).trans ((hk_mod ho rfl).trans ((hk_mod ho rfl).trans ((e o (hk_ms rfl ho) i).trans rfl)))))) (fun i hi => ((hk_neq (fun z => by subst z; cases hi)).trans ((hk_ot rfl).trans ((hk_ot rfl).trans ((hk_ot rfl).trans ((e8 i (hk_ms rfl hi)).trans rfl)))))) (show (qm_up (qm_up (qm_up (qm_up I 121 (ct.toInt.toNat) 9) 122 (ct.toInt.toNat) pos) 123 (ct.toInt.toNat) 0) 118 10 v87) 118 10 = _ from (hk_same)) (by omega) (by omega) (by omega) (.int v17) l3 l4 l5 l6 l7
                              · refine qm_Ru.go 8 (c' := (154, [.ref 118, .int pos, .int v17, .int v50, .int 0, .int 8], [.long 0, .int 0, .int pos, .int 8, .ref 118], (h.1, I, J, h.2.2.2))) rfl ?_
                                refine hk_inv (o := 118) (r := []) (as := [.ref 118, .int 8, .int pos, .int 0, .long 0]) rfl rfl (hH.1 118 (17, 105) rfl) rfl rfl rfl rfl ?_
                                refine qm_Ru.go 1 (c' := (1, [.ref 118, .int 8, .int pos, .int 0, .long 0, .float 0], [.ref 118], (h.1, I, J, h.2.2.2))) rfl ?_
                                refine hk_getr rfl (hH.1 118 (17, 105) rfl) rfl (hH.2 118 5 (some 121) rfl) ?_
                                refine qm_Ru.go 1 (c' := (5, [.ref 118, .int 8, .int pos, .int 0, .long 0, .float 0], [.ref 118, .ref 121], (h.1, I, J, h.2.2.2))) rfl ?_
                                refine hk_geti (v := ct) rfl (hH.1 118 (17, 105) rfl) rfl q_ct ?_
                                refine qm_Ru.go 1 (c' := (9, [.ref 118, .int 8, .int pos, .int 0, .long 0, .float 0], [.int 8, .int ct, .ref 121], (h.1, I, J, h.2.2.2))) rfl ?_
                                refine hk_ias rfl (hH.1 121 (0, 403) rfl) (by omega) (by omega) ?_
                                refine qm_Ru.go 1 (c' := (11, [.ref 118, .int 8, .int pos, .int 0, .long 0, .float 0], [.ref 118], (h.1, qm_up I 121 (ct.toInt.toNat) 8, J, h.2.2.2))) rfl ?_
                                refine hk_getr rfl (hH.1 118 (17, 105) rfl) rfl (hH.2 118 6 (some 122) rfl) ?_
                                refine qm_Ru.go 1 (c' := (15, [.ref 118, .int 8, .int pos, .int 0, .long 0, .float 0], [.ref 118, .ref 122], (h.1, qm_up I 121 (ct.toInt.toNat) 8, J, h.2.2.2))) rfl ?_
                                refine hk_geti (v := ct) rfl (hH.1 118 (17, 105) rfl) rfl (show (qm_up I 121 (ct.toInt.toNat) 8) 118 10 = _ from ((hk_ot rfl).trans q_ct)) ?_
                                refine qm_Ru.go 1 (c' := (19, [.ref 118, .int 8, .int pos, .int 0, .long 0, .float 0], [.int pos, .int ct, .ref 122], (h.1, qm_up I 121 (ct.toInt.toNat) 8, J, h.2.2.2))) rfl ?_
                                refine hk_ias rfl (hH.1 122 (0, 403) rfl) (by omega) (by omega) ?_
                                refine qm_Ru.go 1 (c' := (21, [.ref 118, .int 8, .int pos, .int 0, .long 0, .float 0], [.ref 118], (h.1, qm_up (qm_up I 121 (ct.toInt.toNat) 8) 122 (ct.toInt.toNat) pos, J, h.2.2.2))) rfl ?_
                                refine hk_getr rfl (hH.1 118 (17, 105) rfl) rfl (hH.2 118 7 (some 123) rfl) ?_
                                refine qm_Ru.go 1 (c' := (25, [.ref 118, .int 8, .int pos, .int 0, .long 0, .float 0], [.ref 118, .ref 123], (h.1, qm_up (qm_up I 121 (ct.toInt.toNat) 8) 122 (ct.toInt.toNat) pos, J, h.2.2.2))) rfl ?_
                                refine hk_geti (v := ct) rfl (hH.1 118 (17, 105) rfl) rfl (show (qm_up (qm_up I 121 (ct.toInt.toNat) 8) 122 (ct.toInt.toNat) pos) 118 10 = _ from ((hk_ot rfl).trans ((hk_ot rfl).trans q_ct))) ?_
                                refine qm_Ru.go 1 (c' := (29, [.ref 118, .int 8, .int pos, .int 0, .long 0, .float 0], [.int 0, .int ct, .ref 123], (h.1, qm_up (qm_up I 121 (ct.toInt.toNat) 8) 122 (ct.toInt.toNat) pos, J, h.2.2.2))) rfl ?_
                                refine hk_ias rfl (hH.1 123 (0, 403) rfl) (by omega) (by omega) ?_
                                refine qm_Ru.go 1 (c' := (31, [.ref 118, .int 8, .int pos, .int 0, .long 0, .float 0], [.ref 118], (h.1, qm_up (qm_up (qm_up I 121 (ct.toInt.toNat) 8) 122 (ct.toInt.toNat) pos) 123 (ct.toInt.toNat) 0, J, h.2.2.2))) rfl ?_
                                refine hk_getr rfl (hH.1 118 (17, 105) rfl) rfl (hH.2 118 8 (some 124) rfl) ?_
                                refine qm_Ru.go 1 (c' := (35, [.ref 118, .int 8, .int pos, .int 0, .long 0, .float 0], [.ref 118, .ref 124], (h.1, qm_up (qm_up (qm_up I 121 (ct.toInt.toNat) 8) 122 (ct.toInt.toNat) pos) 123 (ct.toInt.toNat) 0, J, h.2.2.2))) rfl ?_
                                refine hk_geti (v := ct) rfl (hH.1 118 (17, 105) rfl) rfl (show (qm_up (qm_up (qm_up I 121 (ct.toInt.toNat) 8) 122 (ct.toInt.toNat) pos) 123 (ct.toInt.toNat) 0) 118 10 = _ from ((hk_ot rfl).trans ((hk_ot rfl).trans ((hk_ot rfl).trans q_ct)))) ?_
                                refine qm_Ru.go 1 (c' := (40, [.ref 118, .int 8, .int pos, .int 0, .long 0, .float 0], [.long 0, .int ct, .ref 124], (h.1, qm_up (qm_up (qm_up I 121 (ct.toInt.toNat) 8) 122 (ct.toInt.toNat) pos) 123 (ct.toInt.toNat) 0, J, h.2.2.2))) rfl ?_
                                refine hk_las rfl (hH.1 124 (3, 403) rfl) (by omega) (by omega) ?_
                                refine qm_Ru.go 2 (c' := (43, [.ref 118, .int 8, .int pos, .int 0, .long 0, .float 0], [.ref 118, .ref 118], (h.1, qm_up (qm_up (qm_up I 121 (ct.toInt.toNat) 8) 122 (ct.toInt.toNat) pos) 123 (ct.toInt.toNat) 0, qm_up J 124 (ct.toInt.toNat) 0, h.2.2.2))) rfl ?_
                                refine hk_geti (v := ct) rfl (hH.1 118 (17, 105) rfl) rfl (show (qm_up (qm_up (qm_up I 121 (ct.toInt.toNat) 8) 122 (ct.toInt.toNat) pos) 123 (ct.toInt.toNat) 0) 118 10 = _ from ((hk_ot rfl).trans ((hk_ot rfl).trans ((hk_ot rfl).trans q_ct)))) ?_
                                refine qm_Ru.go 2 (c' := (48, [.ref 118, .int 8, .int pos, .int 0, .long 0, .float 0], [.int (ct + 1), .ref 118], (h.1, qm_up (qm_up (qm_up I 121 (ct.toInt.toNat) 8) 122 (ct.toInt.toNat) pos) 123 (ct.toInt.toNat) 0, qm_up J 124 (ct.toInt.toNat) 0, h.2.2.2))) rfl ?_
                                obtain ⟨v89, q_v89, e_v89⟩ := hk_add (x := ct) (y := 1) (a := ct.toInt) (b := 1) rfl rfl (by omega) (by omega)
                                rw [q_v89]
                                refine hk_puti rfl (hH.1 118 (17, 105) rfl) rfl ?_
                                refine qm_Ru.go 0 (c' := (51, [.ref 118, .int 8, .int pos, .int 0, .long 0, .float 0], [], (h.1, qm_up (qm_up (qm_up (qm_up I 121 (ct.toInt.toNat) 8) 122 (ct.toInt.toNat) pos) 123 (ct.toInt.toNat) 0) 118 10 v89, qm_up J 124 (ct.toInt.toNat) 0, h.2.2.2))) rfl ?_
                                refine qm_Ru.rt (v := none) (h' := (h.1, qm_up (qm_up (qm_up (qm_up I 121 (ct.toInt.toNat) 8) 122 (ct.toInt.toNat) pos) 123 (ct.toInt.toNat) 0) 118 10 v89, qm_up J 124 (ct.toInt.toNat) 0, h.2.2.2)) rfl ?_
                                refine qm_Ru.go 3 (c' := (167, [.ref 118, .int pos, .int v17, .int v50, .int 0, .int 8], [.int 1], (h.1, qm_up (qm_up (qm_up (qm_up I 121 (ct.toInt.toNat) 8) 122 (ct.toInt.toNat) pos) 123 (ct.toInt.toNat) 0) 118 10 v89, qm_up J 124 (ct.toInt.toNat) 0, h.2.2.2))) rfl ?_
                                refine qm_Ru.rt (v := (some (.int 1))) (h' := (h.1, qm_up (qm_up (qm_up (qm_up I 121 (ct.toInt.toNat) 8) 122 (ct.toInt.toNat) pos) 123 (ct.toInt.toNat) 0) 118 10 v89, qm_up J 124 (ct.toInt.toNat) 0, h.2.2.2)) rfl ?_
                                refine qm_Ru.go 1 (c' := (290, [.ref 118, .int pos, .int v17, l3, l4, l5, l6, l7], [.int (pos + 1)], (h.1, qm_up (qm_up (qm_up (qm_up I 121 (ct.toInt.toNat) 8) 122 (ct.toInt.toNat) pos) 123 (ct.toInt.toNat) 0) 118 10 v89, qm_up J 124 (ct.toInt.toNat) 0, h.2.2.2))) rfl ?_
                                rw [q_v28]
                                refine qm_Ru.go 2 (c' := (7, [.ref 118, .int v28, .int v17, l3, l4, l5, l6, l7], [], (h.1, qm_up (qm_up (qm_up (qm_up I 121 (ct.toInt.toNat) 8) 122 (ct.toInt.toNat) pos) 123 (ct.toInt.toNat) 0) 118 10 v89, qm_up J 124 (ct.toInt.toNat) 0, h.2.2.2))) rfl ?_
                                exact ih (m - 1) (by omega) (qm_up (qm_up (qm_up (qm_up I 121 (ct.toInt.toNat) 8) 122 (ct.toInt.toNat) pos) 123 (ct.toInt.toNat) 0) 118 10 v89) (qm_up J 124 (ct.toInt.toNat) 0) v89 v28 (hb_up (o := 118) (k := 10) (x := v89) (hb_up (o := 123) (k := ct.toInt.toNat) (x := 0) (hb_up (o := 122) (k := ct.toInt.toNat) (x := pos) (hb_up (o := 121) (k := ct.toInt.toNat) (x := 8) hBI ⟨(show (0 : Int) ≤ 8 from by decide), (show (8 : Int) ≤ 44 from by decide)⟩) (qa_in_full _)) (qa_in_full _)) ⟨by show (0 : Int) ≤ v89.toInt; omega, by show v89.toInt ≤ (401 : Int); omega⟩) (fun o ho i => ((hk_mod ho rfl).trans ((hk_mod ho rfl).trans ((hk_mod ho rfl).trans ((hk_mod ho rfl).trans ((e o (hk_ms rfl ho) i).trans rfl)))))) (fun i hi => ((hk_neq (fun z => by subst z; cases hi)).trans ((hk_ot rfl).trans ((hk_ot rfl).trans ((hk_ot rfl).trans ((e8 i (hk_ms rfl hi)).trans rfl)))))) (show (qm_up (qm_up (qm_up (qm_up I 121 (ct.toInt.toNat) 8) 122 (ct.toInt.toNat) pos) 123 (ct.toInt.toNat) 0) 118 10 v89) 118 10 = _ from (hk_same)) (by omega) (by omega) (by omega) (.int v17) l3 l4 l5 l6 l7
                            · refine qm_Ru.go 8 (c' := (154, [.ref 118, .int pos, .int v17, .int v50, .int 0, .int 7], [.long 0, .int 0, .int pos, .int 7, .ref 118], (h.1, I, J, h.2.2.2))) rfl ?_
                              refine hk_inv (o := 118) (r := []) (as := [.ref 118, .int 7, .int pos, .int 0, .long 0]) rfl rfl (hH.1 118 (17, 105) rfl) rfl rfl rfl rfl ?_
                              refine qm_Ru.go 1 (c' := (1, [.ref 118, .int 7, .int pos, .int 0, .long 0, .float 0], [.ref 118], (h.1, I, J, h.2.2.2))) rfl ?_
                              refine hk_getr rfl (hH.1 118 (17, 105) rfl) rfl (hH.2 118 5 (some 121) rfl) ?_
                              refine qm_Ru.go 1 (c' := (5, [.ref 118, .int 7, .int pos, .int 0, .long 0, .float 0], [.ref 118, .ref 121], (h.1, I, J, h.2.2.2))) rfl ?_
                              refine hk_geti (v := ct) rfl (hH.1 118 (17, 105) rfl) rfl q_ct ?_
                              refine qm_Ru.go 1 (c' := (9, [.ref 118, .int 7, .int pos, .int 0, .long 0, .float 0], [.int 7, .int ct, .ref 121], (h.1, I, J, h.2.2.2))) rfl ?_
                              refine hk_ias rfl (hH.1 121 (0, 403) rfl) (by omega) (by omega) ?_
                              refine qm_Ru.go 1 (c' := (11, [.ref 118, .int 7, .int pos, .int 0, .long 0, .float 0], [.ref 118], (h.1, qm_up I 121 (ct.toInt.toNat) 7, J, h.2.2.2))) rfl ?_
                              refine hk_getr rfl (hH.1 118 (17, 105) rfl) rfl (hH.2 118 6 (some 122) rfl) ?_
                              refine qm_Ru.go 1 (c' := (15, [.ref 118, .int 7, .int pos, .int 0, .long 0, .float 0], [.ref 118, .ref 122], (h.1, qm_up I 121 (ct.toInt.toNat) 7, J, h.2.2.2))) rfl ?_
                              refine hk_geti (v := ct) rfl (hH.1 118 (17, 105) rfl) rfl (show (qm_up I 121 (ct.toInt.toNat) 7) 118 10 = _ from ((hk_ot rfl).trans q_ct)) ?_
                              refine qm_Ru.go 1 (c' := (19, [.ref 118, .int 7, .int pos, .int 0, .long 0, .float 0], [.int pos, .int ct, .ref 122], (h.1, qm_up I 121 (ct.toInt.toNat) 7, J, h.2.2.2))) rfl ?_
                              refine hk_ias rfl (hH.1 122 (0, 403) rfl) (by omega) (by omega) ?_
                              refine qm_Ru.go 1 (c' := (21, [.ref 118, .int 7, .int pos, .int 0, .long 0, .float 0], [.ref 118], (h.1, qm_up (qm_up I 121 (ct.toInt.toNat) 7) 122 (ct.toInt.toNat) pos, J, h.2.2.2))) rfl ?_
                              refine hk_getr rfl (hH.1 118 (17, 105) rfl) rfl (hH.2 118 7 (some 123) rfl) ?_
                              refine qm_Ru.go 1 (c' := (25, [.ref 118, .int 7, .int pos, .int 0, .long 0, .float 0], [.ref 118, .ref 123], (h.1, qm_up (qm_up I 121 (ct.toInt.toNat) 7) 122 (ct.toInt.toNat) pos, J, h.2.2.2))) rfl ?_
                              refine hk_geti (v := ct) rfl (hH.1 118 (17, 105) rfl) rfl (show (qm_up (qm_up I 121 (ct.toInt.toNat) 7) 122 (ct.toInt.toNat) pos) 118 10 = _ from ((hk_ot rfl).trans ((hk_ot rfl).trans q_ct))) ?_
                              refine qm_Ru.go 1 (c' := (29, [.ref 118, .int 7, .int pos, .int 0, .long 0, .float 0], [.int 0, .int ct, .ref 123], (h.1, qm_up (qm_up I 121 (ct.toInt.toNat) 7) 122 (ct.toInt.toNat) pos, J, h.2.2.2))) rfl ?_
                              refine hk_ias rfl (hH.1 123 (0, 403) rfl) (by omega) (by omega) ?_
                              refine qm_Ru.go 1 (c' := (31, [.ref 118, .int 7, .int pos, .int 0, .long 0, .float 0], [.ref 118], (h.1, qm_up (qm_up (qm_up I 121 (ct.toInt.toNat) 7) 122 (ct.toInt.toNat) pos) 123 (ct.toInt.toNat) 0, J, h.2.2.2))) rfl ?_
                              refine hk_getr rfl (hH.1 118 (17, 105) rfl) rfl (hH.2 118 8 (some 124) rfl) ?_
                              refine qm_Ru.go 1 (c' := (35, [.ref 118, .int 7, .int pos, .int 0, .long 0, .float 0], [.ref 118, .ref 124], (h.1, qm_up (qm_up (qm_up I 121 (ct.toInt.toNat) 7) 122 (ct.toInt.toNat) pos) 123 (ct.toInt.toNat) 0, J, h.2.2.2))) rfl ?_
                              refine hk_geti (v := ct) rfl (hH.1 118 (17, 105) rfl) rfl (show (qm_up (qm_up (qm_up I 121 (ct.toInt.toNat) 7) 122 (ct.toInt.toNat) pos) 123 (ct.toInt.toNat) 0) 118 10 = _ from ((hk_ot rfl).trans ((hk_ot rfl).trans ((hk_ot rfl).trans q_ct)))) ?_
                              refine qm_Ru.go 1 (c' := (40, [.ref 118, .int 7, .int pos, .int 0, .long 0, .float 0], [.long 0, .int ct, .ref 124], (h.1, qm_up (qm_up (qm_up I 121 (ct.toInt.toNat) 7) 122 (ct.toInt.toNat) pos) 123 (ct.toInt.toNat) 0, J, h.2.2.2))) rfl ?_
                              refine hk_las rfl (hH.1 124 (3, 403) rfl) (by omega) (by omega) ?_
                              refine qm_Ru.go 2 (c' := (43, [.ref 118, .int 7, .int pos, .int 0, .long 0, .float 0], [.ref 118, .ref 118], (h.1, qm_up (qm_up (qm_up I 121 (ct.toInt.toNat) 7) 122 (ct.toInt.toNat) pos) 123 (ct.toInt.toNat) 0, qm_up J 124 (ct.toInt.toNat) 0, h.2.2.2))) rfl ?_
                              refine hk_geti (v := ct) rfl (hH.1 118 (17, 105) rfl) rfl (show (qm_up (qm_up (qm_up I 121 (ct.toInt.toNat) 7) 122 (ct.toInt.toNat) pos) 123 (ct.toInt.toNat) 0) 118 10 = _ from ((hk_ot rfl).trans ((hk_ot rfl).trans ((hk_ot rfl).trans q_ct)))) ?_
                              refine qm_Ru.go 2 (c' := (48, [.ref 118, .int 7, .int pos, .int 0, .long 0, .float 0], [.int (ct + 1), .ref 118], (h.1, qm_up (qm_up (qm_up I 121 (ct.toInt.toNat) 7) 122 (ct.toInt.toNat) pos) 123 (ct.toInt.toNat) 0, qm_up J 124 (ct.toInt.toNat) 0, h.2.2.2))) rfl ?_
                              obtain ⟨v91, q_v91, e_v91⟩ := hk_add (x := ct) (y := 1) (a := ct.toInt) (b := 1) rfl rfl (by omega) (by omega)
                              rw [q_v91]
                              refine hk_puti rfl (hH.1 118 (17, 105) rfl) rfl ?_
                              refine qm_Ru.go 0 (c' := (51, [.ref 118, .int 7, .int pos, .int 0, .long 0, .float 0], [], (h.1, qm_up (qm_up (qm_up (qm_up I 121 (ct.toInt.toNat) 7) 122 (ct.toInt.toNat) pos) 123 (ct.toInt.toNat) 0) 118 10 v91, qm_up J 124 (ct.toInt.toNat) 0, h.2.2.2))) rfl ?_
                              refine qm_Ru.rt (v := none) (h' := (h.1, qm_up (qm_up (qm_up (qm_up I 121 (ct.toInt.toNat) 7) 122 (ct.toInt.toNat) pos) 123 (ct.toInt.toNat) 0) 118 10 v91, qm_up J 124 (ct.toInt.toNat) 0, h.2.2.2)) rfl ?_
                              refine qm_Ru.go 3 (c' := (167, [.ref 118, .int pos, .int v17, .int v50, .int 0, .int 7], [.int 1], (h.1, qm_up (qm_up (qm_up (qm_up I 121 (ct.toInt.toNat) 7) 122 (ct.toInt.toNat) pos) 123 (ct.toInt.toNat) 0) 118 10 v91, qm_up J 124 (ct.toInt.toNat) 0, h.2.2.2))) rfl ?_
                              refine qm_Ru.rt (v := (some (.int 1))) (h' := (h.1, qm_up (qm_up (qm_up (qm_up I 121 (ct.toInt.toNat) 7) 122 (ct.toInt.toNat) pos) 123 (ct.toInt.toNat) 0) 118 10 v91, qm_up J 124 (ct.toInt.toNat) 0, h.2.2.2)) rfl ?_
                              refine qm_Ru.go 1 (c' := (290, [.ref 118, .int pos, .int v17, l3, l4, l5, l6, l7], [.int (pos + 1)], (h.1, qm_up (qm_up (qm_up (qm_up I 121 (ct.toInt.toNat) 7) 122 (ct.toInt.toNat) pos) 123 (ct.toInt.toNat) 0) 118 10 v91, qm_up J 124 (ct.toInt.toNat) 0, h.2.2.2))) rfl ?_
                              rw [q_v28]
                              refine qm_Ru.go 2 (c' := (7, [.ref 118, .int v28, .int v17, l3, l4, l5, l6, l7], [], (h.1, qm_up (qm_up (qm_up (qm_up I 121 (ct.toInt.toNat) 7) 122 (ct.toInt.toNat) pos) 123 (ct.toInt.toNat) 0) 118 10 v91, qm_up J 124 (ct.toInt.toNat) 0, h.2.2.2))) rfl ?_
                              exact ih (m - 1) (by omega) (qm_up (qm_up (qm_up (qm_up I 121 (ct.toInt.toNat) 7) 122 (ct.toInt.toNat) pos) 123 (ct.toInt.toNat) 0) 118 10 v91) (qm_up J 124 (ct.toInt.toNat) 0) v91 v28 (hb_up (o := 118) (k := 10) (x := v91) (hb_up (o := 123) (k := ct.toInt.toNat) (x := 0) (hb_up (o := 122) (k := ct.toInt.toNat) (x := pos) (hb_up (o := 121) (k := ct.toInt.toNat) (x := 7) hBI ⟨(show (0 : Int) ≤ 7 from by decide), (show (7 : Int) ≤ 44 from by decide)⟩) (qa_in_full _)) (qa_in_full _)) ⟨by show (0 : Int) ≤ v91.toInt; omega, by show v91.toInt ≤ (401 : Int); omega⟩) (fun o ho i => ((hk_mod ho rfl).trans ((hk_mod ho rfl).trans ((hk_mod ho rfl).trans ((hk_mod ho rfl).trans ((e o (hk_ms rfl ho) i).trans rfl)))))) (fun i hi => ((hk_neq (fun z => by subst z; cases hi)).trans ((hk_ot rfl).trans ((hk_ot rfl).trans ((hk_ot rfl).trans ((e8 i (hk_ms rfl hi)).trans rfl)))))) (show (qm_up (qm_up (qm_up (qm_up I 121 (ct.toInt.toNat) 7) 122 (ct.toInt.toNat) pos) 123 (ct.toInt.toNat) 0) 118 10 v91) 118 10 = _ from (hk_same)) (by omega) (by omega) (by omega) (.int v17) l3 l4 l5 l6 l7
                          · refine qm_Ru.go 8 (c' := (154, [.ref 118, .int pos, .int v17, .int v50, .int 0, .int 6], [.long 0, .int 0, .int pos, .int 6, .ref 118], (h.1, I, J, h.2.2.2))) rfl ?_
                            refine hk_inv (o := 118) (r := []) (as := [.ref 118, .int 6, .int pos, .int 0, .long 0]) rfl rfl (hH.1 118 (17, 105) rfl) rfl rfl rfl rfl ?_
                            refine qm_Ru.go 1 (c' := (1, [.ref 118, .int 6, .int pos, .int 0, .long 0, .float 0], [.ref 118], (h.1, I, J, h.2.2.2))) rfl ?_
                            refine hk_getr rfl (hH.1 118 (17, 105) rfl) rfl (hH.2 118 5 (some 121) rfl) ?_
                            refine qm_Ru.go 1 (c' := (5, [.ref 118, .int 6, .int pos, .int 0, .long 0, .float 0], [.ref 118, .ref 121], (h.1, I, J, h.2.2.2))) rfl ?_
                            refine hk_geti (v := ct) rfl (hH.1 118 (17, 105) rfl) rfl q_ct ?_
                            refine qm_Ru.go 1 (c' := (9, [.ref 118, .int 6, .int pos, .int 0, .long 0, .float 0], [.int 6, .int ct, .ref 121], (h.1, I, J, h.2.2.2))) rfl ?_
                            refine hk_ias rfl (hH.1 121 (0, 403) rfl) (by omega) (by omega) ?_
                            refine qm_Ru.go 1 (c' := (11, [.ref 118, .int 6, .int pos, .int 0, .long 0, .float 0], [.ref 118], (h.1, qm_up I 121 (ct.toInt.toNat) 6, J, h.2.2.2))) rfl ?_
                            refine hk_getr rfl (hH.1 118 (17, 105) rfl) rfl (hH.2 118 6 (some 122) rfl) ?_
                            refine qm_Ru.go 1 (c' := (15, [.ref 118, .int 6, .int pos, .int 0, .long 0, .float 0], [.ref 118, .ref 122], (h.1, qm_up I 121 (ct.toInt.toNat) 6, J, h.2.2.2))) rfl ?_
                            refine hk_geti (v := ct) rfl (hH.1 118 (17, 105) rfl) rfl (show (qm_up I 121 (ct.toInt.toNat) 6) 118 10 = _ from ((hk_ot rfl).trans q_ct)) ?_
                            refine qm_Ru.go 1 (c' := (19, [.ref 118, .int 6, .int pos, .int 0, .long 0, .float 0], [.int pos, .int ct, .ref 122], (h.1, qm_up I 121 (ct.toInt.toNat) 6, J, h.2.2.2))) rfl ?_
                            refine hk_ias rfl (hH.1 122 (0, 403) rfl) (by omega) (by omega) ?_
                            refine qm_Ru.go 1 (c' := (21, [.ref 118, .int 6, .int pos, .int 0, .long 0, .float 0], [.ref 118], (h.1, qm_up (qm_up I 121 (ct.toInt.toNat) 6) 122 (ct.toInt.toNat) pos, J, h.2.2.2))) rfl ?_
                            refine hk_getr rfl (hH.1 118 (17, 105) rfl) rfl (hH.2 118 7 (some 123) rfl) ?_
                            refine qm_Ru.go 1 (c' := (25, [.ref 118, .int 6, .int pos, .int 0, .long 0, .float 0], [.ref 118, .ref 123], (h.1, qm_up (qm_up I 121 (ct.toInt.toNat) 6) 122 (ct.toInt.toNat) pos, J, h.2.2.2))) rfl ?_
                            refine hk_geti (v := ct) rfl (hH.1 118 (17, 105) rfl) rfl (show (qm_up (qm_up I 121 (ct.toInt.toNat) 6) 122 (ct.toInt.toNat) pos) 118 10 = _ from ((hk_ot rfl).trans ((hk_ot rfl).trans q_ct))) ?_
                            refine qm_Ru.go 1 (c' := (29, [.ref 118, .int 6, .int pos, .int 0, .long 0, .float 0], [.int 0, .int ct, .ref 123], (h.1, qm_up (qm_up I 121 (ct.toInt.toNat) 6) 122 (ct.toInt.toNat) pos, J, h.2.2.2))) rfl ?_
                            refine hk_ias rfl (hH.1 123 (0, 403) rfl) (by omega) (by omega) ?_
                            refine qm_Ru.go 1 (c' := (31, [.ref 118, .int 6, .int pos, .int 0, .long 0, .float 0], [.ref 118], (h.1, qm_up (qm_up (qm_up I 121 (ct.toInt.toNat) 6) 122 (ct.toInt.toNat) pos) 123 (ct.toInt.toNat) 0, J, h.2.2.2))) rfl ?_
                            refine hk_getr rfl (hH.1 118 (17, 105) rfl) rfl (hH.2 118 8 (some 124) rfl) ?_
                            refine qm_Ru.go 1 (c' := (35, [.ref 118, .int 6, .int pos, .int 0, .long 0, .float 0], [.ref 118, .ref 124], (h.1, qm_up (qm_up (qm_up I 121 (ct.toInt.toNat) 6) 122 (ct.toInt.toNat) pos) 123 (ct.toInt.toNat) 0, J, h.2.2.2))) rfl ?_
                            refine hk_geti (v := ct) rfl (hH.1 118 (17, 105) rfl) rfl (show (qm_up (qm_up (qm_up I 121 (ct.toInt.toNat) 6) 122 (ct.toInt.toNat) pos) 123 (ct.toInt.toNat) 0) 118 10 = _ from ((hk_ot rfl).trans ((hk_ot rfl).trans ((hk_ot rfl).trans q_ct)))) ?_
                            refine qm_Ru.go 1 (c' := (40, [.ref 118, .int 6, .int pos, .int 0, .long 0, .float 0], [.long 0, .int ct, .ref 124], (h.1, qm_up (qm_up (qm_up I 121 (ct.toInt.toNat) 6) 122 (ct.toInt.toNat) pos) 123 (ct.toInt.toNat) 0, J, h.2.2.2))) rfl ?_
                            refine hk_las rfl (hH.1 124 (3, 403) rfl) (by omega) (by omega) ?_
                            refine qm_Ru.go 2 (c' := (43, [.ref 118, .int 6, .int pos, .int 0, .long 0, .float 0], [.ref 118, .ref 118], (h.1, qm_up (qm_up (qm_up I 121 (ct.toInt.toNat) 6) 122 (ct.toInt.toNat) pos) 123 (ct.toInt.toNat) 0, qm_up J 124 (ct.toInt.toNat) 0, h.2.2.2))) rfl ?_
                            refine hk_geti (v := ct) rfl (hH.1 118 (17, 105) rfl) rfl (show (qm_up (qm_up (qm_up I 121 (ct.toInt.toNat) 6) 122 (ct.toInt.toNat) pos) 123 (ct.toInt.toNat) 0) 118 10 = _ from ((hk_ot rfl).trans ((hk_ot rfl).trans ((hk_ot rfl).trans q_ct)))) ?_
                            refine qm_Ru.go 2 (c' := (48, [.ref 118, .int 6, .int pos, .int 0, .long 0, .float 0], [.int (ct + 1), .ref 118], (h.1, qm_up (qm_up (qm_up I 121 (ct.toInt.toNat) 6) 122 (ct.toInt.toNat) pos) 123 (ct.toInt.toNat) 0, qm_up J 124 (ct.toInt.toNat) 0, h.2.2.2))) rfl ?_
                            obtain ⟨v93, q_v93, e_v93⟩ := hk_add (x := ct) (y := 1) (a := ct.toInt) (b := 1) rfl rfl (by omega) (by omega)
                            rw [q_v93]
                            refine hk_puti rfl (hH.1 118 (17, 105) rfl) rfl ?_
                            refine qm_Ru.go 0 (c' := (51, [.ref 118, .int 6, .int pos, .int 0, .long 0, .float 0], [], (h.1, qm_up (qm_up (qm_up (qm_up I 121 (ct.toInt.toNat) 6) 122 (ct.toInt.toNat) pos) 123 (ct.toInt.toNat) 0) 118 10 v93, qm_up J 124 (ct.toInt.toNat) 0, h.2.2.2))) rfl ?_
                            refine qm_Ru.rt (v := none) (h' := (h.1, qm_up (qm_up (qm_up (qm_up I 121 (ct.toInt.toNat) 6) 122 (ct.toInt.toNat) pos) 123 (ct.toInt.toNat) 0) 118 10 v93, qm_up J 124 (ct.toInt.toNat) 0, h.2.2.2)) rfl ?_
                            refine qm_Ru.go 3 (c' := (167, [.ref 118, .int pos, .int v17, .int v50, .int 0, .int 6], [.int 1], (h.1, qm_up (qm_up (qm_up (qm_up I 121 (ct.toInt.toNat) 6) 122 (ct.toInt.toNat) pos) 123 (ct.toInt.toNat) 0) 118 10 v93, qm_up J 124 (ct.toInt.toNat) 0, h.2.2.2))) rfl ?_
                            refine qm_Ru.rt (v := (some (.int 1))) (h' := (h.1, qm_up (qm_up (qm_up (qm_up I 121 (ct.toInt.toNat) 6) 122 (ct.toInt.toNat) pos) 123 (ct.toInt.toNat) 0) 118 10 v93, qm_up J 124 (ct.toInt.toNat) 0, h.2.2.2)) rfl ?_
                            refine qm_Ru.go 1 (c' := (290, [.ref 118, .int pos, .int v17, l3, l4, l5, l6, l7], [.int (pos + 1)], (h.1, qm_up (qm_up (qm_up (qm_up I 121 (ct.toInt.toNat) 6) 122 (ct.toInt.toNat) pos) 123 (ct.toInt.toNat) 0) 118 10 v93, qm_up J 124 (ct.toInt.toNat) 0, h.2.2.2))) rfl ?_
                            rw [q_v28]
                            refine qm_Ru.go 2 (c' := (7, [.ref 118, .int v28, .int v17, l3, l4, l5, l6, l7], [], (h.1, qm_up (qm_up (qm_up (qm_up I 121 (ct.toInt.toNat) 6) 122 (ct.toInt.toNat) pos) 123 (ct.toInt.toNat) 0) 118 10 v93, qm_up J 124 (ct.toInt.toNat) 0, h.2.2.2))) rfl ?_
                            exact ih (m - 1) (by omega) (qm_up (qm_up (qm_up (qm_up I 121 (ct.toInt.toNat) 6) 122 (ct.toInt.toNat) pos) 123 (ct.toInt.toNat) 0) 118 10 v93) (qm_up J 124 (ct.toInt.toNat) 0) v93 v28 (hb_up (o := 118) (k := 10) (x := v93) (hb_up (o := 123) (k := ct.toInt.toNat) (x := 0) (hb_up (o := 122) (k := ct.toInt.toNat) (x := pos) (hb_up (o := 121) (k := ct.toInt.toNat) (x := 6) hBI ⟨(show (0 : Int) ≤ 6 from by decide), (show (6 : Int) ≤ 44 from by decide)⟩) (qa_in_full _)) (qa_in_full _)) ⟨by show (0 : Int) ≤ v93.toInt; omega, by show v93.toInt ≤ (401 : Int); omega⟩) (fun o ho i => ((hk_mod ho rfl).trans ((hk_mod ho rfl).trans ((hk_mod ho rfl).trans ((hk_mod ho rfl).trans ((e o (hk_ms rfl ho) i).trans rfl)))))) (fun i hi => ((hk_neq (fun z => by subst z; cases hi)).trans ((hk_ot rfl).trans ((hk_ot rfl).trans ((hk_ot rfl).trans ((e8 i (hk_ms rfl hi)).trans rfl)))))) (show (qm_up (qm_up (qm_up (qm_up I 121 (ct.toInt.toNat) 6) 122 (ct.toInt.toNat) pos) 123 (ct.toInt.toNat) 0) 118 10 v93) 118 10 = _ from (hk_same)) (by omega) (by omega) (by omega) (.int v17) l3 l4 l5 l6 l7
                    · refine qm_Ru.go 2 (c' := (9, [.int v17], [.int 57, .int v17], (h.1, I, J, h.2.2.2))) rfl ?_
                      refine hk_cgt (ix := v17.toInt) (iy := 57) rfl rfl rfl (fun z95 => ?_) (fun z95 => ?_)
                      · refine qm_Ru.go 1 (c' := (17, [.int v17], [.int 0], (h.1, I, J, h.2.2.2))) rfl ?_
                        refine qm_Ru.rt (v := (some (.int 0))) (h' := (h.1, I, J, h.2.2.2)) rfl ?_
                        refine qm_Ru.go 9 (c' := (283, [.ref 118, .int pos, .int v17, l3, l4, l5, l6, l7], [.int (pos + 1), .ref 118, .int v17, .int pos, .ref 118, .int pos], (h.1, I, J, h.2.2.2))) rfl ?_
                        obtain ⟨v96, q_v96, e_v96⟩ := hk_add (x := pos) (y := 1) (a := pos.toInt) (b := 1) rfl rfl (by omega) (by omega)
                        rw [q_v96]
                        refine hk_inv (o := 118) (r := [.int v17, .int pos, .ref 118, .int pos]) (as := [.ref 118, .int v96]) rfl rfl (hH.1 118 (17, 105) rfl) rfl rfl rfl rfl ?_
                        refine qm_Ru.go 2 (c' := (2, [.ref 118, .int v96], [.ref 118, .int v96], (h.1, I, J, h.2.2.2))) rfl ?_
                        refine hk_geti (v := n) rfl (hH.1 118 (17, 105) rfl) rfl (show (I) 118 4 = _ from ((e8 4 rfl).trans q_n)) ?_
                        refine qm_Ru.go 0 (c' := (5, [.ref 118, .int v96], [.int n, .int v96], (h.1, I, J, h.2.2.2))) rfl ?_
                        refine hk_cge (ix := v96.toInt) (iy := n.toInt) rfl rfl rfl (fun z97 => ?_) (fun z97 => ?_)
                        · refine qm_Ru.go 1 (c' := (22, [.ref 118, .int v96], [.int 0], (h.1, I, J, h.2.2.2))) rfl ?_
                          refine qm_Ru.rt (v := (some (.int 0))) (h' := (h.1, I, J, h.2.2.2)) rfl ?_
                          refine qm_Ru.go 0 (c' := (286, [.ref 118, .int pos, .int v17, l3, l4, l5, l6, l7], [.int 0, .int v17, .int pos, .ref 118, .int pos], (h.1, I, J, h.2.2.2))) rfl ?_
                          refine hk_inv (o := 118) (r := [.int pos]) (as := [.ref 118, .int pos, .int v17, .int 0]) rfl rfl (hH.1 118 (17, 105) rfl) rfl rfl rfl rfl ?_
                          refine qm_Ru.go 12 (c' := (64, [.ref 118, .int pos, .int v17, .int 0, .int 0, .int 3], [.int 59, .int v17], (h.1, I, J, h.2.2.2))) rfl ?_
                          refine hk_cne (ix := v17.toInt) (iy := 59) rfl rfl rfl (fun z98 => ?_) (fun z98 => ?_)
                          · refine qm_Ru.go 2 (c' := (76, [.ref 118, .int pos, .int v17, .int 0, .int 0, .int 3], [.int 40, .int v17], (h.1, I, J, h.2.2.2))) rfl ?_
                            refine hk_cne (ix := v17.toInt) (iy := 40) rfl rfl rfl (fun z99 => ?_) (fun z99 => by exfalso; omega)
                            refine qm_Ru.go 2 (c' := (89, [.ref 118, .int pos, .int v17, .int 0, .int 0, .int 3], [.int 41, .int v17], (h.1, I, J, h.2.2.2))) rfl ?_
                            refine hk_cne (ix := v17.toInt) (iy := 41) rfl rfl rfl (fun z100 => ?_) (fun z100 => by exfalso; omega)
                            refine qm_Ru.go 2 (c' := (102, [.ref 118, .int pos, .int v17, .int 0, .int 0, .int 3], [.int 43, .int v17], (h.1, I, J, h.2.2.2))) rfl ?_
                            refine hk_cne (ix := v17.toInt) (iy := 43) rfl rfl rfl (fun z101 => ?_) (fun z101 => by exfalso; omega)
                            refine qm_Ru.go 2 (c' := (115, [.ref 118, .int pos, .int v17, .int 0, .int 0, .int 3], [.int 45, .int v17], (h.1, I, J, h.2.2.2))) rfl ?_
                            refine hk_cne (ix := v17.toInt) (iy := 45) rfl rfl rfl (fun z102 => ?_) (fun z102 => by exfalso; omega)
                            refine qm_Ru.go 2 (c' := (128, [.ref 118, .int pos, .int v17, .int 0, .int 0, .int 3], [.int 42, .int v17], (h.1, I, J, h.2.2.2))) rfl ?_
                            refine hk_cne (ix := v17.toInt) (iy := 42) rfl rfl rfl (fun z103 => ?_) (fun z103 => by exfalso; omega)
                            refine qm_Ru.go 2 (c' := (141, [.ref 118, .int pos, .int v17, .int 0, .int 0, .int 3], [.int 60, .int v17], (h.1, I, J, h.2.2.2))) rfl ?_
                            refine hk_cne (ix := v17.toInt) (iy := 60) rfl rfl rfl (fun z104 => ?_) (fun z104 => ?_)
                            · refine qm_Ru.go 5 (c' := (154, [.ref 118, .int pos, .int v17, .int 0, .int 0, .int 3], [.long 0, .int 0, .int pos, .int 3, .ref 118], (h.1, I, J, h.2.2.2))) rfl ?_
                              refine hk_inv (o := 118) (r := []) (as := [.ref 118, .int 3, .int pos, .int 0, .long 0]) rfl rfl (hH.1 118 (17, 105) rfl) rfl rfl rfl rfl ?_
                              refine qm_Ru.go 1 (c' := (1, [.ref 118, .int 3, .int pos, .int 0, .long 0, .float 0], [.ref 118], (h.1, I, J, h.2.2.2))) rfl ?_
                              refine hk_getr rfl (hH.1 118 (17, 105) rfl) rfl (hH.2 118 5 (some 121) rfl) ?_
                              refine qm_Ru.go 1 (c' := (5, [.ref 118, .int 3, .int pos, .int 0, .long 0, .float 0], [.ref 118, .ref 121], (h.1, I, J, h.2.2.2))) rfl ?_
                              refine hk_geti (v := ct) rfl (hH.1 118 (17, 105) rfl) rfl q_ct ?_
                              refine qm_Ru.go 1 (c' := (9, [.ref 118, .int 3, .int pos, .int 0, .long 0, .float 0], [.int 3, .int ct, .ref 121], (h.1, I, J, h.2.2.2))) rfl ?_
                              refine hk_ias rfl (hH.1 121 (0, 403) rfl) (by omega) (by omega) ?_
                              refine qm_Ru.go 1 (c' := (11, [.ref 118, .int 3, .int pos, .int 0, .long 0, .float 0], [.ref 118], (h.1, qm_up I 121 (ct.toInt.toNat) 3, J, h.2.2.2))) rfl ?_
                              refine hk_getr rfl (hH.1 118 (17, 105) rfl) rfl (hH.2 118 6 (some 122) rfl) ?_
                              refine qm_Ru.go 1 (c' := (15, [.ref 118, .int 3, .int pos, .int 0, .long 0, .float 0], [.ref 118, .ref 122], (h.1, qm_up I 121 (ct.toInt.toNat) 3, J, h.2.2.2))) rfl ?_
                              refine hk_geti (v := ct) rfl (hH.1 118 (17, 105) rfl) rfl (show (qm_up I 121 (ct.toInt.toNat) 3) 118 10 = _ from ((hk_ot rfl).trans q_ct)) ?_
                              refine qm_Ru.go 1 (c' := (19, [.ref 118, .int 3, .int pos, .int 0, .long 0, .float 0], [.int pos, .int ct, .ref 122], (h.1, qm_up I 121 (ct.toInt.toNat) 3, J, h.2.2.2))) rfl ?_
                              refine hk_ias rfl (hH.1 122 (0, 403) rfl) (by omega) (by omega) ?_
                              refine qm_Ru.go 1 (c' := (21, [.ref 118, .int 3, .int pos, .int 0, .long 0, .float 0], [.ref 118], (h.1, qm_up (qm_up I 121 (ct.toInt.toNat) 3) 122 (ct.toInt.toNat) pos, J, h.2.2.2))) rfl ?_
                              refine hk_getr rfl (hH.1 118 (17, 105) rfl) rfl (hH.2 118 7 (some 123) rfl) ?_
                              refine qm_Ru.go 1 (c' := (25, [.ref 118, .int 3, .int pos, .int 0, .long 0, .float 0], [.ref 118, .ref 123], (h.1, qm_up (qm_up I 121 (ct.toInt.toNat) 3) 122 (ct.toInt.toNat) pos, J, h.2.2.2))) rfl ?_
                              refine hk_geti (v := ct) rfl (hH.1 118 (17, 105) rfl) rfl (show (qm_up (qm_up I 121 (ct.toInt.toNat) 3) 122 (ct.toInt.toNat) pos) 118 10 = _ from ((hk_ot rfl).trans ((hk_ot rfl).trans q_ct))) ?_
                              refine qm_Ru.go 1 (c' := (29, [.ref 118, .int 3, .int pos, .int 0, .long 0, .float 0], [.int 0, .int ct, .ref 123], (h.1, qm_up (qm_up I 121 (ct.toInt.toNat) 3) 122 (ct.toInt.toNat) pos, J, h.2.2.2))) rfl ?_
                              refine hk_ias rfl (hH.1 123 (0, 403) rfl) (by omega) (by omega) ?_
                              refine qm_Ru.go 1 (c' := (31, [.ref 118, .int 3, .int pos, .int 0, .long 0, .float 0], [.ref 118], (h.1, qm_up (qm_up (qm_up I 121 (ct.toInt.toNat) 3) 122 (ct.toInt.toNat) pos) 123 (ct.toInt.toNat) 0, J, h.2.2.2))) rfl ?_
                              refine hk_getr rfl (hH.1 118 (17, 105) rfl) rfl (hH.2 118 8 (some 124) rfl) ?_
                              refine qm_Ru.go 1 (c' := (35, [.ref 118, .int 3, .int pos, .int 0, .long 0, .float 0], [.ref 118, .ref 124], (h.1, qm_up (qm_up (qm_up I 121 (ct.toInt.toNat) 3) 122 (ct.toInt.toNat) pos) 123 (ct.toInt.toNat) 0, J, h.2.2.2))) rfl ?_
                              refine hk_geti (v := ct) rfl (hH.1 118 (17, 105) rfl) rfl (show (qm_up (qm_up (qm_up I 121 (ct.toInt.toNat) 3) 122 (ct.toInt.toNat) pos) 123 (ct.toInt.toNat) 0) 118 10 = _ from ((hk_ot rfl).trans ((hk_ot rfl).trans ((hk_ot rfl).trans q_ct)))) ?_
                              refine qm_Ru.go 1 (c' := (40, [.ref 118, .int 3, .int pos, .int 0, .long 0, .float 0], [.long 0, .int ct, .ref 124], (h.1, qm_up (qm_up (qm_up I 121 (ct.toInt.toNat) 3) 122 (ct.toInt.toNat) pos) 123 (ct.toInt.toNat) 0, J, h.2.2.2))) rfl ?_
                              refine hk_las rfl (hH.1 124 (3, 403) rfl) (by omega) (by omega) ?_
                              refine qm_Ru.go 2 (c' := (43, [.ref 118, .int 3, .int pos, .int 0, .long 0, .float 0], [.ref 118, .ref 118], (h.1, qm_up (qm_up (qm_up I 121 (ct.toInt.toNat) 3) 122 (ct.toInt.toNat) pos) 123 (ct.toInt.toNat) 0, qm_up J 124 (ct.toInt.toNat) 0, h.2.2.2))) rfl ?_
                              refine hk_geti (v := ct) rfl (hH.1 118 (17, 105) rfl) rfl (show (qm_up (qm_up (qm_up I 121 (ct.toInt.toNat) 3) 122 (ct.toInt.toNat) pos) 123 (ct.toInt.toNat) 0) 118 10 = _ from ((hk_ot rfl).trans ((hk_ot rfl).trans ((hk_ot rfl).trans q_ct)))) ?_
                              refine qm_Ru.go 2 (c' := (48, [.ref 118, .int 3, .int pos, .int 0, .long 0, .float 0], [.int (ct + 1), .ref 118], (h.1, qm_up (qm_up (qm_up I 121 (ct.toInt.toNat) 3) 122 (ct.toInt.toNat) pos) 123 (ct.toInt.toNat) 0, qm_up J 124 (ct.toInt.toNat) 0, h.2.2.2))) rfl ?_
                              obtain ⟨v105, q_v105, e_v105⟩ := hk_add (x := ct) (y := 1) (a := ct.toInt) (b := 1) rfl rfl (by omega) (by omega)
                              rw [q_v105]
                              refine hk_puti rfl (hH.1 118 (17, 105) rfl) rfl ?_
                              refine qm_Ru.go 0 (c' := (51, [.ref 118, .int 3, .int pos, .int 0, .long 0, .float 0], [], (h.1, qm_up (qm_up (qm_up (qm_up I 121 (ct.toInt.toNat) 3) 122 (ct.toInt.toNat) pos) 123 (ct.toInt.toNat) 0) 118 10 v105, qm_up J 124 (ct.toInt.toNat) 0, h.2.2.2))) rfl ?_
                              refine qm_Ru.rt (v := none) (h' := (h.1, qm_up (qm_up (qm_up (qm_up I 121 (ct.toInt.toNat) 3) 122 (ct.toInt.toNat) pos) 123 (ct.toInt.toNat) 0) 118 10 v105, qm_up J 124 (ct.toInt.toNat) 0, h.2.2.2)) rfl ?_
                              refine qm_Ru.go 3 (c' := (167, [.ref 118, .int pos, .int v17, .int 0, .int 0, .int 3], [.int 1], (h.1, qm_up (qm_up (qm_up (qm_up I 121 (ct.toInt.toNat) 3) 122 (ct.toInt.toNat) pos) 123 (ct.toInt.toNat) 0) 118 10 v105, qm_up J 124 (ct.toInt.toNat) 0, h.2.2.2))) rfl ?_
                              refine qm_Ru.rt (v := (some (.int 1))) (h' := (h.1, qm_up (qm_up (qm_up (qm_up I 121 (ct.toInt.toNat) 3) 122 (ct.toInt.toNat) pos) 123 (ct.toInt.toNat) 0) 118 10 v105, qm_up J 124 (ct.toInt.toNat) 0, h.2.2.2)) rfl ?_
                              refine qm_Ru.go 1 (c' := (290, [.ref 118, .int pos, .int v17, l3, l4, l5, l6, l7], [.int (pos + 1)], (h.1, qm_up (qm_up (qm_up (qm_up I 121 (ct.toInt.toNat) 3) 122 (ct.toInt.toNat) pos) 123 (ct.toInt.toNat) 0) 118 10 v105, qm_up J 124 (ct.toInt.toNat) 0, h.2.2.2))) rfl ?_
                              rw [q_v96]
                              refine qm_Ru.go 2 (c' := (7, [.ref 118, .int v96, .int v17, l3, l4, l5, l6, l7], [], (h.1, qm_up (qm_up (qm_up (qm_up I 121 (ct.toInt.toNat) 3) 122 (ct.toInt.toNat) pos) 123 (ct.toInt.toNat) 0) 118 10 v105, qm_up J 124 (ct.toInt.toNat) 0, h.2.2.2))) rfl ?_
                              exact ih (m - 1) (by omega) (qm_up (qm_up (qm_up (qm_up I 121 (ct.toInt.toNat) 3) 122 (ct.toInt.toNat) pos) 123 (ct.toInt.toNat) 0) 118 10 v105) (qm_up J 124 (ct.toInt.toNat) 0) v105 v96 (hb_up (o := 118) (k := 10) (x := v105) (hb_up (o := 123) (k := ct.toInt.toNat) (x := 0) (hb_up (o := 122) (k := ct.toInt.toNat) (x := pos) (hb_up (o := 121) (k := ct.toInt.toNat) (x := 3) hBI ⟨(show (0 : Int) ≤ 3 from by decide), (show (3 : Int) ≤ 44 from by decide)⟩) (qa_in_full _)) (qa_in_full _)) ⟨by show (0 : Int) ≤ v105.toInt; omega, by show v105.toInt ≤ (401 : Int); omega⟩) (fun o ho i => ((hk_mod ho rfl).trans ((hk_mod ho rfl).trans ((hk_mod ho rfl).trans ((hk_mod ho rfl).trans ((e o (hk_ms rfl ho) i).trans rfl)))))) (fun i hi => ((hk_neq (fun z => by subst z; cases hi)).trans ((hk_ot rfl).trans ((hk_ot rfl).trans ((hk_ot rfl).trans ((e8 i (hk_ms rfl hi)).trans rfl)))))) (show (qm_up (qm_up (qm_up (qm_up I 121 (ct.toInt.toNat) 3) 122 (ct.toInt.toNat) pos) 123 (ct.toInt.toNat) 0) 118 10 v105) 118 10 = _ from (hk_same)) (by omega) (by omega) (by omega) (.int v17) l3 l4 l5 l6 l7
                            · refine qm_Ru.go 7 (c' := (154, [.ref 118, .int pos, .int v17, .int 0, .int 0, .int 13], [.long 0, .int 0, .int pos, .int 13, .ref 118], (h.1, I, J, h.2.2.2))) rfl ?_
                              refine hk_inv (o := 118) (r := []) (as := [.ref 118, .int 13, .int pos, .int 0, .long 0]) rfl rfl (hH.1 118 (17, 105) rfl) rfl rfl rfl rfl ?_
                              refine qm_Ru.go 1 (c' := (1, [.ref 118, .int 13, .int pos, .int 0, .long 0, .float 0], [.ref 118], (h.1, I, J, h.2.2.2))) rfl ?_
                              refine hk_getr rfl (hH.1 118 (17, 105) rfl) rfl (hH.2 118 5 (some 121) rfl) ?_
                              refine qm_Ru.go 1 (c' := (5, [.ref 118, .int 13, .int pos, .int 0, .long 0, .float 0], [.ref 118, .ref 121], (h.1, I, J, h.2.2.2))) rfl ?_
                              refine hk_geti (v := ct) rfl (hH.1 118 (17, 105) rfl) rfl q_ct ?_
                              refine qm_Ru.go 1 (c' := (9, [.ref 118, .int 13, .int pos, .int 0, .long 0, .float 0], [.int 13, .int ct, .ref 121], (h.1, I, J, h.2.2.2))) rfl ?_
                              refine hk_ias rfl (hH.1 121 (0, 403) rfl) (by omega) (by omega) ?_
                              refine qm_Ru.go 1 (c' := (11, [.ref 118, .int 13, .int pos, .int 0, .long 0, .float 0], [.ref 118], (h.1, qm_up I 121 (ct.toInt.toNat) 13, J, h.2.2.2))) rfl ?_
                              refine hk_getr rfl (hH.1 118 (17, 105) rfl) rfl (hH.2 118 6 (some 122) rfl) ?_
                              refine qm_Ru.go 1 (c' := (15, [.ref 118, .int 13, .int pos, .int 0, .long 0, .float 0], [.ref 118, .ref 122], (h.1, qm_up I 121 (ct.toInt.toNat) 13, J, h.2.2.2))) rfl ?_
                              refine hk_geti (v := ct) rfl (hH.1 118 (17, 105) rfl) rfl (show (qm_up I 121 (ct.toInt.toNat) 13) 118 10 = _ from ((hk_ot rfl).trans q_ct)) ?_
                              refine qm_Ru.go 1 (c' := (19, [.ref 118, .int 13, .int pos, .int 0, .long 0, .float 0], [.int pos, .int ct, .ref 122], (h.1, qm_up I 121 (ct.toInt.toNat) 13, J, h.2.2.2))) rfl ?_
                              refine hk_ias rfl (hH.1 122 (0, 403) rfl) (by omega) (by omega) ?_
                              refine qm_Ru.go 1 (c' := (21, [.ref 118, .int 13, .int pos, .int 0, .long 0, .float 0], [.ref 118], (h.1, qm_up (qm_up I 121 (ct.toInt.toNat) 13) 122 (ct.toInt.toNat) pos, J, h.2.2.2))) rfl ?_
                              refine hk_getr rfl (hH.1 118 (17, 105) rfl) rfl (hH.2 118 7 (some 123) rfl) ?_
                              refine qm_Ru.go 1 (c' := (25, [.ref 118, .int 13, .int pos, .int 0, .long 0, .float 0], [.ref 118, .ref 123], (h.1, qm_up (qm_up I 121 (ct.toInt.toNat) 13) 122 (ct.toInt.toNat) pos, J, h.2.2.2))) rfl ?_
                              refine hk_geti (v := ct) rfl (hH.1 118 (17, 105) rfl) rfl (show (qm_up (qm_up I 121 (ct.toInt.toNat) 13) 122 (ct.toInt.toNat) pos) 118 10 = _ from ((hk_ot rfl).trans ((hk_ot rfl).trans q_ct))) ?_
                              refine qm_Ru.go 1 (c' := (29, [.ref 118, .int 13, .int pos, .int 0, .long 0, .float 0], [.int 0, .int ct, .ref 123], (h.1, qm_up (qm_up I 121 (ct.toInt.toNat) 13) 122 (ct.toInt.toNat) pos, J, h.2.2.2))) rfl ?_
                              refine hk_ias rfl (hH.1 123 (0, 403) rfl) (by omega) (by omega) ?_
                              refine qm_Ru.go 1 (c' := (31, [.ref 118, .int 13, .int pos, .int 0, .long 0, .float 0], [.ref 118], (h.1, qm_up (qm_up (qm_up I 121 (ct.toInt.toNat) 13) 122 (ct.toInt.toNat) pos) 123 (ct.toInt.toNat) 0, J, h.2.2.2))) rfl ?_
                              refine hk_getr rfl (hH.1 118 (17, 105) rfl) rfl (hH.2 118 8 (some 124) rfl) ?_
                              refine qm_Ru.go 1 (c' := (35, [.ref 118, .int 13, .int pos, .int 0, .long 0, .float 0], [.ref 118, .ref 124], (h.1, qm_up (qm_up (qm_up I 121 (ct.toInt.toNat) 13) 122 (ct.toInt.toNat) pos) 123 (ct.toInt.toNat) 0, J, h.2.2.2))) rfl ?_
                              refine hk_geti (v := ct) rfl (hH.1 118 (17, 105) rfl) rfl (show (qm_up (qm_up (qm_up I 121 (ct.toInt.toNat) 13) 122 (ct.toInt.toNat) pos) 123 (ct.toInt.toNat) 0) 118 10 = _ from ((hk_ot rfl).trans ((hk_ot rfl).trans ((hk_ot rfl).trans q_ct)))) ?_
                              refine qm_Ru.go 1 (c' := (40, [.ref 118, .int 13, .int pos, .int 0, .long 0, .float 0], [.long 0, .int ct, .ref 124], (h.1, qm_up (qm_up (qm_up I 121 (ct.toInt.toNat) 13) 122 (ct.toInt.toNat) pos) 123 (ct.toInt.toNat) 0, J, h.2.2.2))) rfl ?_
                              refine hk_las rfl (hH.1 124 (3, 403) rfl) (by omega) (by omega) ?_
                              refine qm_Ru.go 2 (c' := (43, [.ref 118, .int 13, .int pos, .int 0, .long 0, .float 0], [.ref 118, .ref 118], (h.1, qm_up (qm_up (qm_up I 121 (ct.toInt.toNat) 13) 122 (ct.toInt.toNat) pos) 123 (ct.toInt.toNat) 0, qm_up J 124 (ct.toInt.toNat) 0, h.2.2.2))) rfl ?_
                              refine hk_geti (v := ct) rfl (hH.1 118 (17, 105) rfl) rfl (show (qm_up (qm_up (qm_up I 121 (ct.toInt.toNat) 13) 122 (ct.toInt.toNat) pos) 123 (ct.toInt.toNat) 0) 118 10 = _ from ((hk_ot rfl).trans ((hk_ot rfl).trans ((hk_ot rfl).trans q_ct)))) ?_
                              refine qm_Ru.go 2 (c' := (48, [.ref 118, .int 13, .int pos, .int 0, .long 0, .float 0], [.int (ct + 1), .ref 118], (h.1, qm_up (qm_up (qm_up I 121 (ct.toInt.toNat) 13) 122 (ct.toInt.toNat) pos) 123 (ct.toInt.toNat) 0, qm_up J 124 (ct.toInt.toNat) 0, h.2.2.2))) rfl ?_
                              obtain ⟨v107, q_v107, e_v107⟩ := hk_add (x := ct) (y := 1) (a := ct.toInt) (b := 1) rfl rfl (by omega) (by omega)
                              rw [q_v107]
                              refine hk_puti rfl (hH.1 118 (17, 105) rfl) rfl ?_
                              refine qm_Ru.go 0 (c' := (51, [.ref 118, .int 13, .int pos, .int 0, .long 0, .float 0], [], (h.1, qm_up (qm_up (qm_up (qm_up I 121 (ct.toInt.toNat) 13) 122 (ct.toInt.toNat) pos) 123 (ct.toInt.toNat) 0) 118 10 v107, qm_up J 124 (ct.toInt.toNat) 0, h.2.2.2))) rfl ?_
                              refine qm_Ru.rt (v := none) (h' := (h.1, qm_up (qm_up (qm_up (qm_up I 121 (ct.toInt.toNat) 13) 122 (ct.toInt.toNat) pos) 123 (ct.toInt.toNat) 0) 118 10 v107, qm_up J 124 (ct.toInt.toNat) 0, h.2.2.2)) rfl ?_
                              refine qm_Ru.go 3 (c' := (167, [.ref 118, .int pos, .int v17, .int 0, .int 0, .int 13], [.int 1], (h.1, qm_up (qm_up (qm_up (qm_up I 121 (ct.toInt.toNat) 13) 122 (ct.toInt.toNat) pos) 123 (ct.toInt.toNat) 0) 118 10 v107, qm_up J 124 (ct.toInt.toNat) 0, h.2.2.2))) rfl ?_
                              refine qm_Ru.rt (v := (some (.int 1))) (h' := (h.1, qm_up (qm_up (qm_up (qm_up I 121 (ct.toInt.toNat) 13) 122 (ct.toInt.toNat) pos) 123 (ct.toInt.toNat) 0) 118 10 v107, qm_up J 124 (ct.toInt.toNat) 0, h.2.2.2)) rfl ?_
                              refine qm_Ru.go 1 (c' := (290, [.ref 118, .int pos, .int v17, l3, l4, l5, l6, l7], [.int (pos + 1)], (h.1, qm_up (qm_up (qm_up (qm_up I 121 (ct.toInt.toNat) 13) 122 (ct.toInt.toNat) pos) 123 (ct.toInt.toNat) 0) 118 10 v107, qm_up J 124 (ct.toInt.toNat) 0, h.2.2.2))) rfl ?_
                              rw [q_v96]
                              refine qm_Ru.go 2 (c' := (7, [.ref 118, .int v96, .int v17, l3, l4, l5, l6, l7], [], (h.1, qm_up (qm_up (qm_up (qm_up I 121 (ct.toInt.toNat) 13) 122 (ct.toInt.toNat) pos) 123 (ct.toInt.toNat) 0) 118 10 v107, qm_up J 124 (ct.toInt.toNat) 0, h.2.2.2))) rfl ?_
                              exact ih (m - 1) (by omega) (qm_up (qm_up (qm_up (qm_up I 121 (ct.toInt.toNat) 13) 122 (ct.toInt.toNat) pos) 123 (ct.toInt.toNat) 0) 118 10 v107) (qm_up J 124 (ct.toInt.toNat) 0) v107 v96 (hb_up (o := 118) (k := 10) (x := v107) (hb_up (o := 123) (k := ct.toInt.toNat) (x := 0) (hb_up (o := 122) (k := ct.toInt.toNat) (x := pos) (hb_up (o := 121) (k := ct.toInt.toNat) (x := 13) hBI ⟨(show (0 : Int) ≤ 13 from by decide), (show (13 : Int) ≤ 44 from by decide)⟩) (qa_in_full _)) (qa_in_full _)) ⟨by show (0 : Int) ≤ v107.toInt; omega, by show v107.toInt ≤ (401 : Int); omega⟩) (fun o ho i => ((hk_mod ho rfl).trans ((hk_mod ho rfl).trans ((hk_mod ho rfl).trans ((hk_mod ho rfl).trans ((e o (hk_ms rfl ho) i).trans rfl)))))) (fun i hi => ((hk_neq (fun z => by subst z; cases hi)).trans ((hk_ot rfl).trans ((hk_ot rfl).trans ((hk_ot rfl).trans ((e8 i (hk_ms rfl hi)).trans rfl)))))) (show (qm_up (qm_up (qm_up (qm_up I 121 (ct.toInt.toNat) 13) 122 (ct.toInt.toNat) pos) 123 (ct.toInt.toNat) 0) 118 10 v107) 118 10 = _ from (hk_same)) (by omega) (by omega) (by omega) (.int v17) l3 l4 l5 l6 l7
                          · refine qm_Ru.go 8 (c' := (154, [.ref 118, .int pos, .int v17, .int 0, .int 0, .int 4], [.long 0, .int 0, .int pos, .int 4, .ref 118], (h.1, I, J, h.2.2.2))) rfl ?_
                            refine hk_inv (o := 118) (r := []) (as := [.ref 118, .int 4, .int pos, .int 0, .long 0]) rfl rfl (hH.1 118 (17, 105) rfl) rfl rfl rfl rfl ?_
                            refine qm_Ru.go 1 (c' := (1, [.ref 118, .int 4, .int pos, .int 0, .long 0, .float 0], [.ref 118], (h.1, I, J, h.2.2.2))) rfl ?_
                            refine hk_getr rfl (hH.1 118 (17, 105) rfl) rfl (hH.2 118 5 (some 121) rfl) ?_
                            refine qm_Ru.go 1 (c' := (5, [.ref 118, .int 4, .int pos, .int 0, .long 0, .float 0], [.ref 118, .ref 121], (h.1, I, J, h.2.2.2))) rfl ?_
                            refine hk_geti (v := ct) rfl (hH.1 118 (17, 105) rfl) rfl q_ct ?_
                            refine qm_Ru.go 1 (c' := (9, [.ref 118, .int 4, .int pos, .int 0, .long 0, .float 0], [.int 4, .int ct, .ref 121], (h.1, I, J, h.2.2.2))) rfl ?_
                            refine hk_ias rfl (hH.1 121 (0, 403) rfl) (by omega) (by omega) ?_
                            refine qm_Ru.go 1 (c' := (11, [.ref 118, .int 4, .int pos, .int 0, .long 0, .float 0], [.ref 118], (h.1, qm_up I 121 (ct.toInt.toNat) 4, J, h.2.2.2))) rfl ?_
                            refine hk_getr rfl (hH.1 118 (17, 105) rfl) rfl (hH.2 118 6 (some 122) rfl) ?_
                            refine qm_Ru.go 1 (c' := (15, [.ref 118, .int 4, .int pos, .int 0, .long 0, .float 0], [.ref 118, .ref 122], (h.1, qm_up I 121 (ct.toInt.toNat) 4, J, h.2.2.2))) rfl ?_
                            refine hk_geti (v := ct) rfl (hH.1 118 (17, 105) rfl) rfl (show (qm_up I 121 (ct.toInt.toNat) 4) 118 10 = _ from ((hk_ot rfl).trans q_ct)) ?_
                            refine qm_Ru.go 1 (c' := (19, [.ref 118, .int 4, .int pos, .int 0, .long 0, .float 0], [.int pos, .int ct, .ref 122], (h.1, qm_up I 121 (ct.toInt.toNat) 4, J, h.2.2.2))) rfl ?_
                            refine hk_ias rfl (hH.1 122 (0, 403) rfl) (by omega) (by omega) ?_
                            refine qm_Ru.go 1 (c' := (21, [.ref 118, .int 4, .int pos, .int 0, .long 0, .float 0], [.ref 118], (h.1, qm_up (qm_up I 121 (ct.toInt.toNat) 4) 122 (ct.toInt.toNat) pos, J, h.2.2.2))) rfl ?_
                            refine hk_getr rfl (hH.1 118 (17, 105) rfl) rfl (hH.2 118 7 (some 123) rfl) ?_
                            refine qm_Ru.go 1 (c' := (25, [.ref 118, .int 4, .int pos, .int 0, .long 0, .float 0], [.ref 118, .ref 123], (h.1, qm_up (qm_up I 121 (ct.toInt.toNat) 4) 122 (ct.toInt.toNat) pos, J, h.2.2.2))) rfl ?_
                            refine hk_geti (v := ct) rfl (hH.1 118 (17, 105) rfl) rfl (show (qm_up (qm_up I 121 (ct.toInt.toNat) 4) 122 (ct.toInt.toNat) pos) 118 10 = _ from ((hk_ot rfl).trans ((hk_ot rfl).trans q_ct))) ?_
                            refine qm_Ru.go 1 (c' := (29, [.ref 118, .int 4, .int pos, .int 0, .long 0, .float 0], [.int 0, .int ct, .ref 123], (h.1, qm_up (qm_up I 121 (ct.toInt.toNat) 4) 122 (ct.toInt.toNat) pos, J, h.2.2.2))) rfl ?_
                            refine hk_ias rfl (hH.1 123 (0, 403) rfl) (by omega) (by omega) ?_
                            refine qm_Ru.go 1 (c' := (31, [.ref 118, .int 4, .int pos, .int 0, .long 0, .float 0], [.ref 118], (h.1, qm_up (qm_up (qm_up I 121 (ct.toInt.toNat) 4) 122 (ct.toInt.toNat) pos) 123 (ct.toInt.toNat) 0, J, h.2.2.2))) rfl ?_
                            refine hk_getr rfl (hH.1 118 (17, 105) rfl) rfl (hH.2 118 8 (some 124) rfl) ?_
                            refine qm_Ru.go 1 (c' := (35, [.ref 118, .int 4, .int pos, .int 0, .long 0, .float 0], [.ref 118, .ref 124], (h.1, qm_up (qm_up (qm_up I 121 (ct.toInt.toNat) 4) 122 (ct.toInt.toNat) pos) 123 (ct.toInt.toNat) 0, J, h.2.2.2))) rfl ?_
                            refine hk_geti (v := ct) rfl (hH.1 118 (17, 105) rfl) rfl (show (qm_up (qm_up (qm_up I 121 (ct.toInt.toNat) 4) 122 (ct.toInt.toNat) pos) 123 (ct.toInt.toNat) 0) 118 10 = _ from ((hk_ot rfl).trans ((hk_ot rfl).trans ((hk_ot rfl).trans q_ct)))) ?_
                            refine qm_Ru.go 1 (c' := (40, [.ref 118, .int 4, .int pos, .int 0, .long 0, .float 0], [.long 0, .int ct, .ref 124], (h.1, qm_up (qm_up (qm_up I 121 (ct.toInt.toNat) 4) 122 (ct.toInt.toNat) pos) 123 (ct.toInt.toNat) 0, J, h.2.2.2))) rfl ?_
                            refine hk_las rfl (hH.1 124 (3, 403) rfl) (by omega) (by omega) ?_
                            refine qm_Ru.go 2 (c' := (43, [.ref 118, .int 4, .int pos, .int 0, .long 0, .float 0], [.ref 118, .ref 118], (h.1, qm_up (qm_up (qm_up I 121 (ct.toInt.toNat) 4) 122 (ct.toInt.toNat) pos) 123 (ct.toInt.toNat) 0, qm_up J 124 (ct.toInt.toNat) 0, h.2.2.2))) rfl ?_
                            refine hk_geti (v := ct) rfl (hH.1 118 (17, 105) rfl) rfl (show (qm_up (qm_up (qm_up I 121 (ct.toInt.toNat) 4) 122 (ct.toInt.toNat) pos) 123 (ct.toInt.toNat) 0) 118 10 = _ from ((hk_ot rfl).trans ((hk_ot rfl).trans ((hk_ot rfl).trans q_ct)))) ?_
                            refine qm_Ru.go 2 (c' := (48, [.ref 118, .int 4, .int pos, .int 0, .long 0, .float 0], [.int (ct + 1), .ref 118], (h.1, qm_up (qm_up (qm_up I 121 (ct.toInt.toNat) 4) 122 (ct.toInt.toNat) pos) 123 (ct.toInt.toNat) 0, qm_up J 124 (ct.toInt.toNat) 0, h.2.2.2))) rfl ?_
                            obtain ⟨v109, q_v109, e_v109⟩ := hk_add (x := ct) (y := 1) (a := ct.toInt) (b := 1) rfl rfl (by omega) (by omega)
                            rw [q_v109]
                            refine hk_puti rfl (hH.1 118 (17, 105) rfl) rfl ?_
                            refine qm_Ru.go 0 (c' := (51, [.ref 118, .int 4, .int pos, .int 0, .long 0, .float 0], [], (h.1, qm_up (qm_up (qm_up (qm_up I 121 (ct.toInt.toNat) 4) 122 (ct.toInt.toNat) pos) 123 (ct.toInt.toNat) 0) 118 10 v109, qm_up J 124 (ct.toInt.toNat) 0, h.2.2.2))) rfl ?_
                            refine qm_Ru.rt (v := none) (h' := (h.1, qm_up (qm_up (qm_up (qm_up I 121 (ct.toInt.toNat) 4) 122 (ct.toInt.toNat) pos) 123 (ct.toInt.toNat) 0) 118 10 v109, qm_up J 124 (ct.toInt.toNat) 0, h.2.2.2)) rfl ?_
                            refine qm_Ru.go 3 (c' := (167, [.ref 118, .int pos, .int v17, .int 0, .int 0, .int 4], [.int 1], (h.1, qm_up (qm_up (qm_up (qm_up I 121 (ct.toInt.toNat) 4) 122 (ct.toInt.toNat) pos) 123 (ct.toInt.toNat) 0) 118 10 v109, qm_up J 124 (ct.toInt.toNat) 0, h.2.2.2))) rfl ?_
                            refine qm_Ru.rt (v := (some (.int 1))) (h' := (h.1, qm_up (qm_up (qm_up (qm_up I 121 (ct.toInt.toNat) 4) 122 (ct.toInt.toNat) pos) 123 (ct.toInt.toNat) 0) 118 10 v109, qm_up J 124 (ct.toInt.toNat) 0, h.2.2.2)) rfl ?_
                            refine qm_Ru.go 1 (c' := (290, [.ref 118, .int pos, .int v17, l3, l4, l5, l6, l7], [.int (pos + 1)], (h.1, qm_up (qm_up (qm_up (qm_up I 121 (ct.toInt.toNat) 4) 122 (ct.toInt.toNat) pos) 123 (ct.toInt.toNat) 0) 118 10 v109, qm_up J 124 (ct.toInt.toNat) 0, h.2.2.2))) rfl ?_
                            rw [q_v96]
                            refine qm_Ru.go 2 (c' := (7, [.ref 118, .int v96, .int v17, l3, l4, l5, l6, l7], [], (h.1, qm_up (qm_up (qm_up (qm_up I 121 (ct.toInt.toNat) 4) 122 (ct.toInt.toNat) pos) 123 (ct.toInt.toNat) 0) 118 10 v109, qm_up J 124 (ct.toInt.toNat) 0, h.2.2.2))) rfl ?_
                            exact ih (m - 1) (by omega) (qm_up (qm_up (qm_up (qm_up I 121 (ct.toInt.toNat) 4) 122 (ct.toInt.toNat) pos) 123 (ct.toInt.toNat) 0) 118 10 v109) (qm_up J 124 (ct.toInt.toNat) 0) v109 v96 (hb_up (o := 118) (k := 10) (x := v109) (hb_up (o := 123) (k := ct.toInt.toNat) (x := 0) (hb_up (o := 122) (k := ct.toInt.toNat) (x := pos) (hb_up (o := 121) (k := ct.toInt.toNat) (x := 4) hBI ⟨(show (0 : Int) ≤ 4 from by decide), (show (4 : Int) ≤ 44 from by decide)⟩) (qa_in_full _)) (qa_in_full _)) ⟨by show (0 : Int) ≤ v109.toInt; omega, by show v109.toInt ≤ (401 : Int); omega⟩) (fun o ho i => ((hk_mod ho rfl).trans ((hk_mod ho rfl).trans ((hk_mod ho rfl).trans ((hk_mod ho rfl).trans ((e o (hk_ms rfl ho) i).trans rfl)))))) (fun i hi => ((hk_neq (fun z => by subst z; cases hi)).trans ((hk_ot rfl).trans ((hk_ot rfl).trans ((hk_ot rfl).trans ((e8 i (hk_ms rfl hi)).trans rfl)))))) (show (qm_up (qm_up (qm_up (qm_up I 121 (ct.toInt.toNat) 4) 122 (ct.toInt.toNat) pos) 123 (ct.toInt.toNat) 0) 118 10 v109) 118 10 = _ from (hk_same)) (by omega) (by omega) (by omega) (.int v17) l3 l4 l5 l6 l7
                        · refine qm_Ru.go 1 (c' := (9, [.ref 118, .int v96], [.ref 118], (h.1, I, J, h.2.2.2))) rfl ?_
                          refine hk_getr rfl (hH.1 118 (17, 105) rfl) rfl (hH.2 118 3 (some 120) rfl) ?_
                          refine qm_Ru.go 1 (c' := (13, [.ref 118, .int v96], [.int v96, .ref 120], (h.1, I, J, h.2.2.2))) rfl ?_
                          obtain ⟨v111, q_v111⟩ : ∃ v, h.2.1 120 (v96.toInt.toNat) = v := ⟨_, rfl⟩
                          have b_v111 : (-128 : Int) ≤ v111.toInt ∧ v111.toInt ≤ 127 := by rw [← q_v111]; exact hB 120 (v96.toInt.toNat)
                          refine hk_bal (v := v111) rfl (hH.1 120 (1, 2000) rfl) (by decide) (by omega) (by omega) (show (I) 120 (v96.toInt.toNat) = _ from ((e 120 rfl (v96.toInt.toNat)).trans q_v111)) ?_
                          refine qm_Ru.go 2 (c' := (18, [.ref 118, .int v96], [.int (v111 &&& 255)], (h.1, I, J, h.2.2.2))) rfl ?_
                          obtain ⟨v112, q_v112⟩ : ∃ v, (v111 &&& 255) = v := ⟨_, rfl⟩
                          rw [q_v112]
                          refine qm_Ru.go 1 (c' := (22, [.ref 118, .int v96], [.int v112], (h.1, I, J, h.2.2.2))) rfl ?_
                          refine qm_Ru.rt (v := (some (.int v112))) (h' := (h.1, I, J, h.2.2.2)) rfl ?_
                          refine qm_Ru.go 0 (c' := (286, [.ref 118, .int pos, .int v17, l3, l4, l5, l6, l7], [.int v112, .int v17, .int pos, .ref 118, .int pos], (h.1, I, J, h.2.2.2))) rfl ?_
                          refine hk_inv (o := 118) (r := [.int pos]) (as := [.ref 118, .int pos, .int v17, .int v112]) rfl rfl (hH.1 118 (17, 105) rfl) rfl rfl rfl rfl ?_
                          refine qm_Ru.go 2 (c' := (3, [.ref 118, .int pos, .int v17, .int v112, .float 0, .float 0], [.int 61, .int v112], (h.1, I, J, h.2.2.2))) rfl ?_
                          refine hk_ceq (ix := v112.toInt) (iy := 61) rfl rfl rfl (fun z113 => ?_) (fun z113 => ?_)
                          · refine qm_Ru.go 2 (c' := (13, [.ref 118, .int pos, .int v17, .int v112, .float 0, .float 0], [.int 61, .int v17], (h.1, I, J, h.2.2.2))) rfl ?_
                            refine hk_cne (ix := v17.toInt) (iy := 61) rfl rfl rfl (fun z114 => ?_) (fun z114 => ?_)
                            · refine qm_Ru.go 2 (c' := (24, [.ref 118, .int pos, .int v17, .int v112, .float 0, .float 0], [.int 33, .int v17], (h.1, I, J, h.2.2.2))) rfl ?_
                              refine hk_cne (ix := v17.toInt) (iy := 33) rfl rfl rfl (fun z115 => ?_) (fun z115 => by exfalso; omega)
                              refine qm_Ru.go 2 (c' := (35, [.ref 118, .int pos, .int v17, .int v112, .float 0, .float 0], [.int 60, .int v17], (h.1, I, J, h.2.2.2))) rfl ?_
                              refine hk_cne (ix := v17.toInt) (iy := 60) rfl rfl rfl (fun z116 => ?_) (fun z116 => ?_)
                              · refine qm_Ru.go 8 (c' := (64, [.ref 118, .int pos, .int v17, .int v112, .int 0, .int 3], [.int 59, .int v17], (h.1, I, J, h.2.2.2))) rfl ?_
                                refine hk_cne (ix := v17.toInt) (iy := 59) rfl rfl rfl (fun z117 => ?_) (fun z117 => ?_)
                                · refine qm_Ru.go 2 (c' := (76, [.ref 118, .int pos, .int v17, .int v112, .int 0, .int 3], [.int 40, .int v17], (h.1, I, J, h.2.2.2))) rfl ?_
                                  refine hk_cne (ix := v17.toInt) (iy := 40) rfl rfl rfl (fun z118 => ?_) (fun z118 => by exfalso; omega)
                                  refine qm_Ru.go 2 (c' := (89, [.ref 118, .int pos, .int v17, .int v112, .int 0, .int 3], [.int 41, .int v17], (h.1, I, J, h.2.2.2))) rfl ?_
                                  refine hk_cne (ix := v17.toInt) (iy := 41) rfl rfl rfl (fun z119 => ?_) (fun z119 => by exfalso; omega)
                                  refine qm_Ru.go 2 (c' := (102, [.ref 118, .int pos, .int v17, .int v112, .int 0, .int 3], [.int 43, .int v17], (h.1, I, J, h.2.2.2))) rfl ?_
                                  refine hk_cne (ix := v17.toInt) (iy := 43) rfl rfl rfl (fun z120 => ?_) (fun z120 => by exfalso; omega)
                                  refine qm_Ru.go 2 (c' := (115, [.ref 118, .int pos, .int v17, .int v112, .int 0, .int 3], [.int 45, .int v17], (h.1, I, J, h.2.2.2))) rfl ?_
                                  refine hk_cne (ix := v17.toInt) (iy := 45) rfl rfl rfl (fun z121 => ?_) (fun z121 => by exfalso; omega)
                                  refine qm_Ru.go 2 (c' := (128, [.ref 118, .int pos, .int v17, .int v112, .int 0, .int 3], [.int 42, .int v17], (h.1, I, J, h.2.2.2))) rfl ?_
                                  refine hk_cne (ix := v17.toInt) (iy := 42) rfl rfl rfl (fun z122 => ?_) (fun z122 => by exfalso; omega)
                                  refine qm_Ru.go 2 (c' := (141, [.ref 118, .int pos, .int v17, .int v112, .int 0, .int 3], [.int 60, .int v17], (h.1, I, J, h.2.2.2))) rfl ?_
                                  refine hk_cne (ix := v17.toInt) (iy := 60) rfl rfl rfl (fun z123 => ?_) (fun z123 => by exfalso; omega)
                                  refine qm_Ru.go 5 (c' := (154, [.ref 118, .int pos, .int v17, .int v112, .int 0, .int 3], [.long 0, .int 0, .int pos, .int 3, .ref 118], (h.1, I, J, h.2.2.2))) rfl ?_
                                  refine hk_inv (o := 118) (r := []) (as := [.ref 118, .int 3, .int pos, .int 0, .long 0]) rfl rfl (hH.1 118 (17, 105) rfl) rfl rfl rfl rfl ?_
                                  refine qm_Ru.go 1 (c' := (1, [.ref 118, .int 3, .int pos, .int 0, .long 0, .float 0], [.ref 118], (h.1, I, J, h.2.2.2))) rfl ?_
                                  refine hk_getr rfl (hH.1 118 (17, 105) rfl) rfl (hH.2 118 5 (some 121) rfl) ?_
                                  refine qm_Ru.go 1 (c' := (5, [.ref 118, .int 3, .int pos, .int 0, .long 0, .float 0], [.ref 118, .ref 121], (h.1, I, J, h.2.2.2))) rfl ?_
                                  refine hk_geti (v := ct) rfl (hH.1 118 (17, 105) rfl) rfl q_ct ?_
                                  refine qm_Ru.go 1 (c' := (9, [.ref 118, .int 3, .int pos, .int 0, .long 0, .float 0], [.int 3, .int ct, .ref 121], (h.1, I, J, h.2.2.2))) rfl ?_
                                  refine hk_ias rfl (hH.1 121 (0, 403) rfl) (by omega) (by omega) ?_
                                  refine qm_Ru.go 1 (c' := (11, [.ref 118, .int 3, .int pos, .int 0, .long 0, .float 0], [.ref 118], (h.1, qm_up I 121 (ct.toInt.toNat) 3, J, h.2.2.2))) rfl ?_
                                  refine hk_getr rfl (hH.1 118 (17, 105) rfl) rfl (hH.2 118 6 (some 122) rfl) ?_
                                  refine qm_Ru.go 1 (c' := (15, [.ref 118, .int 3, .int pos, .int 0, .long 0, .float 0], [.ref 118, .ref 122], (h.1, qm_up I 121 (ct.toInt.toNat) 3, J, h.2.2.2))) rfl ?_
                                  refine hk_geti (v := ct) rfl (hH.1 118 (17, 105) rfl) rfl (show (qm_up I 121 (ct.toInt.toNat) 3) 118 10 = _ from ((hk_ot rfl).trans q_ct)) ?_
                                  refine qm_Ru.go 1 (c' := (19, [.ref 118, .int 3, .int pos, .int 0, .long 0, .float 0], [.int pos, .int ct, .ref 122], (h.1, qm_up I 121 (ct.toInt.toNat) 3, J, h.2.2.2))) rfl ?_
                                  refine hk_ias rfl (hH.1 122 (0, 403) rfl) (by omega) (by omega) ?_
                                  refine qm_Ru.go 1 (c' := (21, [.ref 118, .int 3, .int pos, .int 0, .long 0, .float 0], [.ref 118], (h.1, qm_up (qm_up I 121 (ct.toInt.toNat) 3) 122 (ct.toInt.toNat) pos, J, h.2.2.2))) rfl ?_
                                  refine hk_getr rfl (hH.1 118 (17, 105) rfl) rfl (hH.2 118 7 (some 123) rfl) ?_
                                  refine qm_Ru.go 1 (c' := (25, [.ref 118, .int 3, .int pos, .int 0, .long 0, .float 0], [.ref 118, .ref 123], (h.1, qm_up (qm_up I 121 (ct.toInt.toNat) 3) 122 (ct.toInt.toNat) pos, J, h.2.2.2))) rfl ?_
                                  refine hk_geti (v := ct) rfl (hH.1 118 (17, 105) rfl) rfl (show (qm_up (qm_up I 121 (ct.toInt.toNat) 3) 122 (ct.toInt.toNat) pos) 118 10 = _ from ((hk_ot rfl).trans ((hk_ot rfl).trans q_ct))) ?_
                                  refine qm_Ru.go 1 (c' := (29, [.ref 118, .int 3, .int pos, .int 0, .long 0, .float 0], [.int 0, .int ct, .ref 123], (h.1, qm_up (qm_up I 121 (ct.toInt.toNat) 3) 122 (ct.toInt.toNat) pos, J, h.2.2.2))) rfl ?_
                                  refine hk_ias rfl (hH.1 123 (0, 403) rfl) (by omega) (by omega) ?_
                                  refine qm_Ru.go 1 (c' := (31, [.ref 118, .int 3, .int pos, .int 0, .long 0, .float 0], [.ref 118], (h.1, qm_up (qm_up (qm_up I 121 (ct.toInt.toNat) 3) 122 (ct.toInt.toNat) pos) 123 (ct.toInt.toNat) 0, J, h.2.2.2))) rfl ?_
                                  refine hk_getr rfl (hH.1 118 (17, 105) rfl) rfl (hH.2 118 8 (some 124) rfl) ?_
                                  refine qm_Ru.go 1 (c' := (35, [.ref 118, .int 3, .int pos, .int 0, .long 0, .float 0], [.ref 118, .ref 124], (h.1, qm_up (qm_up (qm_up I 121 (ct.toInt.toNat) 3) 122 (ct.toInt.toNat) pos) 123 (ct.toInt.toNat) 0, J, h.2.2.2))) rfl ?_
                                  refine hk_geti (v := ct) rfl (hH.1 118 (17, 105) rfl) rfl (show (qm_up (qm_up (qm_up I 121 (ct.toInt.toNat) 3) 122 (ct.toInt.toNat) pos) 123 (ct.toInt.toNat) 0) 118 10 = _ from ((hk_ot rfl).trans ((hk_ot rfl).trans ((hk_ot rfl).trans q_ct)))) ?_
                                  refine qm_Ru.go 1 (c' := (40, [.ref 118, .int 3, .int pos, .int 0, .long 0, .float 0], [.long 0, .int ct, .ref 124], (h.1, qm_up (qm_up (qm_up I 121 (ct.toInt.toNat) 3) 122 (ct.toInt.toNat) pos) 123 (ct.toInt.toNat) 0, J, h.2.2.2))) rfl ?_
                                  refine hk_las rfl (hH.1 124 (3, 403) rfl) (by omega) (by omega) ?_
                                  refine qm_Ru.go 2 (c' := (43, [.ref 118, .int 3, .int pos, .int 0, .long 0, .float 0], [.ref 118, .ref 118], (h.1, qm_up (qm_up (qm_up I 121 (ct.toInt.toNat) 3) 122 (ct.toInt.toNat) pos) 123 (ct.toInt.toNat) 0, qm_up J 124 (ct.toInt.toNat) 0, h.2.2.2))) rfl ?_
                                  refine hk_geti (v := ct) rfl (hH.1 118 (17, 105) rfl) rfl (show (qm_up (qm_up (qm_up I 121 (ct.toInt.toNat) 3) 122 (ct.toInt.toNat) pos) 123 (ct.toInt.toNat) 0) 118 10 = _ from ((hk_ot rfl).trans ((hk_ot rfl).trans ((hk_ot rfl).trans q_ct)))) ?_
                                  refine qm_Ru.go 2 (c' := (48, [.ref 118, .int 3, .int pos, .int 0, .long 0, .float 0], [.int (ct + 1), .ref 118], (h.1, qm_up (qm_up (qm_up I 121 (ct.toInt.toNat) 3) 122 (ct.toInt.toNat) pos) 123 (ct.toInt.toNat) 0, qm_up J 124 (ct.toInt.toNat) 0, h.2.2.2))) rfl ?_
                                  obtain ⟨v124, q_v124, e_v124⟩ := hk_add (x := ct) (y := 1) (a := ct.toInt) (b := 1) rfl rfl (by omega) (by omega)
                                  rw [q_v124]
                                  refine hk_puti rfl (hH.1 118 (17, 105) rfl) rfl ?_
                                  refine qm_Ru.go 0 (c' := (51, [.ref 118, .int 3, .int pos, .int 0, .long 0, .float 0], [], (h.1, qm_up (qm_up (qm_up (qm_up I 121 (ct.toInt.toNat) 3) 122 (ct.toInt.toNat) pos) 123 (ct.toInt.toNat) 0) 118 10 v124, qm_up J 124 (ct.toInt.toNat) 0, h.2.2.2))) rfl ?_
                                  refine qm_Ru.rt (v := none) (h' := (h.1, qm_up (qm_up (qm_up (qm_up I 121 (ct.toInt.toNat) 3) 122 (ct.toInt.toNat) pos) 123 (ct.toInt.toNat) 0) 118 10 v124, qm_up J 124 (ct.toInt.toNat) 0, h.2.2.2)) rfl ?_
                                  refine qm_Ru.go 3 (c' := (167, [.ref 118, .int pos, .int v17, .int v112, .int 0, .int 3], [.int 1], (h.1, qm_up (qm_up (qm_up (qm_up I 121 (ct.toInt.toNat) 3) 122 (ct.toInt.toNat) pos) 123 (ct.toInt.toNat) 0) 118 10 v124, qm_up J 124 (ct.toInt.toNat) 0, h.2.2.2))) rfl ?_
                                  refine qm_Ru.rt (v := (some (.int 1))) (h' := (h.1, qm_up (qm_up (qm_up (qm_up I 121 (ct.toInt.toNat) 3) 122 (ct.toInt.toNat) pos) 123 (ct.toInt.toNat) 0) 118 10 v124, qm_up J 124 (ct.toInt.toNat) 0, h.2.2.2)) rfl ?_
                                  refine qm_Ru.go 1 (c' := (290, [.ref 118, .int pos, .int v17, l3, l4, l5, l6, l7], [.int (pos + 1)], (h.1, qm_up (qm_up (qm_up (qm_up I 121 (ct.toInt.toNat) 3) 122 (ct.toInt.toNat) pos) 123 (ct.toInt.toNat) 0) 118 10 v124, qm_up J 124 (ct.toInt.toNat) 0, h.2.2.2))) rfl ?_
                                  rw [q_v96]
                                  refine qm_Ru.go 2 (c' := (7, [.ref 118, .int v96, .int v17, l3, l4, l5, l6, l7], [], (h.1, qm_up (qm_up (qm_up (qm_up I 121 (ct.toInt.toNat) 3) 122 (ct.toInt.toNat) pos) 123 (ct.toInt.toNat) 0) 118 10 v124, qm_up J 124 (ct.toInt.toNat) 0, h.2.2.2))) rfl ?_
                                  exact ih (m - 1) (by omega) (qm_up (qm_up (qm_up (qm_up I 121 (ct.toInt.toNat) 3) 122 (ct.toInt.toNat) pos) 123 (ct.toInt.toNat) 0) 118 10 v124) (qm_up J 124 (ct.toInt.toNat) 0) v124 v96 (hb_up (o := 118) (k := 10) (x := v124) (hb_up (o := 123) (k := ct.toInt.toNat) (x := 0) (hb_up (o := 122) (k := ct.toInt.toNat) (x := pos) (hb_up (o := 121) (k := ct.toInt.toNat) (x := 3) hBI ⟨(show (0 : Int) ≤ 3 from by decide), (show (3 : Int) ≤ 44 from by decide)⟩) (qa_in_full _)) (qa_in_full _)) ⟨by show (0 : Int) ≤ v124.toInt; omega, by show v124.toInt ≤ (401 : Int); omega⟩) (fun o ho i => ((hk_mod ho rfl).trans ((hk_mod ho rfl).trans ((hk_mod ho rfl).trans ((hk_mod ho rfl).trans ((e o (hk_ms rfl ho) i).trans rfl)))))) (fun i hi => ((hk_neq (fun z => by subst z; cases hi)).trans ((hk_ot rfl).trans ((hk_ot rfl).trans ((hk_ot rfl).trans ((e8 i (hk_ms rfl hi)).trans rfl)))))) (show (qm_up (qm_up (qm_up (qm_up I 121 (ct.toInt.toNat) 3) 122 (ct.toInt.toNat) pos) 123 (ct.toInt.toNat) 0) 118 10 v124) 118 10 = _ from (hk_same)) (by omega) (by omega) (by omega) (.int v17) l3 l4 l5 l6 l7
                                · refine qm_Ru.go 8 (c' := (154, [.ref 118, .int pos, .int v17, .int v112, .int 0, .int 4], [.long 0, .int 0, .int pos, .int 4, .ref 118], (h.1, I, J, h.2.2.2))) rfl ?_
                                  refine hk_inv (o := 118) (r := []) (as := [.ref 118, .int 4, .int pos, .int 0, .long 0]) rfl rfl (hH.1 118 (17, 105) rfl) rfl rfl rfl rfl ?_
                                  refine qm_Ru.go 1 (c' := (1, [.ref 118, .int 4, .int pos, .int 0, .long 0, .float 0], [.ref 118], (h.1, I, J, h.2.2.2))) rfl ?_
                                  refine hk_getr rfl (hH.1 118 (17, 105) rfl) rfl (hH.2 118 5 (some 121) rfl) ?_
                                  refine qm_Ru.go 1 (c' := (5, [.ref 118, .int 4, .int pos, .int 0, .long 0, .float 0], [.ref 118, .ref 121], (h.1, I, J, h.2.2.2))) rfl ?_
                                  refine hk_geti (v := ct) rfl (hH.1 118 (17, 105) rfl) rfl q_ct ?_
                                  refine qm_Ru.go 1 (c' := (9, [.ref 118, .int 4, .int pos, .int 0, .long 0, .float 0], [.int 4, .int ct, .ref 121], (h.1, I, J, h.2.2.2))) rfl ?_
                                  refine hk_ias rfl (hH.1 121 (0, 403) rfl) (by omega) (by omega) ?_
                                  refine qm_Ru.go 1 (c' := (11, [.ref 118, .int 4, .int pos, .int 0, .long 0, .float 0], [.ref 118], (h.1, qm_up I 121 (ct.toInt.toNat) 4, J, h.2.2.2))) rfl ?_
                                  refine hk_getr rfl (hH.1 118 (17, 105) rfl) rfl (hH.2 118 6 (some 122) rfl) ?_
                                  refine qm_Ru.go 1 (c' := (15, [.ref 118, .int 4, .int pos, .int 0, .long 0, .float 0], [.ref 118, .ref 122], (h.1, qm_up I 121 (ct.toInt.toNat) 4, J, h.2.2.2))) rfl ?_
                                  refine hk_geti (v := ct) rfl (hH.1 118 (17, 105) rfl) rfl (show (qm_up I 121 (ct.toInt.toNat) 4) 118 10 = _ from ((hk_ot rfl).trans q_ct)) ?_
                                  refine qm_Ru.go 1 (c' := (19, [.ref 118, .int 4, .int pos, .int 0, .long 0, .float 0], [.int pos, .int ct, .ref 122], (h.1, qm_up I 121 (ct.toInt.toNat) 4, J, h.2.2.2))) rfl ?_
                                  refine hk_ias rfl (hH.1 122 (0, 403) rfl) (by omega) (by omega) ?_
                                  refine qm_Ru.go 1 (c' := (21, [.ref 118, .int 4, .int pos, .int 0, .long 0, .float 0], [.ref 118], (h.1, qm_up (qm_up I 121 (ct.toInt.toNat) 4) 122 (ct.toInt.toNat) pos, J, h.2.2.2))) rfl ?_
                                  refine hk_getr rfl (hH.1 118 (17, 105) rfl) rfl (hH.2 118 7 (some 123) rfl) ?_
                                  refine qm_Ru.go 1 (c' := (25, [.ref 118, .int 4, .int pos, .int 0, .long 0, .float 0], [.ref 118, .ref 123], (h.1, qm_up (qm_up I 121 (ct.toInt.toNat) 4) 122 (ct.toInt.toNat) pos, J, h.2.2.2))) rfl ?_
                                  refine hk_geti (v := ct) rfl (hH.1 118 (17, 105) rfl) rfl (show (qm_up (qm_up I 121 (ct.toInt.toNat) 4) 122 (ct.toInt.toNat) pos) 118 10 = _ from ((hk_ot rfl).trans ((hk_ot rfl).trans q_ct))) ?_
                                  refine qm_Ru.go 1 (c' := (29, [.ref 118, .int 4, .int pos, .int 0, .long 0, .float 0], [.int 0, .int ct, .ref 123], (h.1, qm_up (qm_up I 121 (ct.toInt.toNat) 4) 122 (ct.toInt.toNat) pos, J, h.2.2.2))) rfl ?_
                                  refine hk_ias rfl (hH.1 123 (0, 403) rfl) (by omega) (by omega) ?_
                                  refine qm_Ru.go 1 (c' := (31, [.ref 118, .int 4, .int pos, .int 0, .long 0, .float 0], [.ref 118], (h.1, qm_up (qm_up (qm_up I 121 (ct.toInt.toNat) 4) 122 (ct.toInt.toNat) pos) 123 (ct.toInt.toNat) 0, J, h.2.2.2))) rfl ?_
                                  refine hk_getr rfl (hH.1 118 (17, 105) rfl) rfl (hH.2 118 8 (some 124) rfl) ?_
                                  refine qm_Ru.go 1 (c' := (35, [.ref 118, .int 4, .int pos, .int 0, .long 0, .float 0], [.ref 118, .ref 124], (h.1, qm_up (qm_up (qm_up I 121 (ct.toInt.toNat) 4) 122 (ct.toInt.toNat) pos) 123 (ct.toInt.toNat) 0, J, h.2.2.2))) rfl ?_
                                  refine hk_geti (v := ct) rfl (hH.1 118 (17, 105) rfl) rfl (show (qm_up (qm_up (qm_up I 121 (ct.toInt.toNat) 4) 122 (ct.toInt.toNat) pos) 123 (ct.toInt.toNat) 0) 118 10 = _ from ((hk_ot rfl).trans ((hk_ot rfl).trans ((hk_ot rfl).trans q_ct)))) ?_
                                  refine qm_Ru.go 1 (c' := (40, [.ref 118, .int 4, .int pos, .int 0, .long 0, .float 0], [.long 0, .int ct, .ref 124], (h.1, qm_up (qm_up (qm_up I 121 (ct.toInt.toNat) 4) 122 (ct.toInt.toNat) pos) 123 (ct.toInt.toNat) 0, J, h.2.2.2))) rfl ?_
                                  refine hk_las rfl (hH.1 124 (3, 403) rfl) (by omega) (by omega) ?_
                                  refine qm_Ru.go 2 (c' := (43, [.ref 118, .int 4, .int pos, .int 0, .long 0, .float 0], [.ref 118, .ref 118], (h.1, qm_up (qm_up (qm_up I 121 (ct.toInt.toNat) 4) 122 (ct.toInt.toNat) pos) 123 (ct.toInt.toNat) 0, qm_up J 124 (ct.toInt.toNat) 0, h.2.2.2))) rfl ?_
                                  refine hk_geti (v := ct) rfl (hH.1 118 (17, 105) rfl) rfl (show (qm_up (qm_up (qm_up I 121 (ct.toInt.toNat) 4) 122 (ct.toInt.toNat) pos) 123 (ct.toInt.toNat) 0) 118 10 = _ from ((hk_ot rfl).trans ((hk_ot rfl).trans ((hk_ot rfl).trans q_ct)))) ?_
                                  refine qm_Ru.go 2 (c' := (48, [.ref 118, .int 4, .int pos, .int 0, .long 0, .float 0], [.int (ct + 1), .ref 118], (h.1, qm_up (qm_up (qm_up I 121 (ct.toInt.toNat) 4) 122 (ct.toInt.toNat) pos) 123 (ct.toInt.toNat) 0, qm_up J 124 (ct.toInt.toNat) 0, h.2.2.2))) rfl ?_
                                  obtain ⟨v126, q_v126, e_v126⟩ := hk_add (x := ct) (y := 1) (a := ct.toInt) (b := 1) rfl rfl (by omega) (by omega)
                                  rw [q_v126]
                                  refine hk_puti rfl (hH.1 118 (17, 105) rfl) rfl ?_
                                  refine qm_Ru.go 0 (c' := (51, [.ref 118, .int 4, .int pos, .int 0, .long 0, .float 0], [], (h.1, qm_up (qm_up (qm_up (qm_up I 121 (ct.toInt.toNat) 4) 122 (ct.toInt.toNat) pos) 123 (ct.toInt.toNat) 0) 118 10 v126, qm_up J 124 (ct.toInt.toNat) 0, h.2.2.2))) rfl ?_
                                  refine qm_Ru.rt (v := none) (h' := (h.1, qm_up (qm_up (qm_up (qm_up I 121 (ct.toInt.toNat) 4) 122 (ct.toInt.toNat) pos) 123 (ct.toInt.toNat) 0) 118 10 v126, qm_up J 124 (ct.toInt.toNat) 0, h.2.2.2)) rfl ?_
                                  refine qm_Ru.go 3 (c' := (167, [.ref 118, .int pos, .int v17, .int v112, .int 0, .int 4], [.int 1], (h.1, qm_up (qm_up (qm_up (qm_up I 121 (ct.toInt.toNat) 4) 122 (ct.toInt.toNat) pos) 123 (ct.toInt.toNat) 0) 118 10 v126, qm_up J 124 (ct.toInt.toNat) 0, h.2.2.2))) rfl ?_
                                  refine qm_Ru.rt (v := (some (.int 1))) (h' := (h.1, qm_up (qm_up (qm_up (qm_up I 121 (ct.toInt.toNat) 4) 122 (ct.toInt.toNat) pos) 123 (ct.toInt.toNat) 0) 118 10 v126, qm_up J 124 (ct.toInt.toNat) 0, h.2.2.2)) rfl ?_
                                  refine qm_Ru.go 1 (c' := (290, [.ref 118, .int pos, .int v17, l3, l4, l5, l6, l7], [.int (pos + 1)], (h.1, qm_up (qm_up (qm_up (qm_up I 121 (ct.toInt.toNat) 4) 122 (ct.toInt.toNat) pos) 123 (ct.toInt.toNat) 0) 118 10 v126, qm_up J 124 (ct.toInt.toNat) 0, h.2.2.2))) rfl ?_
                                  rw [q_v96]
                                  refine qm_Ru.go 2 (c' := (7, [.ref 118, .int v96, .int v17, l3, l4, l5, l6, l7], [], (h.1, qm_up (qm_up (qm_up (qm_up I 121 (ct.toInt.toNat) 4) 122 (ct.toInt.toNat) pos) 123 (ct.toInt.toNat) 0) 118 10 v126, qm_up J 124 (ct.toInt.toNat) 0, h.2.2.2))) rfl ?_
                                  exact ih (m - 1) (by omega) (qm_up (qm_up (qm_up (qm_up I 121 (ct.toInt.toNat) 4) 122 (ct.toInt.toNat) pos) 123 (ct.toInt.toNat) 0) 118 10 v126) (qm_up J 124 (ct.toInt.toNat) 0) v126 v96 (hb_up (o := 118) (k := 10) (x := v126) (hb_up (o := 123) (k := ct.toInt.toNat) (x := 0) (hb_up (o := 122) (k := ct.toInt.toNat) (x := pos) (hb_up (o := 121) (k := ct.toInt.toNat) (x := 4) hBI ⟨(show (0 : Int) ≤ 4 from by decide), (show (4 : Int) ≤ 44 from by decide)⟩) (qa_in_full _)) (qa_in_full _)) ⟨by show (0 : Int) ≤ v126.toInt; omega, by show v126.toInt ≤ (401 : Int); omega⟩) (fun o ho i => ((hk_mod ho rfl).trans ((hk_mod ho rfl).trans ((hk_mod ho rfl).trans ((hk_mod ho rfl).trans ((e o (hk_ms rfl ho) i).trans rfl)))))) (fun i hi => ((hk_neq (fun z => by subst z; cases hi)).trans ((hk_ot rfl).trans ((hk_ot rfl).trans ((hk_ot rfl).trans ((e8 i (hk_ms rfl hi)).trans rfl)))))) (show (qm_up (qm_up (qm_up (qm_up I 121 (ct.toInt.toNat) 4) 122 (ct.toInt.toNat) pos) 123 (ct.toInt.toNat) 0) 118 10 v126) 118 10 = _ from (hk_same)) (by omega) (by omega) (by omega) (.int v17) l3 l4 l5 l6 l7
                              · refine qm_Ru.go 15 (c' := (154, [.ref 118, .int pos, .int v17, .int v112, .int 14, .int 14], [.long 0, .int 0, .int pos, .int 14, .ref 118], (h.1, I, J, h.2.2.2))) rfl ?_
                                refine hk_inv (o := 118) (r := []) (as := [.ref 118, .int 14, .int pos, .int 0, .long 0]) rfl rfl (hH.1 118 (17, 105) rfl) rfl rfl rfl rfl ?_
                                refine qm_Ru.go 1 (c' := (1, [.ref 118, .int 14, .int pos, .int 0, .long 0, .float 0], [.ref 118], (h.1, I, J, h.2.2.2))) rfl ?_
                                refine hk_getr rfl (hH.1 118 (17, 105) rfl) rfl (hH.2 118 5 (some 121) rfl) ?_
                                refine qm_Ru.go 1 (c' := (5, [.ref 118, .int 14, .int pos, .int 0, .long 0, .float 0], [.ref 118, .ref 121], (h.1, I, J, h.2.2.2))) rfl ?_
                                refine hk_geti (v := ct) rfl (hH.1 118 (17, 105) rfl) rfl q_ct ?_
                                refine qm_Ru.go 1 (c' := (9, [.ref 118, .int 14, .int pos, .int 0, .long 0, .float 0], [.int 14, .int ct, .ref 121], (h.1, I, J, h.2.2.2))) rfl ?_
                                refine hk_ias rfl (hH.1 121 (0, 403) rfl) (by omega) (by omega) ?_
                                refine qm_Ru.go 1 (c' := (11, [.ref 118, .int 14, .int pos, .int 0, .long 0, .float 0], [.ref 118], (h.1, qm_up I 121 (ct.toInt.toNat) 14, J, h.2.2.2))) rfl ?_
                                refine hk_getr rfl (hH.1 118 (17, 105) rfl) rfl (hH.2 118 6 (some 122) rfl) ?_
                                refine qm_Ru.go 1 (c' := (15, [.ref 118, .int 14, .int pos, .int 0, .long 0, .float 0], [.ref 118, .ref 122], (h.1, qm_up I 121 (ct.toInt.toNat) 14, J, h.2.2.2))) rfl ?_
                                refine hk_geti (v := ct) rfl (hH.1 118 (17, 105) rfl) rfl (show (qm_up I 121 (ct.toInt.toNat) 14) 118 10 = _ from ((hk_ot rfl).trans q_ct)) ?_
                                refine qm_Ru.go 1 (c' := (19, [.ref 118, .int 14, .int pos, .int 0, .long 0, .float 0], [.int pos, .int ct, .ref 122], (h.1, qm_up I 121 (ct.toInt.toNat) 14, J, h.2.2.2))) rfl ?_
                                refine hk_ias rfl (hH.1 122 (0, 403) rfl) (by omega) (by omega) ?_
                                refine qm_Ru.go 1 (c' := (21, [.ref 118, .int 14, .int pos, .int 0, .long 0, .float 0], [.ref 118], (h.1, qm_up (qm_up I 121 (ct.toInt.toNat) 14) 122 (ct.toInt.toNat) pos, J, h.2.2.2))) rfl ?_
                                refine hk_getr rfl (hH.1 118 (17, 105) rfl) rfl (hH.2 118 7 (some 123) rfl) ?_
                                refine qm_Ru.go 1 (c' := (25, [.ref 118, .int 14, .int pos, .int 0, .long 0, .float 0], [.ref 118, .ref 123], (h.1, qm_up (qm_up I 121 (ct.toInt.toNat) 14) 122 (ct.toInt.toNat) pos, J, h.2.2.2))) rfl ?_
                                refine hk_geti (v := ct) rfl (hH.1 118 (17, 105) rfl) rfl (show (qm_up (qm_up I 121 (ct.toInt.toNat) 14) 122 (ct.toInt.toNat) pos) 118 10 = _ from ((hk_ot rfl).trans ((hk_ot rfl).trans q_ct))) ?_
                                refine qm_Ru.go 1 (c' := (29, [.ref 118, .int 14, .int pos, .int 0, .long 0, .float 0], [.int 0, .int ct, .ref 123], (h.1, qm_up (qm_up I 121 (ct.toInt.toNat) 14) 122 (ct.toInt.toNat) pos, J, h.2.2.2))) rfl ?_
                                refine hk_ias rfl (hH.1 123 (0, 403) rfl) (by omega) (by omega) ?_
                                refine qm_Ru.go 1 (c' := (31, [.ref 118, .int 14, .int pos, .int 0, .long 0, .float 0], [.ref 118], (h.1, qm_up (qm_up (qm_up I 121 (ct.toInt.toNat) 14) 122 (ct.toInt.toNat) pos) 123 (ct.toInt.toNat) 0, J, h.2.2.2))) rfl ?_
                                refine hk_getr rfl (hH.1 118 (17, 105) rfl) rfl (hH.2 118 8 (some 124) rfl) ?_
                                refine qm_Ru.go 1 (c' := (35, [.ref 118, .int 14, .int pos, .int 0, .long 0, .float 0], [.ref 118, .ref 124], (h.1, qm_up (qm_up (qm_up I 121 (ct.toInt.toNat) 14) 122 (ct.toInt.toNat) pos) 123 (ct.toInt.toNat) 0, J, h.2.2.2))) rfl ?_
                                refine hk_geti (v := ct) rfl (hH.1 118 (17, 105) rfl) rfl (show (qm_up (qm_up (qm_up I 121 (ct.toInt.toNat) 14) 122 (ct.toInt.toNat) pos) 123 (ct.toInt.toNat) 0) 118 10 = _ from ((hk_ot rfl).trans ((hk_ot rfl).trans ((hk_ot rfl).trans q_ct)))) ?_
                                refine qm_Ru.go 1 (c' := (40, [.ref 118, .int 14, .int pos, .int 0, .long 0, .float 0], [.long 0, .int ct, .ref 124], (h.1, qm_up (qm_up (qm_up I 121 (ct.toInt.toNat) 14) 122 (ct.toInt.toNat) pos) 123 (ct.toInt.toNat) 0, J, h.2.2.2))) rfl ?_
                                refine hk_las rfl (hH.1 124 (3, 403) rfl) (by omega) (by omega) ?_
                                refine qm_Ru.go 2 (c' := (43, [.ref 118, .int 14, .int pos, .int 0, .long 0, .float 0], [.ref 118, .ref 118], (h.1, qm_up (qm_up (qm_up I 121 (ct.toInt.toNat) 14) 122 (ct.toInt.toNat) pos) 123 (ct.toInt.toNat) 0, qm_up J 124 (ct.toInt.toNat) 0, h.2.2.2))) rfl ?_
                                refine hk_geti (v := ct) rfl (hH.1 118 (17, 105) rfl) rfl (show (qm_up (qm_up (qm_up I 121 (ct.toInt.toNat) 14) 122 (ct.toInt.toNat) pos) 123 (ct.toInt.toNat) 0) 118 10 = _ from ((hk_ot rfl).trans ((hk_ot rfl).trans ((hk_ot rfl).trans q_ct)))) ?_
                                refine qm_Ru.go 2 (c' := (48, [.ref 118, .int 14, .int pos, .int 0, .long 0, .float 0], [.int (ct + 1), .ref 118], (h.1, qm_up (qm_up (qm_up I 121 (ct.toInt.toNat) 14) 122 (ct.toInt.toNat) pos) 123 (ct.toInt.toNat) 0, qm_up J 124 (ct.toInt.toNat) 0, h.2.2.2))) rfl ?_
                                obtain ⟨v128, q_v128, e_v128⟩ := hk_add (x := ct) (y := 1) (a := ct.toInt) (b := 1) rfl rfl (by omega) (by omega)
                                rw [q_v128]
                                refine hk_puti rfl (hH.1 118 (17, 105) rfl) rfl ?_
                                refine qm_Ru.go 0 (c' := (51, [.ref 118, .int 14, .int pos, .int 0, .long 0, .float 0], [], (h.1, qm_up (qm_up (qm_up (qm_up I 121 (ct.toInt.toNat) 14) 122 (ct.toInt.toNat) pos) 123 (ct.toInt.toNat) 0) 118 10 v128, qm_up J 124 (ct.toInt.toNat) 0, h.2.2.2))) rfl ?_
                                refine qm_Ru.rt (v := none) (h' := (h.1, qm_up (qm_up (qm_up (qm_up I 121 (ct.toInt.toNat) 14) 122 (ct.toInt.toNat) pos) 123 (ct.toInt.toNat) 0) 118 10 v128, qm_up J 124 (ct.toInt.toNat) 0, h.2.2.2)) rfl ?_
                                refine qm_Ru.go 4 (c' := (167, [.ref 118, .int pos, .int v17, .int v112, .int 14, .int 14], [.int 2], (h.1, qm_up (qm_up (qm_up (qm_up I 121 (ct.toInt.toNat) 14) 122 (ct.toInt.toNat) pos) 123 (ct.toInt.toNat) 0) 118 10 v128, qm_up J 124 (ct.toInt.toNat) 0, h.2.2.2))) rfl ?_
                                refine qm_Ru.rt (v := (some (.int 2))) (h' := (h.1, qm_up (qm_up (qm_up (qm_up I 121 (ct.toInt.toNat) 14) 122 (ct.toInt.toNat) pos) 123 (ct.toInt.toNat) 0) 118 10 v128, qm_up J 124 (ct.toInt.toNat) 0, h.2.2.2)) rfl ?_
                                refine qm_Ru.go 1 (c' := (290, [.ref 118, .int pos, .int v17, l3, l4, l5, l6, l7], [.int (pos + 2)], (h.1, qm_up (qm_up (qm_up (qm_up I 121 (ct.toInt.toNat) 14) 122 (ct.toInt.toNat) pos) 123 (ct.toInt.toNat) 0) 118 10 v128, qm_up J 124 (ct.toInt.toNat) 0, h.2.2.2))) rfl ?_
                                obtain ⟨v129, q_v129, e_v129⟩ := hk_add (x := pos) (y := 2) (a := pos.toInt) (b := 2) rfl rfl (by omega) (by omega)
                                rw [q_v129]
                                refine qm_Ru.go 2 (c' := (7, [.ref 118, .int v129, .int v17, l3, l4, l5, l6, l7], [], (h.1, qm_up (qm_up (qm_up (qm_up I 121 (ct.toInt.toNat) 14) 122 (ct.toInt.toNat) pos) 123 (ct.toInt.toNat) 0) 118 10 v128, qm_up J 124 (ct.toInt.toNat) 0, h.2.2.2))) rfl ?_
                                exact ih (m - 1) (by omega) (qm_up (qm_up (qm_up (qm_up I 121 (ct.toInt.toNat) 14) 122 (ct.toInt.toNat) pos) 123 (ct.toInt.toNat) 0) 118 10 v128) (qm_up J 124 (ct.toInt.toNat) 0) v128 v129 (hb_up (o := 118) (k := 10) (x := v128) (hb_up (o := 123) (k := ct.toInt.toNat) (x := 0) (hb_up (o := 122) (k := ct.toInt.toNat) (x := pos) (hb_up (o := 121) (k := ct.toInt.toNat) (x := 14) hBI ⟨(show (0 : Int) ≤ 14 from by decide), (show (14 : Int) ≤ 44 from by decide)⟩) (qa_in_full _)) (qa_in_full _)) ⟨by show (0 : Int) ≤ v128.toInt; omega, by show v128.toInt ≤ (401 : Int); omega⟩) (fun o ho i => ((hk_mod ho rfl).trans ((hk_mod ho rfl).trans ((hk_mod ho rfl).trans ((hk_mod ho rfl).trans ((e o (hk_ms rfl ho) i).trans rfl)))))) (fun i hi => ((hk_neq (fun z => by subst z; cases hi)).trans ((hk_ot rfl).trans ((hk_ot rfl).trans ((hk_ot rfl).trans ((e8 i (hk_ms rfl hi)).trans rfl)))))) (show (qm_up (qm_up (qm_up (qm_up I 121 (ct.toInt.toNat) 14) 122 (ct.toInt.toNat) pos) 123 (ct.toInt.toNat) 0) 118 10 v128) 118 10 = _ from (hk_same)) (by omega) (by omega) (by omega) (.int v17) l3 l4 l5 l6 l7
                            · refine qm_Ru.go 15 (c' := (154, [.ref 118, .int pos, .int v17, .int v112, .int 11, .int 11], [.long 0, .int 0, .int pos, .int 11, .ref 118], (h.1, I, J, h.2.2.2))) rfl ?_
                              refine hk_inv (o := 118) (r := []) (as := [.ref 118, .int 11, .int pos, .int 0, .long 0]) rfl rfl (hH.1 118 (17, 105) rfl) rfl rfl rfl rfl ?_
                              refine qm_Ru.go 1 (c' := (1, [.ref 118, .int 11, .int pos, .int 0, .long 0, .float 0], [.ref 118], (h.1, I, J, h.2.2.2))) rfl ?_
                              refine hk_getr rfl (hH.1 118 (17, 105) rfl) rfl (hH.2 118 5 (some 121) rfl) ?_
                              refine qm_Ru.go 1 (c' := (5, [.ref 118, .int 11, .int pos, .int 0, .long 0, .float 0], [.ref 118, .ref 121], (h.1, I, J, h.2.2.2))) rfl ?_
                              refine hk_geti (v := ct) rfl (hH.1 118 (17, 105) rfl) rfl q_ct ?_
                              refine qm_Ru.go 1 (c' := (9, [.ref 118, .int 11, .int pos, .int 0, .long 0, .float 0], [.int 11, .int ct, .ref 121], (h.1, I, J, h.2.2.2))) rfl ?_
                              refine hk_ias rfl (hH.1 121 (0, 403) rfl) (by omega) (by omega) ?_
                              refine qm_Ru.go 1 (c' := (11, [.ref 118, .int 11, .int pos, .int 0, .long 0, .float 0], [.ref 118], (h.1, qm_up I 121 (ct.toInt.toNat) 11, J, h.2.2.2))) rfl ?_
                              refine hk_getr rfl (hH.1 118 (17, 105) rfl) rfl (hH.2 118 6 (some 122) rfl) ?_
                              refine qm_Ru.go 1 (c' := (15, [.ref 118, .int 11, .int pos, .int 0, .long 0, .float 0], [.ref 118, .ref 122], (h.1, qm_up I 121 (ct.toInt.toNat) 11, J, h.2.2.2))) rfl ?_
                              refine hk_geti (v := ct) rfl (hH.1 118 (17, 105) rfl) rfl (show (qm_up I 121 (ct.toInt.toNat) 11) 118 10 = _ from ((hk_ot rfl).trans q_ct)) ?_
                              refine qm_Ru.go 1 (c' := (19, [.ref 118, .int 11, .int pos, .int 0, .long 0, .float 0], [.int pos, .int ct, .ref 122], (h.1, qm_up I 121 (ct.toInt.toNat) 11, J, h.2.2.2))) rfl ?_
                              refine hk_ias rfl (hH.1 122 (0, 403) rfl) (by omega) (by omega) ?_
                              refine qm_Ru.go 1 (c' := (21, [.ref 118, .int 11, .int pos, .int 0, .long 0, .float 0], [.ref 118], (h.1, qm_up (qm_up I 121 (ct.toInt.toNat) 11) 122 (ct.toInt.toNat) pos, J, h.2.2.2))) rfl ?_
                              refine hk_getr rfl (hH.1 118 (17, 105) rfl) rfl (hH.2 118 7 (some 123) rfl) ?_
                              refine qm_Ru.go 1 (c' := (25, [.ref 118, .int 11, .int pos, .int 0, .long 0, .float 0], [.ref 118, .ref 123], (h.1, qm_up (qm_up I 121 (ct.toInt.toNat) 11) 122 (ct.toInt.toNat) pos, J, h.2.2.2))) rfl ?_
                              refine hk_geti (v := ct) rfl (hH.1 118 (17, 105) rfl) rfl (show (qm_up (qm_up I 121 (ct.toInt.toNat) 11) 122 (ct.toInt.toNat) pos) 118 10 = _ from ((hk_ot rfl).trans ((hk_ot rfl).trans q_ct))) ?_
                              refine qm_Ru.go 1 (c' := (29, [.ref 118, .int 11, .int pos, .int 0, .long 0, .float 0], [.int 0, .int ct, .ref 123], (h.1, qm_up (qm_up I 121 (ct.toInt.toNat) 11) 122 (ct.toInt.toNat) pos, J, h.2.2.2))) rfl ?_
                              refine hk_ias rfl (hH.1 123 (0, 403) rfl) (by omega) (by omega) ?_
                              refine qm_Ru.go 1 (c' := (31, [.ref 118, .int 11, .int pos, .int 0, .long 0, .float 0], [.ref 118], (h.1, qm_up (qm_up (qm_up I 121 (ct.toInt.toNat) 11) 122 (ct.toInt.toNat) pos) 123 (ct.toInt.toNat) 0, J, h.2.2.2))) rfl ?_
                              refine hk_getr rfl (hH.1 118 (17, 105) rfl) rfl (hH.2 118 8 (some 124) rfl) ?_
                              refine qm_Ru.go 1 (c' := (35, [.ref 118, .int 11, .int pos, .int 0, .long 0, .float 0], [.ref 118, .ref 124], (h.1, qm_up (qm_up (qm_up I 121 (ct.toInt.toNat) 11) 122 (ct.toInt.toNat) pos) 123 (ct.toInt.toNat) 0, J, h.2.2.2))) rfl ?_
                              refine hk_geti (v := ct) rfl (hH.1 118 (17, 105) rfl) rfl (show (qm_up (qm_up (qm_up I 121 (ct.toInt.toNat) 11) 122 (ct.toInt.toNat) pos) 123 (ct.toInt.toNat) 0) 118 10 = _ from ((hk_ot rfl).trans ((hk_ot rfl).trans ((hk_ot rfl).trans q_ct)))) ?_
                              refine qm_Ru.go 1 (c' := (40, [.ref 118, .int 11, .int pos, .int 0, .long 0, .float 0], [.long 0, .int ct, .ref 124], (h.1, qm_up (qm_up (qm_up I 121 (ct.toInt.toNat) 11) 122 (ct.toInt.toNat) pos) 123 (ct.toInt.toNat) 0, J, h.2.2.2))) rfl ?_
                              refine hk_las rfl (hH.1 124 (3, 403) rfl) (by omega) (by omega) ?_
                              refine qm_Ru.go 2 (c' := (43, [.ref 118, .int 11, .int pos, .int 0, .long 0, .float 0], [.ref 118, .ref 118], (h.1, qm_up (qm_up (qm_up I 121 (ct.toInt.toNat) 11) 122 (ct.toInt.toNat) pos) 123 (ct.toInt.toNat) 0, qm_up J 124 (ct.toInt.toNat) 0, h.2.2.2))) rfl ?_
                              refine hk_geti (v := ct) rfl (hH.1 118 (17, 105) rfl) rfl (show (qm_up (qm_up (qm_up I 121 (ct.toInt.toNat) 11) 122 (ct.toInt.toNat) pos) 123 (ct.toInt.toNat) 0) 118 10 = _ from ((hk_ot rfl).trans ((hk_ot rfl).trans ((hk_ot rfl).trans q_ct)))) ?_
                              refine qm_Ru.go 2 (c' := (48, [.ref 118, .int 11, .int pos, .int 0, .long 0, .float 0], [.int (ct + 1), .ref 118], (h.1, qm_up (qm_up (qm_up I 121 (ct.toInt.toNat) 11) 122 (ct.toInt.toNat) pos) 123 (ct.toInt.toNat) 0, qm_up J 124 (ct.toInt.toNat) 0, h.2.2.2))) rfl ?_
                              obtain ⟨v130, q_v130, e_v130⟩ := hk_add (x := ct) (y := 1) (a := ct.toInt) (b := 1) rfl rfl (by omega) (by omega)
                              rw [q_v130]
                              refine hk_puti rfl (hH.1 118 (17, 105) rfl) rfl ?_
                              refine qm_Ru.go 0 (c' := (51, [.ref 118, .int 11, .int pos, .int 0, .long 0, .float 0], [], (h.1, qm_up (qm_up (qm_up (qm_up I 121 (ct.toInt.toNat) 11) 122 (ct.toInt.toNat) pos) 123 (ct.toInt.toNat) 0) 118 10 v130, qm_up J 124 (ct.toInt.toNat) 0, h.2.2.2))) rfl ?_
                              refine qm_Ru.rt (v := none) (h' := (h.1, qm_up (qm_up (qm_up (qm_up I 121 (ct.toInt.toNat) 11) 122 (ct.toInt.toNat) pos) 123 (ct.toInt.toNat) 0) 118 10 v130, qm_up J 124 (ct.toInt.toNat) 0, h.2.2.2)) rfl ?_
                              refine qm_Ru.go 4 (c' := (167, [.ref 118, .int pos, .int v17, .int v112, .int 11, .int 11], [.int 2], (h.1, qm_up (qm_up (qm_up (qm_up I 121 (ct.toInt.toNat) 11) 122 (ct.toInt.toNat) pos) 123 (ct.toInt.toNat) 0) 118 10 v130, qm_up J 124 (ct.toInt.toNat) 0, h.2.2.2))) rfl ?_
                              refine qm_Ru.rt (v := (some (.int 2))) (h' := (h.1, qm_up (qm_up (qm_up (qm_up I 121 (ct.toInt.toNat) 11) 122 (ct.toInt.toNat) pos) 123 (ct.toInt.toNat) 0) 118 10 v130, qm_up J 124 (ct.toInt.toNat) 0, h.2.2.2)) rfl ?_
                              refine qm_Ru.go 1 (c' := (290, [.ref 118, .int pos, .int v17, l3, l4, l5, l6, l7], [.int (pos + 2)], (h.1, qm_up (qm_up (qm_up (qm_up I 121 (ct.toInt.toNat) 11) 122 (ct.toInt.toNat) pos) 123 (ct.toInt.toNat) 0) 118 10 v130, qm_up J 124 (ct.toInt.toNat) 0, h.2.2.2))) rfl ?_
                              obtain ⟨v131, q_v131, e_v131⟩ := hk_add (x := pos) (y := 2) (a := pos.toInt) (b := 2) rfl rfl (by omega) (by omega)
                              rw [q_v131]
                              refine qm_Ru.go 2 (c' := (7, [.ref 118, .int v131, .int v17, l3, l4, l5, l6, l7], [], (h.1, qm_up (qm_up (qm_up (qm_up I 121 (ct.toInt.toNat) 11) 122 (ct.toInt.toNat) pos) 123 (ct.toInt.toNat) 0) 118 10 v130, qm_up J 124 (ct.toInt.toNat) 0, h.2.2.2))) rfl ?_
                              exact ih (m - 1) (by omega) (qm_up (qm_up (qm_up (qm_up I 121 (ct.toInt.toNat) 11) 122 (ct.toInt.toNat) pos) 123 (ct.toInt.toNat) 0) 118 10 v130) (qm_up J 124 (ct.toInt.toNat) 0) v130 v131 (hb_up (o := 118) (k := 10) (x := v130) (hb_up (o := 123) (k := ct.toInt.toNat) (x := 0) (hb_up (o := 122) (k := ct.toInt.toNat) (x := pos) (hb_up (o := 121) (k := ct.toInt.toNat) (x := 11) hBI ⟨(show (0 : Int) ≤ 11 from by decide), (show (11 : Int) ≤ 44 from by decide)⟩) (qa_in_full _)) (qa_in_full _)) ⟨by show (0 : Int) ≤ v130.toInt; omega, by show v130.toInt ≤ (401 : Int); omega⟩) (fun o ho i => ((hk_mod ho rfl).trans ((hk_mod ho rfl).trans ((hk_mod ho rfl).trans ((hk_mod ho rfl).trans ((e o (hk_ms rfl ho) i).trans rfl)))))) (fun i hi => ((hk_neq (fun z => by subst z; cases hi)).trans ((hk_ot rfl).trans ((hk_ot rfl).trans ((hk_ot rfl).trans ((e8 i (hk_ms rfl hi)).trans rfl)))))) (show (qm_up (qm_up (qm_up (qm_up I 121 (ct.toInt.toNat) 11) 122 (ct.toInt.toNat) pos) 123 (ct.toInt.toNat) 0) 118 10 v130) 118 10 = _ from (hk_same)) (by omega) (by omega) (by omega) (.int v17) l3 l4 l5 l6 l7
                          · refine qm_Ru.go 9 (c' := (64, [.ref 118, .int pos, .int v17, .int v112, .int 0, .int 3], [.int 59, .int v17], (h.1, I, J, h.2.2.2))) rfl ?_
                            refine hk_cne (ix := v17.toInt) (iy := 59) rfl rfl rfl (fun z132 => ?_) (fun z132 => ?_)
                            · refine qm_Ru.go 2 (c' := (76, [.ref 118, .int pos, .int v17, .int v112, .int 0, .int 3], [.int 40, .int v17], (h.1, I, J, h.2.2.2))) rfl ?_
                              refine hk_cne (ix := v17.toInt) (iy := 40) rfl rfl rfl (fun z133 => ?_) (fun z133 => by exfalso; omega)
                              refine qm_Ru.go 2 (c' := (89, [.ref 118, .int pos, .int v17, .int v112, .int 0, .int 3], [.int 41, .int v17], (h.1, I, J, h.2.2.2))) rfl ?_
                              refine hk_cne (ix := v17.toInt) (iy := 41) rfl rfl rfl (fun z134 => ?_) (fun z134 => by exfalso; omega)
                              refine qm_Ru.go 2 (c' := (102, [.ref 118, .int pos, .int v17, .int v112, .int 0, .int 3], [.int 43, .int v17], (h.1, I, J, h.2.2.2))) rfl ?_
                              refine hk_cne (ix := v17.toInt) (iy := 43) rfl rfl rfl (fun z135 => ?_) (fun z135 => by exfalso; omega)
                              refine qm_Ru.go 2 (c' := (115, [.ref 118, .int pos, .int v17, .int v112, .int 0, .int 3], [.int 45, .int v17], (h.1, I, J, h.2.2.2))) rfl ?_
                              refine hk_cne (ix := v17.toInt) (iy := 45) rfl rfl rfl (fun z136 => ?_) (fun z136 => by exfalso; omega)
                              refine qm_Ru.go 2 (c' := (128, [.ref 118, .int pos, .int v17, .int v112, .int 0, .int 3], [.int 42, .int v17], (h.1, I, J, h.2.2.2))) rfl ?_
                              refine hk_cne (ix := v17.toInt) (iy := 42) rfl rfl rfl (fun z137 => ?_) (fun z137 => by exfalso; omega)
                              refine qm_Ru.go 2 (c' := (141, [.ref 118, .int pos, .int v17, .int v112, .int 0, .int 3], [.int 60, .int v17], (h.1, I, J, h.2.2.2))) rfl ?_
                              refine hk_cne (ix := v17.toInt) (iy := 60) rfl rfl rfl (fun z138 => ?_) (fun z138 => ?_)
                              · refine qm_Ru.go 5 (c' := (154, [.ref 118, .int pos, .int v17, .int v112, .int 0, .int 3], [.long 0, .int 0, .int pos, .int 3, .ref 118], (h.1, I, J, h.2.2.2))) rfl ?_
                                refine hk_inv (o := 118) (r := []) (as := [.ref 118, .int 3, .int pos, .int 0, .long 0]) rfl rfl (hH.1 118 (17, 105) rfl) rfl rfl rfl rfl ?_
                                refine qm_Ru.go 1 (c' := (1, [.ref 118, .int 3, .int pos, .int 0, .long 0, .float 0], [.ref 118], (h.1, I, J, h.2.2.2))) rfl ?_
                                refine hk_getr rfl (hH.1 118 (17, 105) rfl) rfl (hH.2 118 5 (some 121) rfl) ?_
                                refine qm_Ru.go 1 (c' := (5, [.ref 118, .int 3, .int pos, .int 0, .long 0, .float 0], [.ref 118, .ref 121], (h.1, I, J, h.2.2.2))) rfl ?_
                                refine hk_geti (v := ct) rfl (hH.1 118 (17, 105) rfl) rfl q_ct ?_
                                refine qm_Ru.go 1 (c' := (9, [.ref 118, .int 3, .int pos, .int 0, .long 0, .float 0], [.int 3, .int ct, .ref 121], (h.1, I, J, h.2.2.2))) rfl ?_
                                refine hk_ias rfl (hH.1 121 (0, 403) rfl) (by omega) (by omega) ?_
                                refine qm_Ru.go 1 (c' := (11, [.ref 118, .int 3, .int pos, .int 0, .long 0, .float 0], [.ref 118], (h.1, qm_up I 121 (ct.toInt.toNat) 3, J, h.2.2.2))) rfl ?_
                                refine hk_getr rfl (hH.1 118 (17, 105) rfl) rfl (hH.2 118 6 (some 122) rfl) ?_
                                refine qm_Ru.go 1 (c' := (15, [.ref 118, .int 3, .int pos, .int 0, .long 0, .float 0], [.ref 118, .ref 122], (h.1, qm_up I 121 (ct.toInt.toNat) 3, J, h.2.2.2))) rfl ?_
                                refine hk_geti (v := ct) rfl (hH.1 118 (17, 105) rfl) rfl (show (qm_up I 121 (ct.toInt.toNat) 3) 118 10 = _ from ((hk_ot rfl).trans q_ct)) ?_
                                refine qm_Ru.go 1 (c' := (19, [.ref 118, .int 3, .int pos, .int 0, .long 0, .float 0], [.int pos, .int ct, .ref 122], (h.1, qm_up I 121 (ct.toInt.toNat) 3, J, h.2.2.2))) rfl ?_
                                refine hk_ias rfl (hH.1 122 (0, 403) rfl) (by omega) (by omega) ?_
                                refine qm_Ru.go 1 (c' := (21, [.ref 118, .int 3, .int pos, .int 0, .long 0, .float 0], [.ref 118], (h.1, qm_up (qm_up I 121 (ct.toInt.toNat) 3) 122 (ct.toInt.toNat) pos, J, h.2.2.2))) rfl ?_
                                refine hk_getr rfl (hH.1 118 (17, 105) rfl) rfl (hH.2 118 7 (some 123) rfl) ?_
                                refine qm_Ru.go 1 (c' := (25, [.ref 118, .int 3, .int pos, .int 0, .long 0, .float 0], [.ref 118, .ref 123], (h.1, qm_up (qm_up I 121 (ct.toInt.toNat) 3) 122 (ct.toInt.toNat) pos, J, h.2.2.2))) rfl ?_
                                refine hk_geti (v := ct) rfl (hH.1 118 (17, 105) rfl) rfl (show (qm_up (qm_up I 121 (ct.toInt.toNat) 3) 122 (ct.toInt.toNat) pos) 118 10 = _ from ((hk_ot rfl).trans ((hk_ot rfl).trans q_ct))) ?_
                                refine qm_Ru.go 1 (c' := (29, [.ref 118, .int 3, .int pos, .int 0, .long 0, .float 0], [.int 0, .int ct, .ref 123], (h.1, qm_up (qm_up I 121 (ct.toInt.toNat) 3) 122 (ct.toInt.toNat) pos, J, h.2.2.2))) rfl ?_
                                refine hk_ias rfl (hH.1 123 (0, 403) rfl) (by omega) (by omega) ?_
                                refine qm_Ru.go 1 (c' := (31, [.ref 118, .int 3, .int pos, .int 0, .long 0, .float 0], [.ref 118], (h.1, qm_up (qm_up (qm_up I 121 (ct.toInt.toNat) 3) 122 (ct.toInt.toNat) pos) 123 (ct.toInt.toNat) 0, J, h.2.2.2))) rfl ?_
                                refine hk_getr rfl (hH.1 118 (17, 105) rfl) rfl (hH.2 118 8 (some 124) rfl) ?_
                                refine qm_Ru.go 1 (c' := (35, [.ref 118, .int 3, .int pos, .int 0, .long 0, .float 0], [.ref 118, .ref 124], (h.1, qm_up (qm_up (qm_up I 121 (ct.toInt.toNat) 3) 122 (ct.toInt.toNat) pos) 123 (ct.toInt.toNat) 0, J, h.2.2.2))) rfl ?_
                                refine hk_geti (v := ct) rfl (hH.1 118 (17, 105) rfl) rfl (show (qm_up (qm_up (qm_up I 121 (ct.toInt.toNat) 3) 122 (ct.toInt.toNat) pos) 123 (ct.toInt.toNat) 0) 118 10 = _ from ((hk_ot rfl).trans ((hk_ot rfl).trans ((hk_ot rfl).trans q_ct)))) ?_
                                refine qm_Ru.go 1 (c' := (40, [.ref 118, .int 3, .int pos, .int 0, .long 0, .float 0], [.long 0, .int ct, .ref 124], (h.1, qm_up (qm_up (qm_up I 121 (ct.toInt.toNat) 3) 122 (ct.toInt.toNat) pos) 123 (ct.toInt.toNat) 0, J, h.2.2.2))) rfl ?_
                                refine hk_las rfl (hH.1 124 (3, 403) rfl) (by omega) (by omega) ?_
                                refine qm_Ru.go 2 (c' := (43, [.ref 118, .int 3, .int pos, .int 0, .long 0, .float 0], [.ref 118, .ref 118], (h.1, qm_up (qm_up (qm_up I 121 (ct.toInt.toNat) 3) 122 (ct.toInt.toNat) pos) 123 (ct.toInt.toNat) 0, qm_up J 124 (ct.toInt.toNat) 0, h.2.2.2))) rfl ?_
                                refine hk_geti (v := ct) rfl (hH.1 118 (17, 105) rfl) rfl (show (qm_up (qm_up (qm_up I 121 (ct.toInt.toNat) 3) 122 (ct.toInt.toNat) pos) 123 (ct.toInt.toNat) 0) 118 10 = _ from ((hk_ot rfl).trans ((hk_ot rfl).trans ((hk_ot rfl).trans q_ct)))) ?_
                                refine qm_Ru.go 2 (c' := (48, [.ref 118, .int 3, .int pos, .int 0, .long 0, .float 0], [.int (ct + 1), .ref 118], (h.1, qm_up (qm_up (qm_up I 121 (ct.toInt.toNat) 3) 122 (ct.toInt.toNat) pos) 123 (ct.toInt.toNat) 0, qm_up J 124 (ct.toInt.toNat) 0, h.2.2.2))) rfl ?_
                                obtain ⟨v139, q_v139, e_v139⟩ := hk_add (x := ct) (y := 1) (a := ct.toInt) (b := 1) rfl rfl (by omega) (by omega)
                                rw [q_v139]
                                refine hk_puti rfl (hH.1 118 (17, 105) rfl) rfl ?_
                                refine qm_Ru.go 0 (c' := (51, [.ref 118, .int 3, .int pos, .int 0, .long 0, .float 0], [], (h.1, qm_up (qm_up (qm_up (qm_up I 121 (ct.toInt.toNat) 3) 122 (ct.toInt.toNat) pos) 123 (ct.toInt.toNat) 0) 118 10 v139, qm_up J 124 (ct.toInt.toNat) 0, h.2.2.2))) rfl ?_
                                refine qm_Ru.rt (v := none) (h' := (h.1, qm_up (qm_up (qm_up (qm_up I 121 (ct.toInt.toNat) 3) 122 (ct.toInt.toNat) pos) 123 (ct.toInt.toNat) 0) 118 10 v139, qm_up J 124 (ct.toInt.toNat) 0, h.2.2.2)) rfl ?_
                                refine qm_Ru.go 3 (c' := (167, [.ref 118, .int pos, .int v17, .int v112, .int 0, .int 3], [.int 1], (h.1, qm_up (qm_up (qm_up (qm_up I 121 (ct.toInt.toNat) 3) 122 (ct.toInt.toNat) pos) 123 (ct.toInt.toNat) 0) 118 10 v139, qm_up J 124 (ct.toInt.toNat) 0, h.2.2.2))) rfl ?_
                                refine qm_Ru.rt (v := (some (.int 1))) (h' := (h.1, qm_up (qm_up (qm_up (qm_up I 121 (ct.toInt.toNat) 3) 122 (ct.toInt.toNat) pos) 123 (ct.toInt.toNat) 0) 118 10 v139, qm_up J 124 (ct.toInt.toNat) 0, h.2.2.2)) rfl ?_
                                refine qm_Ru.go 1 (c' := (290, [.ref 118, .int pos, .int v17, l3, l4, l5, l6, l7], [.int (pos + 1)], (h.1, qm_up (qm_up (qm_up (qm_up I 121 (ct.toInt.toNat) 3) 122 (ct.toInt.toNat) pos) 123 (ct.toInt.toNat) 0) 118 10 v139, qm_up J 124 (ct.toInt.toNat) 0, h.2.2.2))) rfl ?_
                                rw [q_v96]
                                refine qm_Ru.go 2 (c' := (7, [.ref 118, .int v96, .int v17, l3, l4, l5, l6, l7], [], (h.1, qm_up (qm_up (qm_up (qm_up I 121 (ct.toInt.toNat) 3) 122 (ct.toInt.toNat) pos) 123 (ct.toInt.toNat) 0) 118 10 v139, qm_up J 124 (ct.toInt.toNat) 0, h.2.2.2))) rfl ?_
                                exact ih (m - 1) (by omega) (qm_up (qm_up (qm_up (qm_up I 121 (ct.toInt.toNat) 3) 122 (ct.toInt.toNat) pos) 123 (ct.toInt.toNat) 0) 118 10 v139) (qm_up J 124 (ct.toInt.toNat) 0) v139 v96 (hb_up (o := 118) (k := 10) (x := v139) (hb_up (o := 123) (k := ct.toInt.toNat) (x := 0) (hb_up (o := 122) (k := ct.toInt.toNat) (x := pos) (hb_up (o := 121) (k := ct.toInt.toNat) (x := 3) hBI ⟨(show (0 : Int) ≤ 3 from by decide), (show (3 : Int) ≤ 44 from by decide)⟩) (qa_in_full _)) (qa_in_full _)) ⟨by show (0 : Int) ≤ v139.toInt; omega, by show v139.toInt ≤ (401 : Int); omega⟩) (fun o ho i => ((hk_mod ho rfl).trans ((hk_mod ho rfl).trans ((hk_mod ho rfl).trans ((hk_mod ho rfl).trans ((e o (hk_ms rfl ho) i).trans rfl)))))) (fun i hi => ((hk_neq (fun z => by subst z; cases hi)).trans ((hk_ot rfl).trans ((hk_ot rfl).trans ((hk_ot rfl).trans ((e8 i (hk_ms rfl hi)).trans rfl)))))) (show (qm_up (qm_up (qm_up (qm_up I 121 (ct.toInt.toNat) 3) 122 (ct.toInt.toNat) pos) 123 (ct.toInt.toNat) 0) 118 10 v139) 118 10 = _ from (hk_same)) (by omega) (by omega) (by omega) (.int v17) l3 l4 l5 l6 l7
                              · refine qm_Ru.go 7 (c' := (154, [.ref 118, .int pos, .int v17, .int v112, .int 0, .int 13], [.long 0, .int 0, .int pos, .int 13, .ref 118], (h.1, I, J, h.2.2.2))) rfl ?_
                                refine hk_inv (o := 118) (r := []) (as := [.ref 118, .int 13, .int pos, .int 0, .long 0]) rfl rfl (hH.1 118 (17, 105) rfl) rfl rfl rfl rfl ?_
                                refine qm_Ru.go 1 (c' := (1, [.ref 118, .int 13, .int pos, .int 0, .long 0, .float 0], [.ref 118], (h.1, I, J, h.2.2.2))) rfl ?_
                                refine hk_getr rfl (hH.1 118 (17, 105) rfl) rfl (hH.2 118 5 (some 121) rfl) ?_
                                refine qm_Ru.go 1 (c' := (5, [.ref 118, .int 13, .int pos, .int 0, .long 0, .float 0], [.ref 118, .ref 121], (h.1, I, J, h.2.2.2))) rfl ?_
                                refine hk_geti (v := ct) rfl (hH.1 118 (17, 105) rfl) rfl q_ct ?_
                                refine qm_Ru.go 1 (c' := (9, [.ref 118, .int 13, .int pos, .int 0, .long 0, .float 0], [.int 13, .int ct, .ref 121], (h.1, I, J, h.2.2.2))) rfl ?_
                                refine hk_ias rfl (hH.1 121 (0, 403) rfl) (by omega) (by omega) ?_
                                refine qm_Ru.go 1 (c' := (11, [.ref 118, .int 13, .int pos, .int 0, .long 0, .float 0], [.ref 118], (h.1, qm_up I 121 (ct.toInt.toNat) 13, J, h.2.2.2))) rfl ?_
                                refine hk_getr rfl (hH.1 118 (17, 105) rfl) rfl (hH.2 118 6 (some 122) rfl) ?_
                                refine qm_Ru.go 1 (c' := (15, [.ref 118, .int 13, .int pos, .int 0, .long 0, .float 0], [.ref 118, .ref 122], (h.1, qm_up I 121 (ct.toInt.toNat) 13, J, h.2.2.2))) rfl ?_
                                refine hk_geti (v := ct) rfl (hH.1 118 (17, 105) rfl) rfl (show (qm_up I 121 (ct.toInt.toNat) 13) 118 10 = _ from ((hk_ot rfl).trans q_ct)) ?_
                                refine qm_Ru.go 1 (c' := (19, [.ref 118, .int 13, .int pos, .int 0, .long 0, .float 0], [.int pos, .int ct, .ref 122], (h.1, qm_up I 121 (ct.toInt.toNat) 13, J, h.2.2.2))) rfl ?_
                                refine hk_ias rfl (hH.1 122 (0, 403) rfl) (by omega) (by omega) ?_
                                refine qm_Ru.go 1 (c' := (21, [.ref 118, .int 13, .int pos, .int 0, .long 0, .float 0], [.ref 118], (h.1, qm_up (qm_up I 121 (ct.toInt.toNat) 13) 122 (ct.toInt.toNat) pos, J, h.2.2.2))) rfl ?_
                                refine hk_getr rfl (hH.1 118 (17, 105) rfl) rfl (hH.2 118 7 (some 123) rfl) ?_
                                refine qm_Ru.go 1 (c' := (25, [.ref 118, .int 13, .int pos, .int 0, .long 0, .float 0], [.ref 118, .ref 123], (h.1, qm_up (qm_up I 121 (ct.toInt.toNat) 13) 122 (ct.toInt.toNat) pos, J, h.2.2.2))) rfl ?_
                                refine hk_geti (v := ct) rfl (hH.1 118 (17, 105) rfl) rfl (show (qm_up (qm_up I 121 (ct.toInt.toNat) 13) 122 (ct.toInt.toNat) pos) 118 10 = _ from ((hk_ot rfl).trans ((hk_ot rfl).trans q_ct))) ?_
                                refine qm_Ru.go 1 (c' := (29, [.ref 118, .int 13, .int pos, .int 0, .long 0, .float 0], [.int 0, .int ct, .ref 123], (h.1, qm_up (qm_up I 121 (ct.toInt.toNat) 13) 122 (ct.toInt.toNat) pos, J, h.2.2.2))) rfl ?_
                                refine hk_ias rfl (hH.1 123 (0, 403) rfl) (by omega) (by omega) ?_
                                refine qm_Ru.go 1 (c' := (31, [.ref 118, .int 13, .int pos, .int 0, .long 0, .float 0], [.ref 118], (h.1, qm_up (qm_up (qm_up I 121 (ct.toInt.toNat) 13) 122 (ct.toInt.toNat) pos) 123 (ct.toInt.toNat) 0, J, h.2.2.2))) rfl ?_
                                refine hk_getr rfl (hH.1 118 (17, 105) rfl) rfl (hH.2 118 8 (some 124) rfl) ?_
                                refine qm_Ru.go 1 (c' := (35, [.ref 118, .int 13, .int pos, .int 0, .long 0, .float 0], [.ref 118, .ref 124], (h.1, qm_up (qm_up (qm_up I 121 (ct.toInt.toNat) 13) 122 (ct.toInt.toNat) pos) 123 (ct.toInt.toNat) 0, J, h.2.2.2))) rfl ?_
                                refine hk_geti (v := ct) rfl (hH.1 118 (17, 105) rfl) rfl (show (qm_up (qm_up (qm_up I 121 (ct.toInt.toNat) 13) 122 (ct.toInt.toNat) pos) 123 (ct.toInt.toNat) 0) 118 10 = _ from ((hk_ot rfl).trans ((hk_ot rfl).trans ((hk_ot rfl).trans q_ct)))) ?_
                                refine qm_Ru.go 1 (c' := (40, [.ref 118, .int 13, .int pos, .int 0, .long 0, .float 0], [.long 0, .int ct, .ref 124], (h.1, qm_up (qm_up (qm_up I 121 (ct.toInt.toNat) 13) 122 (ct.toInt.toNat) pos) 123 (ct.toInt.toNat) 0, J, h.2.2.2))) rfl ?_
                                refine hk_las rfl (hH.1 124 (3, 403) rfl) (by omega) (by omega) ?_
                                refine qm_Ru.go 2 (c' := (43, [.ref 118, .int 13, .int pos, .int 0, .long 0, .float 0], [.ref 118, .ref 118], (h.1, qm_up (qm_up (qm_up I 121 (ct.toInt.toNat) 13) 122 (ct.toInt.toNat) pos) 123 (ct.toInt.toNat) 0, qm_up J 124 (ct.toInt.toNat) 0, h.2.2.2))) rfl ?_
                                refine hk_geti (v := ct) rfl (hH.1 118 (17, 105) rfl) rfl (show (qm_up (qm_up (qm_up I 121 (ct.toInt.toNat) 13) 122 (ct.toInt.toNat) pos) 123 (ct.toInt.toNat) 0) 118 10 = _ from ((hk_ot rfl).trans ((hk_ot rfl).trans ((hk_ot rfl).trans q_ct)))) ?_
                                refine qm_Ru.go 2 (c' := (48, [.ref 118, .int 13, .int pos, .int 0, .long 0, .float 0], [.int (ct + 1), .ref 118], (h.1, qm_up (qm_up (qm_up I 121 (ct.toInt.toNat) 13) 122 (ct.toInt.toNat) pos) 123 (ct.toInt.toNat) 0, qm_up J 124 (ct.toInt.toNat) 0, h.2.2.2))) rfl ?_
                                obtain ⟨v141, q_v141, e_v141⟩ := hk_add (x := ct) (y := 1) (a := ct.toInt) (b := 1) rfl rfl (by omega) (by omega)
                                rw [q_v141]
                                refine hk_puti rfl (hH.1 118 (17, 105) rfl) rfl ?_
                                refine qm_Ru.go 0 (c' := (51, [.ref 118, .int 13, .int pos, .int 0, .long 0, .float 0], [], (h.1, qm_up (qm_up (qm_up (qm_up I 121 (ct.toInt.toNat) 13) 122 (ct.toInt.toNat) pos) 123 (ct.toInt.toNat) 0) 118 10 v141, qm_up J 124 (ct.toInt.toNat) 0, h.2.2.2))) rfl ?_
                                refine qm_Ru.rt (v := none) (h' := (h.1, qm_up (qm_up (qm_up (qm_up I 121 (ct.toInt.toNat) 13) 122 (ct.toInt.toNat) pos) 123 (ct.toInt.toNat) 0) 118 10 v141, qm_up J 124 (ct.toInt.toNat) 0, h.2.2.2)) rfl ?_
                                refine qm_Ru.go 3 (c' := (167, [.ref 118, .int pos, .int v17, .int v112, .int 0, .int 13], [.int 1], (h.1, qm_up (qm_up (qm_up (qm_up I 121 (ct.toInt.toNat) 13) 122 (ct.toInt.toNat) pos) 123 (ct.toInt.toNat) 0) 118 10 v141, qm_up J 124 (ct.toInt.toNat) 0, h.2.2.2))) rfl ?_
                                refine qm_Ru.rt (v := (some (.int 1))) (h' := (h.1, qm_up (qm_up (qm_up (qm_up I 121 (ct.toInt.toNat) 13) 122 (ct.toInt.toNat) pos) 123 (ct.toInt.toNat) 0) 118 10 v141, qm_up J 124 (ct.toInt.toNat) 0, h.2.2.2)) rfl ?_
                                refine qm_Ru.go 1 (c' := (290, [.ref 118, .int pos, .int v17, l3, l4, l5, l6, l7], [.int (pos + 1)], (h.1, qm_up (qm_up (qm_up (qm_up I 121 (ct.toInt.toNat) 13) 122 (ct.toInt.toNat) pos) 123 (ct.toInt.toNat) 0) 118 10 v141, qm_up J 124 (ct.toInt.toNat) 0, h.2.2.2))) rfl ?_
                                rw [q_v96]
                                refine qm_Ru.go 2 (c' := (7, [.ref 118, .int v96, .int v17, l3, l4, l5, l6, l7], [], (h.1, qm_up (qm_up (qm_up (qm_up I 121 (ct.toInt.toNat) 13) 122 (ct.toInt.toNat) pos) 123 (ct.toInt.toNat) 0) 118 10 v141, qm_up J 124 (ct.toInt.toNat) 0, h.2.2.2))) rfl ?_
                                exact ih (m - 1) (by omega) (qm_up (qm_up (qm_up (qm_up I 121 (ct.toInt.toNat) 13) 122 (ct.toInt.toNat) pos) 123 (ct.toInt.toNat) 0) 118 10 v141) (qm_up J 124 (ct.toInt.toNat) 0) v141 v96 (hb_up (o := 118) (k := 10) (x := v141) (hb_up (o := 123) (k := ct.toInt.toNat) (x := 0) (hb_up (o := 122) (k := ct.toInt.toNat) (x := pos) (hb_up (o := 121) (k := ct.toInt.toNat) (x := 13) hBI ⟨(show (0 : Int) ≤ 13 from by decide), (show (13 : Int) ≤ 44 from by decide)⟩) (qa_in_full _)) (qa_in_full _)) ⟨by show (0 : Int) ≤ v141.toInt; omega, by show v141.toInt ≤ (401 : Int); omega⟩) (fun o ho i => ((hk_mod ho rfl).trans ((hk_mod ho rfl).trans ((hk_mod ho rfl).trans ((hk_mod ho rfl).trans ((e o (hk_ms rfl ho) i).trans rfl)))))) (fun i hi => ((hk_neq (fun z => by subst z; cases hi)).trans ((hk_ot rfl).trans ((hk_ot rfl).trans ((hk_ot rfl).trans ((e8 i (hk_ms rfl hi)).trans rfl)))))) (show (qm_up (qm_up (qm_up (qm_up I 121 (ct.toInt.toNat) 13) 122 (ct.toInt.toNat) pos) 123 (ct.toInt.toNat) 0) 118 10 v141) 118 10 = _ from (hk_same)) (by omega) (by omega) (by omega) (.int v17) l3 l4 l5 l6 l7
                            · refine qm_Ru.go 8 (c' := (154, [.ref 118, .int pos, .int v17, .int v112, .int 0, .int 4], [.long 0, .int 0, .int pos, .int 4, .ref 118], (h.1, I, J, h.2.2.2))) rfl ?_
                              refine hk_inv (o := 118) (r := []) (as := [.ref 118, .int 4, .int pos, .int 0, .long 0]) rfl rfl (hH.1 118 (17, 105) rfl) rfl rfl rfl rfl ?_
                              refine qm_Ru.go 1 (c' := (1, [.ref 118, .int 4, .int pos, .int 0, .long 0, .float 0], [.ref 118], (h.1, I, J, h.2.2.2))) rfl ?_
                              refine hk_getr rfl (hH.1 118 (17, 105) rfl) rfl (hH.2 118 5 (some 121) rfl) ?_
                              refine qm_Ru.go 1 (c' := (5, [.ref 118, .int 4, .int pos, .int 0, .long 0, .float 0], [.ref 118, .ref 121], (h.1, I, J, h.2.2.2))) rfl ?_
                              refine hk_geti (v := ct) rfl (hH.1 118 (17, 105) rfl) rfl q_ct ?_
                              refine qm_Ru.go 1 (c' := (9, [.ref 118, .int 4, .int pos, .int 0, .long 0, .float 0], [.int 4, .int ct, .ref 121], (h.1, I, J, h.2.2.2))) rfl ?_
                              refine hk_ias rfl (hH.1 121 (0, 403) rfl) (by omega) (by omega) ?_
                              refine qm_Ru.go 1 (c' := (11, [.ref 118, .int 4, .int pos, .int 0, .long 0, .float 0], [.ref 118], (h.1, qm_up I 121 (ct.toInt.toNat) 4, J, h.2.2.2))) rfl ?_
                              refine hk_getr rfl (hH.1 118 (17, 105) rfl) rfl (hH.2 118 6 (some 122) rfl) ?_
                              refine qm_Ru.go 1 (c' := (15, [.ref 118, .int 4, .int pos, .int 0, .long 0, .float 0], [.ref 118, .ref 122], (h.1, qm_up I 121 (ct.toInt.toNat) 4, J, h.2.2.2))) rfl ?_
                              refine hk_geti (v := ct) rfl (hH.1 118 (17, 105) rfl) rfl (show (qm_up I 121 (ct.toInt.toNat) 4) 118 10 = _ from ((hk_ot rfl).trans q_ct)) ?_
                              refine qm_Ru.go 1 (c' := (19, [.ref 118, .int 4, .int pos, .int 0, .long 0, .float 0], [.int pos, .int ct, .ref 122], (h.1, qm_up I 121 (ct.toInt.toNat) 4, J, h.2.2.2))) rfl ?_
                              refine hk_ias rfl (hH.1 122 (0, 403) rfl) (by omega) (by omega) ?_
                              refine qm_Ru.go 1 (c' := (21, [.ref 118, .int 4, .int pos, .int 0, .long 0, .float 0], [.ref 118], (h.1, qm_up (qm_up I 121 (ct.toInt.toNat) 4) 122 (ct.toInt.toNat) pos, J, h.2.2.2))) rfl ?_
                              refine hk_getr rfl (hH.1 118 (17, 105) rfl) rfl (hH.2 118 7 (some 123) rfl) ?_
                              refine qm_Ru.go 1 (c' := (25, [.ref 118, .int 4, .int pos, .int 0, .long 0, .float 0], [.ref 118, .ref 123], (h.1, qm_up (qm_up I 121 (ct.toInt.toNat) 4) 122 (ct.toInt.toNat) pos, J, h.2.2.2))) rfl ?_
                              refine hk_geti (v := ct) rfl (hH.1 118 (17, 105) rfl) rfl (show (qm_up (qm_up I 121 (ct.toInt.toNat) 4) 122 (ct.toInt.toNat) pos) 118 10 = _ from ((hk_ot rfl).trans ((hk_ot rfl).trans q_ct))) ?_
                              refine qm_Ru.go 1 (c' := (29, [.ref 118, .int 4, .int pos, .int 0, .long 0, .float 0], [.int 0, .int ct, .ref 123], (h.1, qm_up (qm_up I 121 (ct.toInt.toNat) 4) 122 (ct.toInt.toNat) pos, J, h.2.2.2))) rfl ?_
                              refine hk_ias rfl (hH.1 123 (0, 403) rfl) (by omega) (by omega) ?_
                              refine qm_Ru.go 1 (c' := (31, [.ref 118, .int 4, .int pos, .int 0, .long 0, .float 0], [.ref 118], (h.1, qm_up (qm_up (qm_up I 121 (ct.toInt.toNat) 4) 122 (ct.toInt.toNat) pos) 123 (ct.toInt.toNat) 0, J, h.2.2.2))) rfl ?_
                              refine hk_getr rfl (hH.1 118 (17, 105) rfl) rfl (hH.2 118 8 (some 124) rfl) ?_
                              refine qm_Ru.go 1 (c' := (35, [.ref 118, .int 4, .int pos, .int 0, .long 0, .float 0], [.ref 118, .ref 124], (h.1, qm_up (qm_up (qm_up I 121 (ct.toInt.toNat) 4) 122 (ct.toInt.toNat) pos) 123 (ct.toInt.toNat) 0, J, h.2.2.2))) rfl ?_
                              refine hk_geti (v := ct) rfl (hH.1 118 (17, 105) rfl) rfl (show (qm_up (qm_up (qm_up I 121 (ct.toInt.toNat) 4) 122 (ct.toInt.toNat) pos) 123 (ct.toInt.toNat) 0) 118 10 = _ from ((hk_ot rfl).trans ((hk_ot rfl).trans ((hk_ot rfl).trans q_ct)))) ?_
                              refine qm_Ru.go 1 (c' := (40, [.ref 118, .int 4, .int pos, .int 0, .long 0, .float 0], [.long 0, .int ct, .ref 124], (h.1, qm_up (qm_up (qm_up I 121 (ct.toInt.toNat) 4) 122 (ct.toInt.toNat) pos) 123 (ct.toInt.toNat) 0, J, h.2.2.2))) rfl ?_
                              refine hk_las rfl (hH.1 124 (3, 403) rfl) (by omega) (by omega) ?_
                              refine qm_Ru.go 2 (c' := (43, [.ref 118, .int 4, .int pos, .int 0, .long 0, .float 0], [.ref 118, .ref 118], (h.1, qm_up (qm_up (qm_up I 121 (ct.toInt.toNat) 4) 122 (ct.toInt.toNat) pos) 123 (ct.toInt.toNat) 0, qm_up J 124 (ct.toInt.toNat) 0, h.2.2.2))) rfl ?_
                              refine hk_geti (v := ct) rfl (hH.1 118 (17, 105) rfl) rfl (show (qm_up (qm_up (qm_up I 121 (ct.toInt.toNat) 4) 122 (ct.toInt.toNat) pos) 123 (ct.toInt.toNat) 0) 118 10 = _ from ((hk_ot rfl).trans ((hk_ot rfl).trans ((hk_ot rfl).trans q_ct)))) ?_
                              refine qm_Ru.go 2 (c' := (48, [.ref 118, .int 4, .int pos, .int 0, .long 0, .float 0], [.int (ct + 1), .ref 118], (h.1, qm_up (qm_up (qm_up I 121 (ct.toInt.toNat) 4) 122 (ct.toInt.toNat) pos) 123 (ct.toInt.toNat) 0, qm_up J 124 (ct.toInt.toNat) 0, h.2.2.2))) rfl ?_
                              obtain ⟨v143, q_v143, e_v143⟩ := hk_add (x := ct) (y := 1) (a := ct.toInt) (b := 1) rfl rfl (by omega) (by omega)
                              rw [q_v143]
                              refine hk_puti rfl (hH.1 118 (17, 105) rfl) rfl ?_
                              refine qm_Ru.go 0 (c' := (51, [.ref 118, .int 4, .int pos, .int 0, .long 0, .float 0], [], (h.1, qm_up (qm_up (qm_up (qm_up I 121 (ct.toInt.toNat) 4) 122 (ct.toInt.toNat) pos) 123 (ct.toInt.toNat) 0) 118 10 v143, qm_up J 124 (ct.toInt.toNat) 0, h.2.2.2))) rfl ?_
                              refine qm_Ru.rt (v := none) (h' := (h.1, qm_up (qm_up (qm_up (qm_up I 121 (ct.toInt.toNat) 4) 122 (ct.toInt.toNat) pos) 123 (ct.toInt.toNat) 0) 118 10 v143, qm_up J 124 (ct.toInt.toNat) 0, h.2.2.2)) rfl ?_
                              refine qm_Ru.go 3 (c' := (167, [.ref 118, .int pos, .int v17, .int v112, .int 0, .int 4], [.int 1], (h.1, qm_up (qm_up (qm_up (qm_up I 121 (ct.toInt.toNat) 4) 122 (ct.toInt.toNat) pos) 123 (ct.toInt.toNat) 0) 118 10 v143, qm_up J 124 (ct.toInt.toNat) 0, h.2.2.2))) rfl ?_
                              refine qm_Ru.rt (v := (some (.int 1))) (h' := (h.1, qm_up (qm_up (qm_up (qm_up I 121 (ct.toInt.toNat) 4) 122 (ct.toInt.toNat) pos) 123 (ct.toInt.toNat) 0) 118 10 v143, qm_up J 124 (ct.toInt.toNat) 0, h.2.2.2)) rfl ?_
                              refine qm_Ru.go 1 (c' := (290, [.ref 118, .int pos, .int v17, l3, l4, l5, l6, l7], [.int (pos + 1)], (h.1, qm_up (qm_up (qm_up (qm_up I 121 (ct.toInt.toNat) 4) 122 (ct.toInt.toNat) pos) 123 (ct.toInt.toNat) 0) 118 10 v143, qm_up J 124 (ct.toInt.toNat) 0, h.2.2.2))) rfl ?_
                              rw [q_v96]
                              refine qm_Ru.go 2 (c' := (7, [.ref 118, .int v96, .int v17, l3, l4, l5, l6, l7], [], (h.1, qm_up (qm_up (qm_up (qm_up I 121 (ct.toInt.toNat) 4) 122 (ct.toInt.toNat) pos) 123 (ct.toInt.toNat) 0) 118 10 v143, qm_up J 124 (ct.toInt.toNat) 0, h.2.2.2))) rfl ?_
                              exact ih (m - 1) (by omega) (qm_up (qm_up (qm_up (qm_up I 121 (ct.toInt.toNat) 4) 122 (ct.toInt.toNat) pos) 123 (ct.toInt.toNat) 0) 118 10 v143) (qm_up J 124 (ct.toInt.toNat) 0) v143 v96 (hb_up (o := 118) (k := 10) (x := v143) (hb_up (o := 123) (k := ct.toInt.toNat) (x := 0) (hb_up (o := 122) (k := ct.toInt.toNat) (x := pos) (hb_up (o := 121) (k := ct.toInt.toNat) (x := 4) hBI ⟨(show (0 : Int) ≤ 4 from by decide), (show (4 : Int) ≤ 44 from by decide)⟩) (qa_in_full _)) (qa_in_full _)) ⟨by show (0 : Int) ≤ v143.toInt; omega, by show v143.toInt ≤ (401 : Int); omega⟩) (fun o ho i => ((hk_mod ho rfl).trans ((hk_mod ho rfl).trans ((hk_mod ho rfl).trans ((hk_mod ho rfl).trans ((e o (hk_ms rfl ho) i).trans rfl)))))) (fun i hi => ((hk_neq (fun z => by subst z; cases hi)).trans ((hk_ot rfl).trans ((hk_ot rfl).trans ((hk_ot rfl).trans ((e8 i (hk_ms rfl hi)).trans rfl)))))) (show (qm_up (qm_up (qm_up (qm_up I 121 (ct.toInt.toNat) 4) 122 (ct.toInt.toNat) pos) 123 (ct.toInt.toNat) 0) 118 10 v143) 118 10 = _ from (hk_same)) (by omega) (by omega) (by omega) (.int v17) l3 l4 l5 l6 l7
                      · refine qm_Ru.go 2 (c' := (17, [.int v17], [.int 1], (h.1, I, J, h.2.2.2))) rfl ?_
                        refine qm_Ru.rt (v := (some (.int 1))) (h' := (h.1, I, J, h.2.2.2)) rfl ?_
                        refine qm_Ru.go 5 (c' := (208, [.ref 118, .int pos, .int v17, .int 0, .int 0, l5, l6, l7], [], (h.1, I, J, h.2.2.2))) rfl ?_
                        refine hl_c208 (h := (h.1, I, J, h.2.2.2)) (d := d) hH hBI (n := n) (pos := pos) (show (I) 118 4 = n from ((e8 4 rfl).trans q_n)) hn (by omega) (fun ln145 v146 hl_ln145 => ?_) 2000 0 0 (by omega) (by omega)
                        refine qm_Ru.go 3 (c' := (253, [.ref 118, .int pos, .int v17, .int ln145, .int v146, l5, l6, l7], [.int 4, .int ln145, .ref 118], (h.1, I, J, h.2.2.2))) rfl ?_
                        refine hk_cle (ix := ln145.toInt) (iy := 4) rfl rfl rfl (fun z147 => ?_) (fun z147 => ?_)
                        · refine qm_Ru.go 4 (c' := (265, [.ref 118, .int pos, .int v17, .int ln145, .int v146, l5, l6, l7], [.long 0, .int v146, .int pos, .int 2, .ref 118], (h.1, I, J, h.2.2.2))) rfl ?_
                          refine hk_inv (o := 118) (r := []) (as := [.ref 118, .int 2, .int pos, .int v146, .long 0]) rfl rfl (hH.1 118 (17, 105) rfl) rfl rfl rfl rfl ?_
                          refine qm_Ru.go 1 (c' := (1, [.ref 118, .int 2, .int pos, .int v146, .long 0, .float 0], [.ref 118], (h.1, I, J, h.2.2.2))) rfl ?_
                          refine hk_getr rfl (hH.1 118 (17, 105) rfl) rfl (hH.2 118 5 (some 121) rfl) ?_
                          refine qm_Ru.go 1 (c' := (5, [.ref 118, .int 2, .int pos, .int v146, .long 0, .float 0], [.ref 118, .ref 121], (h.1, I, J, h.2.2.2))) rfl ?_
                          refine hk_geti (v := ct) rfl (hH.1 118 (17, 105) rfl) rfl q_ct ?_
                          refine qm_Ru.go 1 (c' := (9, [.ref 118, .int 2, .int pos, .int v146, .long 0, .float 0], [.int 2, .int ct, .ref 121], (h.1, I, J, h.2.2.2))) rfl ?_
                          refine hk_ias rfl (hH.1 121 (0, 403) rfl) (by omega) (by omega) ?_
                          refine qm_Ru.go 1 (c' := (11, [.ref 118, .int 2, .int pos, .int v146, .long 0, .float 0], [.ref 118], (h.1, qm_up I 121 (ct.toInt.toNat) 2, J, h.2.2.2))) rfl ?_
                          refine hk_getr rfl (hH.1 118 (17, 105) rfl) rfl (hH.2 118 6 (some 122) rfl) ?_
                          refine qm_Ru.go 1 (c' := (15, [.ref 118, .int 2, .int pos, .int v146, .long 0, .float 0], [.ref 118, .ref 122], (h.1, qm_up I 121 (ct.toInt.toNat) 2, J, h.2.2.2))) rfl ?_
                          refine hk_geti (v := ct) rfl (hH.1 118 (17, 105) rfl) rfl (show (qm_up I 121 (ct.toInt.toNat) 2) 118 10 = _ from ((hk_ot rfl).trans q_ct)) ?_
                          refine qm_Ru.go 1 (c' := (19, [.ref 118, .int 2, .int pos, .int v146, .long 0, .float 0], [.int pos, .int ct, .ref 122], (h.1, qm_up I 121 (ct.toInt.toNat) 2, J, h.2.2.2))) rfl ?_
                          refine hk_ias rfl (hH.1 122 (0, 403) rfl) (by omega) (by omega) ?_
                          refine qm_Ru.go 1 (c' := (21, [.ref 118, .int 2, .int pos, .int v146, .long 0, .float 0], [.ref 118], (h.1, qm_up (qm_up I 121 (ct.toInt.toNat) 2) 122 (ct.toInt.toNat) pos, J, h.2.2.2))) rfl ?_
                          refine hk_getr rfl (hH.1 118 (17, 105) rfl) rfl (hH.2 118 7 (some 123) rfl) ?_
                          refine qm_Ru.go 1 (c' := (25, [.ref 118, .int 2, .int pos, .int v146, .long 0, .float 0], [.ref 118, .ref 123], (h.1, qm_up (qm_up I 121 (ct.toInt.toNat) 2) 122 (ct.toInt.toNat) pos, J, h.2.2.2))) rfl ?_
                          refine hk_geti (v := ct) rfl (hH.1 118 (17, 105) rfl) rfl (show (qm_up (qm_up I 121 (ct.toInt.toNat) 2) 122 (ct.toInt.toNat) pos) 118 10 = _ from ((hk_ot rfl).trans ((hk_ot rfl).trans q_ct))) ?_
                          refine qm_Ru.go 1 (c' := (29, [.ref 118, .int 2, .int pos, .int v146, .long 0, .float 0], [.int v146, .int ct, .ref 123], (h.1, qm_up (qm_up I 121 (ct.toInt.toNat) 2) 122 (ct.toInt.toNat) pos, J, h.2.2.2))) rfl ?_
                          refine hk_ias rfl (hH.1 123 (0, 403) rfl) (by omega) (by omega) ?_
                          refine qm_Ru.go 1 (c' := (31, [.ref 118, .int 2, .int pos, .int v146, .long 0, .float 0], [.ref 118], (h.1, qm_up (qm_up (qm_up I 121 (ct.toInt.toNat) 2) 122 (ct.toInt.toNat) pos) 123 (ct.toInt.toNat) v146, J, h.2.2.2))) rfl ?_
                          refine hk_getr rfl (hH.1 118 (17, 105) rfl) rfl (hH.2 118 8 (some 124) rfl) ?_
                          refine qm_Ru.go 1 (c' := (35, [.ref 118, .int 2, .int pos, .int v146, .long 0, .float 0], [.ref 118, .ref 124], (h.1, qm_up (qm_up (qm_up I 121 (ct.toInt.toNat) 2) 122 (ct.toInt.toNat) pos) 123 (ct.toInt.toNat) v146, J, h.2.2.2))) rfl ?_
                          refine hk_geti (v := ct) rfl (hH.1 118 (17, 105) rfl) rfl (show (qm_up (qm_up (qm_up I 121 (ct.toInt.toNat) 2) 122 (ct.toInt.toNat) pos) 123 (ct.toInt.toNat) v146) 118 10 = _ from ((hk_ot rfl).trans ((hk_ot rfl).trans ((hk_ot rfl).trans q_ct)))) ?_
                          refine qm_Ru.go 1 (c' := (40, [.ref 118, .int 2, .int pos, .int v146, .long 0, .float 0], [.long 0, .int ct, .ref 124], (h.1, qm_up (qm_up (qm_up I 121 (ct.toInt.toNat) 2) 122 (ct.toInt.toNat) pos) 123 (ct.toInt.toNat) v146, J, h.2.2.2))) rfl ?_
                          refine hk_las rfl (hH.1 124 (3, 403) rfl) (by omega) (by omega) ?_
                          refine qm_Ru.go 2 (c' := (43, [.ref 118, .int 2, .int pos, .int v146, .long 0, .float 0], [.ref 118, .ref 118], (h.1, qm_up (qm_up (qm_up I 121 (ct.toInt.toNat) 2) 122 (ct.toInt.toNat) pos) 123 (ct.toInt.toNat) v146, qm_up J 124 (ct.toInt.toNat) 0, h.2.2.2))) rfl ?_
                          refine hk_geti (v := ct) rfl (hH.1 118 (17, 105) rfl) rfl (show (qm_up (qm_up (qm_up I 121 (ct.toInt.toNat) 2) 122 (ct.toInt.toNat) pos) 123 (ct.toInt.toNat) v146) 118 10 = _ from ((hk_ot rfl).trans ((hk_ot rfl).trans ((hk_ot rfl).trans q_ct)))) ?_
                          refine qm_Ru.go 2 (c' := (48, [.ref 118, .int 2, .int pos, .int v146, .long 0, .float 0], [.int (ct + 1), .ref 118], (h.1, qm_up (qm_up (qm_up I 121 (ct.toInt.toNat) 2) 122 (ct.toInt.toNat) pos) 123 (ct.toInt.toNat) v146, qm_up J 124 (ct.toInt.toNat) 0, h.2.2.2))) rfl ?_
                          obtain ⟨v148, q_v148, e_v148⟩ := hk_add (x := ct) (y := 1) (a := ct.toInt) (b := 1) rfl rfl (by omega) (by omega)
                          rw [q_v148]
                          refine hk_puti rfl (hH.1 118 (17, 105) rfl) rfl ?_
                          refine qm_Ru.go 0 (c' := (51, [.ref 118, .int 2, .int pos, .int v146, .long 0, .float 0], [], (h.1, qm_up (qm_up (qm_up (qm_up I 121 (ct.toInt.toNat) 2) 122 (ct.toInt.toNat) pos) 123 (ct.toInt.toNat) v146) 118 10 v148, qm_up J 124 (ct.toInt.toNat) 0, h.2.2.2))) rfl ?_
                          refine qm_Ru.rt (v := none) (h' := (h.1, qm_up (qm_up (qm_up (qm_up I 121 (ct.toInt.toNat) 2) 122 (ct.toInt.toNat) pos) 123 (ct.toInt.toNat) v146) 118 10 v148, qm_up J 124 (ct.toInt.toNat) 0, h.2.2.2)) rfl ?_
                          refine qm_Ru.go 3 (c' := (271, [.ref 118, .int pos, .int v17, .int ln145, .int v146, l5, l6, l7], [.int (pos + ln145)], (h.1, qm_up (qm_up (qm_up (qm_up I 121 (ct.toInt.toNat) 2) 122 (ct.toInt.toNat) pos) 123 (ct.toInt.toNat) v146) 118 10 v148, qm_up J 124 (ct.toInt.toNat) 0, h.2.2.2))) rfl ?_
                          obtain ⟨v149, q_v149, e_v149⟩ := hk_add (x := pos) (y := ln145) (a := pos.toInt) (b := ln145.toInt) rfl rfl (by omega) (by omega)
                          rw [q_v149]
                          refine qm_Ru.go 3 (c' := (7, [.ref 118, .int v149, .int v17, .int ln145, .int v146, l5, l6, l7], [], (h.1, qm_up (qm_up (qm_up (qm_up I 121 (ct.toInt.toNat) 2) 122 (ct.toInt.toNat) pos) 123 (ct.toInt.toNat) v146) 118 10 v148, qm_up J 124 (ct.toInt.toNat) 0, h.2.2.2))) rfl ?_
                          exact ih (m - 1) (by omega) (qm_up (qm_up (qm_up (qm_up I 121 (ct.toInt.toNat) 2) 122 (ct.toInt.toNat) pos) 123 (ct.toInt.toNat) v146) 118 10 v148) (qm_up J 124 (ct.toInt.toNat) 0) v148 v149 (hb_up (o := 118) (k := 10) (x := v148) (hb_up (o := 123) (k := ct.toInt.toNat) (x := v146) (hb_up (o := 122) (k := ct.toInt.toNat) (x := pos) (hb_up (o := 121) (k := ct.toInt.toNat) (x := 2) hBI ⟨(show (0 : Int) ≤ 2 from by decide), (show (2 : Int) ≤ 44 from by decide)⟩) (qa_in_full _)) (qa_in_full _)) ⟨by show (0 : Int) ≤ v148.toInt; omega, by show v148.toInt ≤ (401 : Int); omega⟩) (fun o ho i => ((hk_mod ho rfl).trans ((hk_mod ho rfl).trans ((hk_mod ho rfl).trans ((hk_mod ho rfl).trans ((e o (hk_ms rfl ho) i).trans rfl)))))) (fun i hi => ((hk_neq (fun z => by subst z; cases hi)).trans ((hk_ot rfl).trans ((hk_ot rfl).trans ((hk_ot rfl).trans ((e8 i (hk_ms rfl hi)).trans rfl)))))) (show (qm_up (qm_up (qm_up (qm_up I 121 (ct.toInt.toNat) 2) 122 (ct.toInt.toNat) pos) 123 (ct.toInt.toNat) v146) 118 10 v148) 118 10 = _ from (hk_same)) (by omega) (by omega) (by omega) (.int v17) (.int ln145) (.int v146) l5 l6 l7
                        · refine qm_Ru.go 5 (c' := (265, [.ref 118, .int pos, .int v17, .int ln145, .int v146, l5, l6, l7], [.long 0, .int v146, .int pos, .int 3, .ref 118], (h.1, I, J, h.2.2.2))) rfl ?_
                          refine hk_inv (o := 118) (r := []) (as := [.ref 118, .int 3, .int pos, .int v146, .long 0]) rfl rfl (hH.1 118 (17, 105) rfl) rfl rfl rfl rfl ?_
                          refine qm_Ru.go 1 (c' := (1, [.ref 118, .int 3, .int pos, .int v146, .long 0, .float 0], [.ref 118], (h.1, I, J, h.2.2.2))) rfl ?_
                          refine hk_getr rfl (hH.1 118 (17, 105) rfl) rfl (hH.2 118 5 (some 121) rfl) ?_
                          refine qm_Ru.go 1 (c' := (5, [.ref 118, .int 3, .int pos, .int v146, .long 0, .float 0], [.ref 118, .ref 121], (h.1, I, J, h.2.2.2))) rfl ?_
                          refine hk_geti (v := ct) rfl (hH.1 118 (17, 105) rfl) rfl q_ct ?_
                          refine qm_Ru.go 1 (c' := (9, [.ref 118, .int 3, .int pos, .int v146, .long 0, .float 0], [.int 3, .int ct, .ref 121], (h.1, I, J, h.2.2.2))) rfl ?_
                          refine hk_ias rfl (hH.1 121 (0, 403) rfl) (by omega) (by omega) ?_
                          refine qm_Ru.go 1 (c' := (11, [.ref 118, .int 3, .int pos, .int v146, .long 0, .float 0], [.ref 118], (h.1, qm_up I 121 (ct.toInt.toNat) 3, J, h.2.2.2))) rfl ?_
                          refine hk_getr rfl (hH.1 118 (17, 105) rfl) rfl (hH.2 118 6 (some 122) rfl) ?_
                          refine qm_Ru.go 1 (c' := (15, [.ref 118, .int 3, .int pos, .int v146, .long 0, .float 0], [.ref 118, .ref 122], (h.1, qm_up I 121 (ct.toInt.toNat) 3, J, h.2.2.2))) rfl ?_
                          refine hk_geti (v := ct) rfl (hH.1 118 (17, 105) rfl) rfl (show (qm_up I 121 (ct.toInt.toNat) 3) 118 10 = _ from ((hk_ot rfl).trans q_ct)) ?_
                          refine qm_Ru.go 1 (c' := (19, [.ref 118, .int 3, .int pos, .int v146, .long 0, .float 0], [.int pos, .int ct, .ref 122], (h.1, qm_up I 121 (ct.toInt.toNat) 3, J, h.2.2.2))) rfl ?_
                          refine hk_ias rfl (hH.1 122 (0, 403) rfl) (by omega) (by omega) ?_
                          refine qm_Ru.go 1 (c' := (21, [.ref 118, .int 3, .int pos, .int v146, .long 0, .float 0], [.ref 118], (h.1, qm_up (qm_up I 121 (ct.toInt.toNat) 3) 122 (ct.toInt.toNat) pos, J, h.2.2.2))) rfl ?_
                          refine hk_getr rfl (hH.1 118 (17, 105) rfl) rfl (hH.2 118 7 (some 123) rfl) ?_
                          refine qm_Ru.go 1 (c' := (25, [.ref 118, .int 3, .int pos, .int v146, .long 0, .float 0], [.ref 118, .ref 123], (h.1, qm_up (qm_up I 121 (ct.toInt.toNat) 3) 122 (ct.toInt.toNat) pos, J, h.2.2.2))) rfl ?_
                          refine hk_geti (v := ct) rfl (hH.1 118 (17, 105) rfl) rfl (show (qm_up (qm_up I 121 (ct.toInt.toNat) 3) 122 (ct.toInt.toNat) pos) 118 10 = _ from ((hk_ot rfl).trans ((hk_ot rfl).trans q_ct))) ?_
                          refine qm_Ru.go 1 (c' := (29, [.ref 118, .int 3, .int pos, .int v146, .long 0, .float 0], [.int v146, .int ct, .ref 123], (h.1, qm_up (qm_up I 121 (ct.toInt.toNat) 3) 122 (ct.toInt.toNat) pos, J, h.2.2.2))) rfl ?_
                          refine hk_ias rfl (hH.1 123 (0, 403) rfl) (by omega) (by omega) ?_
                          refine qm_Ru.go 1 (c' := (31, [.ref 118, .int 3, .int pos, .int v146, .long 0, .float 0], [.ref 118], (h.1, qm_up (qm_up (qm_up I 121 (ct.toInt.toNat) 3) 122 (ct.toInt.toNat) pos) 123 (ct.toInt.toNat) v146, J, h.2.2.2))) rfl ?_
                          refine hk_getr rfl (hH.1 118 (17, 105) rfl) rfl (hH.2 118 8 (some 124) rfl) ?_
                          refine qm_Ru.go 1 (c' := (35, [.ref 118, .int 3, .int pos, .int v146, .long 0, .float 0], [.ref 118, .ref 124], (h.1, qm_up (qm_up (qm_up I 121 (ct.toInt.toNat) 3) 122 (ct.toInt.toNat) pos) 123 (ct.toInt.toNat) v146, J, h.2.2.2))) rfl ?_
                          refine hk_geti (v := ct) rfl (hH.1 118 (17, 105) rfl) rfl (show (qm_up (qm_up (qm_up I 121 (ct.toInt.toNat) 3) 122 (ct.toInt.toNat) pos) 123 (ct.toInt.toNat) v146) 118 10 = _ from ((hk_ot rfl).trans ((hk_ot rfl).trans ((hk_ot rfl).trans q_ct)))) ?_
                          refine qm_Ru.go 1 (c' := (40, [.ref 118, .int 3, .int pos, .int v146, .long 0, .float 0], [.long 0, .int ct, .ref 124], (h.1, qm_up (qm_up (qm_up I 121 (ct.toInt.toNat) 3) 122 (ct.toInt.toNat) pos) 123 (ct.toInt.toNat) v146, J, h.2.2.2))) rfl ?_
                          refine hk_las rfl (hH.1 124 (3, 403) rfl) (by omega) (by omega) ?_
                          refine qm_Ru.go 2 (c' := (43, [.ref 118, .int 3, .int pos, .int v146, .long 0, .float 0], [.ref 118, .ref 118], (h.1, qm_up (qm_up (qm_up I 121 (ct.toInt.toNat) 3) 122 (ct.toInt.toNat) pos) 123 (ct.toInt.toNat) v146, qm_up J 124 (ct.toInt.toNat) 0, h.2.2.2))) rfl ?_
                          refine hk_geti (v := ct) rfl (hH.1 118 (17, 105) rfl) rfl (show (qm_up (qm_up (qm_up I 121 (ct.toInt.toNat) 3) 122 (ct.toInt.toNat) pos) 123 (ct.toInt.toNat) v146) 118 10 = _ from ((hk_ot rfl).trans ((hk_ot rfl).trans ((hk_ot rfl).trans q_ct)))) ?_
                          refine qm_Ru.go 2 (c' := (48, [.ref 118, .int 3, .int pos, .int v146, .long 0, .float 0], [.int (ct + 1), .ref 118], (h.1, qm_up (qm_up (qm_up I 121 (ct.toInt.toNat) 3) 122 (ct.toInt.toNat) pos) 123 (ct.toInt.toNat) v146, qm_up J 124 (ct.toInt.toNat) 0, h.2.2.2))) rfl ?_
                          obtain ⟨v150, q_v150, e_v150⟩ := hk_add (x := ct) (y := 1) (a := ct.toInt) (b := 1) rfl rfl (by omega) (by omega)
                          rw [q_v150]
                          refine hk_puti rfl (hH.1 118 (17, 105) rfl) rfl ?_
                          refine qm_Ru.go 0 (c' := (51, [.ref 118, .int 3, .int pos, .int v146, .long 0, .float 0], [], (h.1, qm_up (qm_up (qm_up (qm_up I 121 (ct.toInt.toNat) 3) 122 (ct.toInt.toNat) pos) 123 (ct.toInt.toNat) v146) 118 10 v150, qm_up J 124 (ct.toInt.toNat) 0, h.2.2.2))) rfl ?_
                          refine qm_Ru.rt (v := none) (h' := (h.1, qm_up (qm_up (qm_up (qm_up I 121 (ct.toInt.toNat) 3) 122 (ct.toInt.toNat) pos) 123 (ct.toInt.toNat) v146) 118 10 v150, qm_up J 124 (ct.toInt.toNat) 0, h.2.2.2)) rfl ?_
                          refine qm_Ru.go 3 (c' := (271, [.ref 118, .int pos, .int v17, .int ln145, .int v146, l5, l6, l7], [.int (pos + ln145)], (h.1, qm_up (qm_up (qm_up (qm_up I 121 (ct.toInt.toNat) 3) 122 (ct.toInt.toNat) pos) 123 (ct.toInt.toNat) v146) 118 10 v150, qm_up J 124 (ct.toInt.toNat) 0, h.2.2.2))) rfl ?_
                          obtain ⟨v151, q_v151, e_v151⟩ := hk_add (x := pos) (y := ln145) (a := pos.toInt) (b := ln145.toInt) rfl rfl (by omega) (by omega)
                          rw [q_v151]
                          refine qm_Ru.go 3 (c' := (7, [.ref 118, .int v151, .int v17, .int ln145, .int v146, l5, l6, l7], [], (h.1, qm_up (qm_up (qm_up (qm_up I 121 (ct.toInt.toNat) 3) 122 (ct.toInt.toNat) pos) 123 (ct.toInt.toNat) v146) 118 10 v150, qm_up J 124 (ct.toInt.toNat) 0, h.2.2.2))) rfl ?_
                          exact ih (m - 1) (by omega) (qm_up (qm_up (qm_up (qm_up I 121 (ct.toInt.toNat) 3) 122 (ct.toInt.toNat) pos) 123 (ct.toInt.toNat) v146) 118 10 v150) (qm_up J 124 (ct.toInt.toNat) 0) v150 v151 (hb_up (o := 118) (k := 10) (x := v150) (hb_up (o := 123) (k := ct.toInt.toNat) (x := v146) (hb_up (o := 122) (k := ct.toInt.toNat) (x := pos) (hb_up (o := 121) (k := ct.toInt.toNat) (x := 3) hBI ⟨(show (0 : Int) ≤ 3 from by decide), (show (3 : Int) ≤ 44 from by decide)⟩) (qa_in_full _)) (qa_in_full _)) ⟨by show (0 : Int) ≤ v150.toInt; omega, by show v150.toInt ≤ (401 : Int); omega⟩) (fun o ho i => ((hk_mod ho rfl).trans ((hk_mod ho rfl).trans ((hk_mod ho rfl).trans ((hk_mod ho rfl).trans ((e o (hk_ms rfl ho) i).trans rfl)))))) (fun i hi => ((hk_neq (fun z => by subst z; cases hi)).trans ((hk_ot rfl).trans ((hk_ot rfl).trans ((hk_ot rfl).trans ((e8 i (hk_ms rfl hi)).trans rfl)))))) (show (qm_up (qm_up (qm_up (qm_up I 121 (ct.toInt.toNat) 3) 122 (ct.toInt.toNat) pos) 123 (ct.toInt.toNat) v146) 118 10 v150) 118 10 = _ from (hk_same)) (by omega) (by omega) (by omega) (.int v17) (.int ln145) (.int v146) l5 l6 l7
                  · refine qm_Ru.go 2 (c' := (9, [.int v17], [.int 122, .int v17], (h.1, I, J, h.2.2.2))) rfl ?_
                    refine hk_cgt (ix := v17.toInt) (iy := 122) rfl rfl rfl (fun z152 => ?_) (fun z152 => ?_)
                    · refine qm_Ru.go 1 (c' := (17, [.int v17], [.int 0], (h.1, I, J, h.2.2.2))) rfl ?_
                      refine qm_Ru.rt (v := (some (.int 0))) (h' := (h.1, I, J, h.2.2.2)) rfl ?_
                      refine qm_Ru.go 2 (c' := (197, [.ref 118, .int pos, .int v17, l3, l4, l5, l6, l7], [.int v17], (h.1, I, J, h.2.2.2))) rfl ?_
                      refine qm_Ru.call (j := 253) (as := [.int v17]) (c' := (200, [.ref 118, .int pos, .int v17, l3, l4, l5, l6, l7], [], (h.1, I, J, h.2.2.2))) rfl rfl rfl ?_
                      refine qm_Ru.go 2 (c' := (3, [.int v17], [.int 48, .int v17], (h.1, I, J, h.2.2.2))) rfl ?_
                      refine hk_clt (ix := v17.toInt) (iy := 48) rfl rfl rfl (fun z153 => by exfalso; omega) (fun z153 => ?_)
                      refine qm_Ru.go 2 (c' := (9, [.int v17], [.int 57, .int v17], (h.1, I, J, h.2.2.2))) rfl ?_
                      refine hk_cgt (ix := v17.toInt) (iy := 57) rfl rfl rfl (fun z154 => ?_) (fun z154 => by exfalso; omega)
                      refine qm_Ru.go 1 (c' := (17, [.int v17], [.int 0], (h.1, I, J, h.2.2.2))) rfl ?_
                      refine qm_Ru.rt (v := (some (.int 0))) (h' := (h.1, I, J, h.2.2.2)) rfl ?_
                      refine qm_Ru.go 9 (c' := (283, [.ref 118, .int pos, .int v17, l3, l4, l5, l6, l7], [.int (pos + 1), .ref 118, .int v17, .int pos, .ref 118, .int pos], (h.1, I, J, h.2.2.2))) rfl ?_
                      obtain ⟨v155, q_v155, e_v155⟩ := hk_add (x := pos) (y := 1) (a := pos.toInt) (b := 1) rfl rfl (by omega) (by omega)
                      rw [q_v155]
                      refine hk_inv (o := 118) (r := [.int v17, .int pos, .ref 118, .int pos]) (as := [.ref 118, .int v155]) rfl rfl (hH.1 118 (17, 105) rfl) rfl rfl rfl rfl ?_
                      refine qm_Ru.go 2 (c' := (2, [.ref 118, .int v155], [.ref 118, .int v155], (h.1, I, J, h.2.2.2))) rfl ?_
                      refine hk_geti (v := n) rfl (hH.1 118 (17, 105) rfl) rfl (show (I) 118 4 = _ from ((e8 4 rfl).trans q_n)) ?_
                      refine qm_Ru.go 0 (c' := (5, [.ref 118, .int v155], [.int n, .int v155], (h.1, I, J, h.2.2.2))) rfl ?_
                      refine hk_cge (ix := v155.toInt) (iy := n.toInt) rfl rfl rfl (fun z156 => ?_) (fun z156 => ?_)
                      · refine qm_Ru.go 1 (c' := (22, [.ref 118, .int v155], [.int 0], (h.1, I, J, h.2.2.2))) rfl ?_
                        refine qm_Ru.rt (v := (some (.int 0))) (h' := (h.1, I, J, h.2.2.2)) rfl ?_
                        refine qm_Ru.go 0 (c' := (286, [.ref 118, .int pos, .int v17, l3, l4, l5, l6, l7], [.int 0, .int v17, .int pos, .ref 118, .int pos], (h.1, I, J, h.2.2.2))) rfl ?_
                        refine hk_inv (o := 118) (r := [.int pos]) (as := [.ref 118, .int pos, .int v17, .int 0]) rfl rfl (hH.1 118 (17, 105) rfl) rfl rfl rfl rfl ?_
                        refine qm_Ru.go 12 (c' := (64, [.ref 118, .int pos, .int v17, .int 0, .int 0, .int 3], [.int 59, .int v17], (h.1, I, J, h.2.2.2))) rfl ?_
                        refine hk_cne (ix := v17.toInt) (iy := 59) rfl rfl rfl (fun z157 => ?_) (fun z157 => by exfalso; omega)
                        refine qm_Ru.go 2 (c' := (76, [.ref 118, .int pos, .int v17, .int 0, .int 0, .int 3], [.int 40, .int v17], (h.1, I, J, h.2.2.2))) rfl ?_
                        refine hk_cne (ix := v17.toInt) (iy := 40) rfl rfl rfl (fun z158 => ?_) (fun z158 => by exfalso; omega)
                        refine qm_Ru.go 2 (c' := (89, [.ref 118, .int pos, .int v17, .int 0, .int 0, .int 3], [.int 41, .int v17], (h.1, I, J, h.2.2.2))) rfl ?_
                        refine hk_cne (ix := v17.toInt) (iy := 41) rfl rfl rfl (fun z159 => ?_) (fun z159 => by exfalso; omega)
                        refine qm_Ru.go 2 (c' := (102, [.ref 118, .int pos, .int v17, .int 0, .int 0, .int 3], [.int 43, .int v17], (h.1, I, J, h.2.2.2))) rfl ?_
                        refine hk_cne (ix := v17.toInt) (iy := 43) rfl rfl rfl (fun z160 => ?_) (fun z160 => by exfalso; omega)
                        refine qm_Ru.go 2 (c' := (115, [.ref 118, .int pos, .int v17, .int 0, .int 0, .int 3], [.int 45, .int v17], (h.1, I, J, h.2.2.2))) rfl ?_
                        refine hk_cne (ix := v17.toInt) (iy := 45) rfl rfl rfl (fun z161 => ?_) (fun z161 => by exfalso; omega)
                        refine qm_Ru.go 2 (c' := (128, [.ref 118, .int pos, .int v17, .int 0, .int 0, .int 3], [.int 42, .int v17], (h.1, I, J, h.2.2.2))) rfl ?_
                        refine hk_cne (ix := v17.toInt) (iy := 42) rfl rfl rfl (fun z162 => ?_) (fun z162 => by exfalso; omega)
                        refine qm_Ru.go 2 (c' := (141, [.ref 118, .int pos, .int v17, .int 0, .int 0, .int 3], [.int 60, .int v17], (h.1, I, J, h.2.2.2))) rfl ?_
                        refine hk_cne (ix := v17.toInt) (iy := 60) rfl rfl rfl (fun z163 => ?_) (fun z163 => by exfalso; omega)
                        refine qm_Ru.go 5 (c' := (154, [.ref 118, .int pos, .int v17, .int 0, .int 0, .int 3], [.long 0, .int 0, .int pos, .int 3, .ref 118], (h.1, I, J, h.2.2.2))) rfl ?_
                        refine hk_inv (o := 118) (r := []) (as := [.ref 118, .int 3, .int pos, .int 0, .long 0]) rfl rfl (hH.1 118 (17, 105) rfl) rfl rfl rfl rfl ?_
                        refine qm_Ru.go 1 (c' := (1, [.ref 118, .int 3, .int pos, .int 0, .long 0, .float 0], [.ref 118], (h.1, I, J, h.2.2.2))) rfl ?_
                        refine hk_getr rfl (hH.1 118 (17, 105) rfl) rfl (hH.2 118 5 (some 121) rfl) ?_
                        refine qm_Ru.go 1 (c' := (5, [.ref 118, .int 3, .int pos, .int 0, .long 0, .float 0], [.ref 118, .ref 121], (h.1, I, J, h.2.2.2))) rfl ?_
                        refine hk_geti (v := ct) rfl (hH.1 118 (17, 105) rfl) rfl q_ct ?_
                        refine qm_Ru.go 1 (c' := (9, [.ref 118, .int 3, .int pos, .int 0, .long 0, .float 0], [.int 3, .int ct, .ref 121], (h.1, I, J, h.2.2.2))) rfl ?_
                        refine hk_ias rfl (hH.1 121 (0, 403) rfl) (by omega) (by omega) ?_
                        refine qm_Ru.go 1 (c' := (11, [.ref 118, .int 3, .int pos, .int 0, .long 0, .float 0], [.ref 118], (h.1, qm_up I 121 (ct.toInt.toNat) 3, J, h.2.2.2))) rfl ?_
                        refine hk_getr rfl (hH.1 118 (17, 105) rfl) rfl (hH.2 118 6 (some 122) rfl) ?_
                        refine qm_Ru.go 1 (c' := (15, [.ref 118, .int 3, .int pos, .int 0, .long 0, .float 0], [.ref 118, .ref 122], (h.1, qm_up I 121 (ct.toInt.toNat) 3, J, h.2.2.2))) rfl ?_
                        refine hk_geti (v := ct) rfl (hH.1 118 (17, 105) rfl) rfl (show (qm_up I 121 (ct.toInt.toNat) 3) 118 10 = _ from ((hk_ot rfl).trans q_ct)) ?_
                        refine qm_Ru.go 1 (c' := (19, [.ref 118, .int 3, .int pos, .int 0, .long 0, .float 0], [.int pos, .int ct, .ref 122], (h.1, qm_up I 121 (ct.toInt.toNat) 3, J, h.2.2.2))) rfl ?_
                        refine hk_ias rfl (hH.1 122 (0, 403) rfl) (by omega) (by omega) ?_
                        refine qm_Ru.go 1 (c' := (21, [.ref 118, .int 3, .int pos, .int 0, .long 0, .float 0], [.ref 118], (h.1, qm_up (qm_up I 121 (ct.toInt.toNat) 3) 122 (ct.toInt.toNat) pos, J, h.2.2.2))) rfl ?_
                        refine hk_getr rfl (hH.1 118 (17, 105) rfl) rfl (hH.2 118 7 (some 123) rfl) ?_
                        refine qm_Ru.go 1 (c' := (25, [.ref 118, .int 3, .int pos, .int 0, .long 0, .float 0], [.ref 118, .ref 123], (h.1, qm_up (qm_up I 121 (ct.toInt.toNat) 3) 122 (ct.toInt.toNat) pos, J, h.2.2.2))) rfl ?_
                        refine hk_geti (v := ct) rfl (hH.1 118 (17, 105) rfl) rfl (show (qm_up (qm_up I 121 (ct.toInt.toNat) 3) 122 (ct.toInt.toNat) pos) 118 10 = _ from ((hk_ot rfl).trans ((hk_ot rfl).trans q_ct))) ?_
                        refine qm_Ru.go 1 (c' := (29, [.ref 118, .int 3, .int pos, .int 0, .long 0, .float 0], [.int 0, .int ct, .ref 123], (h.1, qm_up (qm_up I 121 (ct.toInt.toNat) 3) 122 (ct.toInt.toNat) pos, J, h.2.2.2))) rfl ?_
                        refine hk_ias rfl (hH.1 123 (0, 403) rfl) (by omega) (by omega) ?_
                        refine qm_Ru.go 1 (c' := (31, [.ref 118, .int 3, .int pos, .int 0, .long 0, .float 0], [.ref 118], (h.1, qm_up (qm_up (qm_up I 121 (ct.toInt.toNat) 3) 122 (ct.toInt.toNat) pos) 123 (ct.toInt.toNat) 0, J, h.2.2.2))) rfl ?_
                        refine hk_getr rfl (hH.1 118 (17, 105) rfl) rfl (hH.2 118 8 (some 124) rfl) ?_
                        refine qm_Ru.go 1 (c' := (35, [.ref 118, .int 3, .int pos, .int 0, .long 0, .float 0], [.ref 118, .ref 124], (h.1, qm_up (qm_up (qm_up I 121 (ct.toInt.toNat) 3) 122 (ct.toInt.toNat) pos) 123 (ct.toInt.toNat) 0, J, h.2.2.2))) rfl ?_
                        refine hk_geti (v := ct) rfl (hH.1 118 (17, 105) rfl) rfl (show (qm_up (qm_up (qm_up I 121 (ct.toInt.toNat) 3) 122 (ct.toInt.toNat) pos) 123 (ct.toInt.toNat) 0) 118 10 = _ from ((hk_ot rfl).trans ((hk_ot rfl).trans ((hk_ot rfl).trans q_ct)))) ?_
                        refine qm_Ru.go 1 (c' := (40, [.ref 118, .int 3, .int pos, .int 0, .long 0, .float 0], [.long 0, .int ct, .ref 124], (h.1, qm_up (qm_up (qm_up I 121 (ct.toInt.toNat) 3) 122 (ct.toInt.toNat) pos) 123 (ct.toInt.toNat) 0, J, h.2.2.2))) rfl ?_
                        refine hk_las rfl (hH.1 124 (3, 403) rfl) (by omega) (by omega) ?_
                        refine qm_Ru.go 2 (c' := (43, [.ref 118, .int 3, .int pos, .int 0, .long 0, .float 0], [.ref 118, .ref 118], (h.1, qm_up (qm_up (qm_up I 121 (ct.toInt.toNat) 3) 122 (ct.toInt.toNat) pos) 123 (ct.toInt.toNat) 0, qm_up J 124 (ct.toInt.toNat) 0, h.2.2.2))) rfl ?_
                        refine hk_geti (v := ct) rfl (hH.1 118 (17, 105) rfl) rfl (show (qm_up (qm_up (qm_up I 121 (ct.toInt.toNat) 3) 122 (ct.toInt.toNat) pos) 123 (ct.toInt.toNat) 0) 118 10 = _ from ((hk_ot rfl).trans ((hk_ot rfl).trans ((hk_ot rfl).trans q_ct)))) ?_
                        refine qm_Ru.go 2 (c' := (48, [.ref 118, .int 3, .int pos, .int 0, .long 0, .float 0], [.int (ct + 1), .ref 118], (h.1, qm_up (qm_up (qm_up I 121 (ct.toInt.toNat) 3) 122 (ct.toInt.toNat) pos) 123 (ct.toInt.toNat) 0, qm_up J 124 (ct.toInt.toNat) 0, h.2.2.2))) rfl ?_
                        obtain ⟨v164, q_v164, e_v164⟩ := hk_add (x := ct) (y := 1) (a := ct.toInt) (b := 1) rfl rfl (by omega) (by omega)
                        rw [q_v164]
                        refine hk_puti rfl (hH.1 118 (17, 105) rfl) rfl ?_
                        refine qm_Ru.go 0 (c' := (51, [.ref 118, .int 3, .int pos, .int 0, .long 0, .float 0], [], (h.1, qm_up (qm_up (qm_up (qm_up I 121 (ct.toInt.toNat) 3) 122 (ct.toInt.toNat) pos) 123 (ct.toInt.toNat) 0) 118 10 v164, qm_up J 124 (ct.toInt.toNat) 0, h.2.2.2))) rfl ?_
                        refine qm_Ru.rt (v := none) (h' := (h.1, qm_up (qm_up (qm_up (qm_up I 121 (ct.toInt.toNat) 3) 122 (ct.toInt.toNat) pos) 123 (ct.toInt.toNat) 0) 118 10 v164, qm_up J 124 (ct.toInt.toNat) 0, h.2.2.2)) rfl ?_
                        refine qm_Ru.go 3 (c' := (167, [.ref 118, .int pos, .int v17, .int 0, .int 0, .int 3], [.int 1], (h.1, qm_up (qm_up (qm_up (qm_up I 121 (ct.toInt.toNat) 3) 122 (ct.toInt.toNat) pos) 123 (ct.toInt.toNat) 0) 118 10 v164, qm_up J 124 (ct.toInt.toNat) 0, h.2.2.2))) rfl ?_
                        refine qm_Ru.rt (v := (some (.int 1))) (h' := (h.1, qm_up (qm_up (qm_up (qm_up I 121 (ct.toInt.toNat) 3) 122 (ct.toInt.toNat) pos) 123 (ct.toInt.toNat) 0) 118 10 v164, qm_up J 124 (ct.toInt.toNat) 0, h.2.2.2)) rfl ?_
                        refine qm_Ru.go 1 (c' := (290, [.ref 118, .int pos, .int v17, l3, l4, l5, l6, l7], [.int (pos + 1)], (h.1, qm_up (qm_up (qm_up (qm_up I 121 (ct.toInt.toNat) 3) 122 (ct.toInt.toNat) pos) 123 (ct.toInt.toNat) 0) 118 10 v164, qm_up J 124 (ct.toInt.toNat) 0, h.2.2.2))) rfl ?_
                        rw [q_v155]
                        refine qm_Ru.go 2 (c' := (7, [.ref 118, .int v155, .int v17, l3, l4, l5, l6, l7], [], (h.1, qm_up (qm_up (qm_up (qm_up I 121 (ct.toInt.toNat) 3) 122 (ct.toInt.toNat) pos) 123 (ct.toInt.toNat) 0) 118 10 v164, qm_up J 124 (ct.toInt.toNat) 0, h.2.2.2))) rfl ?_
                        exact ih (m - 1) (by omega) (qm_up (qm_up (qm_up (qm_up I 121 (ct.toInt.toNat) 3) 122 (ct.toInt.toNat) pos) 123 (ct.toInt.toNat) 0) 118 10 v164) (qm_up J 124 (ct.toInt.toNat) 0) v164 v155 (hb_up (o := 118) (k := 10) (x := v164) (hb_up (o := 123) (k := ct.toInt.toNat) (x := 0) (hb_up (o := 122) (k := ct.toInt.toNat) (x := pos) (hb_up (o := 121) (k := ct.toInt.toNat) (x := 3) hBI ⟨(show (0 : Int) ≤ 3 from by decide), (show (3 : Int) ≤ 44 from by decide)⟩) (qa_in_full _)) (qa_in_full _)) ⟨by show (0 : Int) ≤ v164.toInt; omega, by show v164.toInt ≤ (401 : Int); omega⟩) (fun o ho i => ((hk_mod ho rfl).trans ((hk_mod ho rfl).trans ((hk_mod ho rfl).trans ((hk_mod ho rfl).trans ((e o (hk_ms rfl ho) i).trans rfl)))))) (fun i hi => ((hk_neq (fun z => by subst z; cases hi)).trans ((hk_ot rfl).trans ((hk_ot rfl).trans ((hk_ot rfl).trans ((e8 i (hk_ms rfl hi)).trans rfl)))))) (show (qm_up (qm_up (qm_up (qm_up I 121 (ct.toInt.toNat) 3) 122 (ct.toInt.toNat) pos) 123 (ct.toInt.toNat) 0) 118 10 v164) 118 10 = _ from (hk_same)) (by omega) (by omega) (by omega) (.int v17) l3 l4 l5 l6 l7
                      · refine qm_Ru.go 1 (c' := (9, [.ref 118, .int v155], [.ref 118], (h.1, I, J, h.2.2.2))) rfl ?_
                        refine hk_getr rfl (hH.1 118 (17, 105) rfl) rfl (hH.2 118 3 (some 120) rfl) ?_
                        refine qm_Ru.go 1 (c' := (13, [.ref 118, .int v155], [.int v155, .ref 120], (h.1, I, J, h.2.2.2))) rfl ?_
                        obtain ⟨v166, q_v166⟩ : ∃ v, h.2.1 120 (v155.toInt.toNat) = v := ⟨_, rfl⟩
                        have b_v166 : (-128 : Int) ≤ v166.toInt ∧ v166.toInt ≤ 127 := by rw [← q_v166]; exact hB 120 (v155.toInt.toNat)
                        refine hk_bal (v := v166) rfl (hH.1 120 (1, 2000) rfl) (by decide) (by omega) (by omega) (show (I) 120 (v155.toInt.toNat) = _ from ((e 120 rfl (v155.toInt.toNat)).trans q_v166)) ?_
                        refine qm_Ru.go 2 (c' := (18, [.ref 118, .int v155], [.int (v166 &&& 255)], (h.1, I, J, h.2.2.2))) rfl ?_
                        obtain ⟨v167, q_v167⟩ : ∃ v, (v166 &&& 255) = v := ⟨_, rfl⟩
                        rw [q_v167]
                        refine qm_Ru.go 1 (c' := (22, [.ref 118, .int v155], [.int v167], (h.1, I, J, h.2.2.2))) rfl ?_
                        refine qm_Ru.rt (v := (some (.int v167))) (h' := (h.1, I, J, h.2.2.2)) rfl ?_
                        refine qm_Ru.go 0 (c' := (286, [.ref 118, .int pos, .int v17, l3, l4, l5, l6, l7], [.int v167, .int v17, .int pos, .ref 118, .int pos], (h.1, I, J, h.2.2.2))) rfl ?_
                        refine hk_inv (o := 118) (r := [.int pos]) (as := [.ref 118, .int pos, .int v17, .int v167]) rfl rfl (hH.1 118 (17, 105) rfl) rfl rfl rfl rfl ?_
                        refine qm_Ru.go 2 (c' := (3, [.ref 118, .int pos, .int v17, .int v167, .float 0, .float 0], [.int 61, .int v167], (h.1, I, J, h.2.2.2))) rfl ?_
                        refine hk_ceq (ix := v167.toInt) (iy := 61) rfl rfl rfl (fun z168 => ?_) (fun z168 => ?_)
                        · refine qm_Ru.go 2 (c' := (13, [.ref 118, .int pos, .int v17, .int v167, .float 0, .float 0], [.int 61, .int v17], (h.1, I, J, h.2.2.2))) rfl ?_
                          refine hk_cne (ix := v17.toInt) (iy := 61) rfl rfl rfl (fun z169 => ?_) (fun z169 => by exfalso; omega)
                          refine qm_Ru.go 2 (c' := (24, [.ref 118, .int pos, .int v17, .int v167, .float 0, .float 0], [.int 33, .int v17], (h.1, I, J, h.2.2.2))) rfl ?_
                          refine hk_cne (ix := v17.toInt) (iy := 33) rfl rfl rfl (fun z170 => ?_) (fun z170 => by exfalso; omega)
                          refine qm_Ru.go 2 (c' := (35, [.ref 118, .int pos, .int v17, .int v167, .float 0, .float 0], [.int 60, .int v17], (h.1, I, J, h.2.2.2))) rfl ?_
                          refine hk_cne (ix := v17.toInt) (iy := 60) rfl rfl rfl (fun z171 => ?_) (fun z171 => by exfalso; omega)
                          refine qm_Ru.go 8 (c' := (64, [.ref 118, .int pos, .int v17, .int v167, .int 0, .int 3], [.int 59, .int v17], (h.1, I, J, h.2.2.2))) rfl ?_
                          refine hk_cne (ix := v17.toInt) (iy := 59) rfl rfl rfl (fun z172 => ?_) (fun z172 => by exfalso; omega)
                          refine qm_Ru.go 2 (c' := (76, [.ref 118, .int pos, .int v17, .int v167, .int 0, .int 3], [.int 40, .int v17], (h.1, I, J, h.2.2.2))) rfl ?_
                          refine hk_cne (ix := v17.toInt) (iy := 40) rfl rfl rfl (fun z173 => ?_) (fun z173 => by exfalso; omega)
                          refine qm_Ru.go 2 (c' := (89, [.ref 118, .int pos, .int v17, .int v167, .int 0, .int 3], [.int 41, .int v17], (h.1, I, J, h.2.2.2))) rfl ?_
                          refine hk_cne (ix := v17.toInt) (iy := 41) rfl rfl rfl (fun z174 => ?_) (fun z174 => by exfalso; omega)
                          refine qm_Ru.go 2 (c' := (102, [.ref 118, .int pos, .int v17, .int v167, .int 0, .int 3], [.int 43, .int v17], (h.1, I, J, h.2.2.2))) rfl ?_
                          refine hk_cne (ix := v17.toInt) (iy := 43) rfl rfl rfl (fun z175 => ?_) (fun z175 => by exfalso; omega)
                          refine qm_Ru.go 2 (c' := (115, [.ref 118, .int pos, .int v17, .int v167, .int 0, .int 3], [.int 45, .int v17], (h.1, I, J, h.2.2.2))) rfl ?_
                          refine hk_cne (ix := v17.toInt) (iy := 45) rfl rfl rfl (fun z176 => ?_) (fun z176 => by exfalso; omega)
                          refine qm_Ru.go 2 (c' := (128, [.ref 118, .int pos, .int v17, .int v167, .int 0, .int 3], [.int 42, .int v17], (h.1, I, J, h.2.2.2))) rfl ?_
                          refine hk_cne (ix := v17.toInt) (iy := 42) rfl rfl rfl (fun z177 => ?_) (fun z177 => by exfalso; omega)
                          refine qm_Ru.go 2 (c' := (141, [.ref 118, .int pos, .int v17, .int v167, .int 0, .int 3], [.int 60, .int v17], (h.1, I, J, h.2.2.2))) rfl ?_
                          refine hk_cne (ix := v17.toInt) (iy := 60) rfl rfl rfl (fun z178 => ?_) (fun z178 => by exfalso; omega)
                          refine qm_Ru.go 5 (c' := (154, [.ref 118, .int pos, .int v17, .int v167, .int 0, .int 3], [.long 0, .int 0, .int pos, .int 3, .ref 118], (h.1, I, J, h.2.2.2))) rfl ?_
                          refine hk_inv (o := 118) (r := []) (as := [.ref 118, .int 3, .int pos, .int 0, .long 0]) rfl rfl (hH.1 118 (17, 105) rfl) rfl rfl rfl rfl ?_
                          refine qm_Ru.go 1 (c' := (1, [.ref 118, .int 3, .int pos, .int 0, .long 0, .float 0], [.ref 118], (h.1, I, J, h.2.2.2))) rfl ?_
                          refine hk_getr rfl (hH.1 118 (17, 105) rfl) rfl (hH.2 118 5 (some 121) rfl) ?_
                          refine qm_Ru.go 1 (c' := (5, [.ref 118, .int 3, .int pos, .int 0, .long 0, .float 0], [.ref 118, .ref 121], (h.1, I, J, h.2.2.2))) rfl ?_
                          refine hk_geti (v := ct) rfl (hH.1 118 (17, 105) rfl) rfl q_ct ?_
                          refine qm_Ru.go 1 (c' := (9, [.ref 118, .int 3, .int pos, .int 0, .long 0, .float 0], [.int 3, .int ct, .ref 121], (h.1, I, J, h.2.2.2))) rfl ?_
                          refine hk_ias rfl (hH.1 121 (0, 403) rfl) (by omega) (by omega) ?_
                          refine qm_Ru.go 1 (c' := (11, [.ref 118, .int 3, .int pos, .int 0, .long 0, .float 0], [.ref 118], (h.1, qm_up I 121 (ct.toInt.toNat) 3, J, h.2.2.2))) rfl ?_
                          refine hk_getr rfl (hH.1 118 (17, 105) rfl) rfl (hH.2 118 6 (some 122) rfl) ?_
                          refine qm_Ru.go 1 (c' := (15, [.ref 118, .int 3, .int pos, .int 0, .long 0, .float 0], [.ref 118, .ref 122], (h.1, qm_up I 121 (ct.toInt.toNat) 3, J, h.2.2.2))) rfl ?_
                          refine hk_geti (v := ct) rfl (hH.1 118 (17, 105) rfl) rfl (show (qm_up I 121 (ct.toInt.toNat) 3) 118 10 = _ from ((hk_ot rfl).trans q_ct)) ?_
                          refine qm_Ru.go 1 (c' := (19, [.ref 118, .int 3, .int pos, .int 0, .long 0, .float 0], [.int pos, .int ct, .ref 122], (h.1, qm_up I 121 (ct.toInt.toNat) 3, J, h.2.2.2))) rfl ?_
                          refine hk_ias rfl (hH.1 122 (0, 403) rfl) (by omega) (by omega) ?_
                          refine qm_Ru.go 1 (c' := (21, [.ref 118, .int 3, .int pos, .int 0, .long 0, .float 0], [.ref 118], (h.1, qm_up (qm_up I 121 (ct.toInt.toNat) 3) 122 (ct.toInt.toNat) pos, J, h.2.2.2))) rfl ?_
                          refine hk_getr rfl (hH.1 118 (17, 105) rfl) rfl (hH.2 118 7 (some 123) rfl) ?_
                          refine qm_Ru.go 1 (c' := (25, [.ref 118, .int 3, .int pos, .int 0, .long 0, .float 0], [.ref 118, .ref 123], (h.1, qm_up (qm_up I 121 (ct.toInt.toNat) 3) 122 (ct.toInt.toNat) pos, J, h.2.2.2))) rfl ?_
                          refine hk_geti (v := ct) rfl (hH.1 118 (17, 105) rfl) rfl (show (qm_up (qm_up I 121 (ct.toInt.toNat) 3) 122 (ct.toInt.toNat) pos) 118 10 = _ from ((hk_ot rfl).trans ((hk_ot rfl).trans q_ct))) ?_
                          refine qm_Ru.go 1 (c' := (29, [.ref 118, .int 3, .int pos, .int 0, .long 0, .float 0], [.int 0, .int ct, .ref 123], (h.1, qm_up (qm_up I 121 (ct.toInt.toNat) 3) 122 (ct.toInt.toNat) pos, J, h.2.2.2))) rfl ?_
                          refine hk_ias rfl (hH.1 123 (0, 403) rfl) (by omega) (by omega) ?_
                          refine qm_Ru.go 1 (c' := (31, [.ref 118, .int 3, .int pos, .int 0, .long 0, .float 0], [.ref 118], (h.1, qm_up (qm_up (qm_up I 121 (ct.toInt.toNat) 3) 122 (ct.toInt.toNat) pos) 123 (ct.toInt.toNat) 0, J, h.2.2.2))) rfl ?_
                          refine hk_getr rfl (hH.1 118 (17, 105) rfl) rfl (hH.2 118 8 (some 124) rfl) ?_
                          refine qm_Ru.go 1 (c' := (35, [.ref 118, .int 3, .int pos, .int 0, .long 0, .float 0], [.ref 118, .ref 124], (h.1, qm_up (qm_up (qm_up I 121 (ct.toInt.toNat) 3) 122 (ct.toInt.toNat) pos) 123 (ct.toInt.toNat) 0, J, h.2.2.2))) rfl ?_
                          refine hk_geti (v := ct) rfl (hH.1 118 (17, 105) rfl) rfl (show (qm_up (qm_up (qm_up I 121 (ct.toInt.toNat) 3) 122 (ct.toInt.toNat) pos) 123 (ct.toInt.toNat) 0) 118 10 = _ from ((hk_ot rfl).trans ((hk_ot rfl).trans ((hk_ot rfl).trans q_ct)))) ?_
                          refine qm_Ru.go 1 (c' := (40, [.ref 118, .int 3, .int pos, .int 0, .long 0, .float 0], [.long 0, .int ct, .ref 124], (h.1, qm_up (qm_up (qm_up I 121 (ct.toInt.toNat) 3) 122 (ct.toInt.toNat) pos) 123 (ct.toInt.toNat) 0, J, h.2.2.2))) rfl ?_
                          refine hk_las rfl (hH.1 124 (3, 403) rfl) (by omega) (by omega) ?_
                          refine qm_Ru.go 2 (c' := (43, [.ref 118, .int 3, .int pos, .int 0, .long 0, .float 0], [.ref 118, .ref 118], (h.1, qm_up (qm_up (qm_up I 121 (ct.toInt.toNat) 3) 122 (ct.toInt.toNat) pos) 123 (ct.toInt.toNat) 0, qm_up J 124 (ct.toInt.toNat) 0, h.2.2.2))) rfl ?_
                          refine hk_geti (v := ct) rfl (hH.1 118 (17, 105) rfl) rfl (show (qm_up (qm_up (qm_up I 121 (ct.toInt.toNat) 3) 122 (ct.toInt.toNat) pos) 123 (ct.toInt.toNat) 0) 118 10 = _ from ((hk_ot rfl).trans ((hk_ot rfl).trans ((hk_ot rfl).trans q_ct)))) ?_
                          refine qm_Ru.go 2 (c' := (48, [.ref 118, .int 3, .int pos, .int 0, .long 0, .float 0], [.int (ct + 1), .ref 118], (h.1, qm_up (qm_up (qm_up I 121 (ct.toInt.toNat) 3) 122 (ct.toInt.toNat) pos) 123 (ct.toInt.toNat) 0, qm_up J 124 (ct.toInt.toNat) 0, h.2.2.2))) rfl ?_
                          obtain ⟨v179, q_v179, e_v179⟩ := hk_add (x := ct) (y := 1) (a := ct.toInt) (b := 1) rfl rfl (by omega) (by omega)
                          rw [q_v179]
                          refine hk_puti rfl (hH.1 118 (17, 105) rfl) rfl ?_
                          refine qm_Ru.go 0 (c' := (51, [.ref 118, .int 3, .int pos, .int 0, .long 0, .float 0], [], (h.1, qm_up (qm_up (qm_up (qm_up I 121 (ct.toInt.toNat) 3) 122 (ct.toInt.toNat) pos) 123 (ct.toInt.toNat) 0) 118 10 v179, qm_up J 124 (ct.toInt.toNat) 0, h.2.2.2))) rfl ?_
                          refine qm_Ru.rt (v := none) (h' := (h.1, qm_up (qm_up (qm_up (qm_up I 121 (ct.toInt.toNat) 3) 122 (ct.toInt.toNat) pos) 123 (ct.toInt.toNat) 0) 118 10 v179, qm_up J 124 (ct.toInt.toNat) 0, h.2.2.2)) rfl ?_
                          refine qm_Ru.go 3 (c' := (167, [.ref 118, .int pos, .int v17, .int v167, .int 0, .int 3], [.int 1], (h.1, qm_up (qm_up (qm_up (qm_up I 121 (ct.toInt.toNat) 3) 122 (ct.toInt.toNat) pos) 123 (ct.toInt.toNat) 0) 118 10 v179, qm_up J 124 (ct.toInt.toNat) 0, h.2.2.2))) rfl ?_
                          refine qm_Ru.rt (v := (some (.int 1))) (h' := (h.1, qm_up (qm_up (qm_up (qm_up I 121 (ct.toInt.toNat) 3) 122 (ct.toInt.toNat) pos) 123 (ct.toInt.toNat) 0) 118 10 v179, qm_up J 124 (ct.toInt.toNat) 0, h.2.2.2)) rfl ?_
                          refine qm_Ru.go 1 (c' := (290, [.ref 118, .int pos, .int v17, l3, l4, l5, l6, l7], [.int (pos + 1)], (h.1, qm_up (qm_up (qm_up (qm_up I 121 (ct.toInt.toNat) 3) 122 (ct.toInt.toNat) pos) 123 (ct.toInt.toNat) 0) 118 10 v179, qm_up J 124 (ct.toInt.toNat) 0, h.2.2.2))) rfl ?_
                          rw [q_v155]
                          refine qm_Ru.go 2 (c' := (7, [.ref 118, .int v155, .int v17, l3, l4, l5, l6, l7], [], (h.1, qm_up (qm_up (qm_up (qm_up I 121 (ct.toInt.toNat) 3) 122 (ct.toInt.toNat) pos) 123 (ct.toInt.toNat) 0) 118 10 v179, qm_up J 124 (ct.toInt.toNat) 0, h.2.2.2))) rfl ?_
                          exact ih (m - 1) (by omega) (qm_up (qm_up (qm_up (qm_up I 121 (ct.toInt.toNat) 3) 122 (ct.toInt.toNat) pos) 123 (ct.toInt.toNat) 0) 118 10 v179) (qm_up J 124 (ct.toInt.toNat) 0) v179 v155 (hb_up (o := 118) (k := 10) (x := v179) (hb_up (o := 123) (k := ct.toInt.toNat) (x := 0) (hb_up (o := 122) (k := ct.toInt.toNat) (x := pos) (hb_up (o := 121) (k := ct.toInt.toNat) (x := 3) hBI ⟨(show (0 : Int) ≤ 3 from by decide), (show (3 : Int) ≤ 44 from by decide)⟩) (qa_in_full _)) (qa_in_full _)) ⟨by show (0 : Int) ≤ v179.toInt; omega, by show v179.toInt ≤ (401 : Int); omega⟩) (fun o ho i => ((hk_mod ho rfl).trans ((hk_mod ho rfl).trans ((hk_mod ho rfl).trans ((hk_mod ho rfl).trans ((e o (hk_ms rfl ho) i).trans rfl)))))) (fun i hi => ((hk_neq (fun z => by subst z; cases hi)).trans ((hk_ot rfl).trans ((hk_ot rfl).trans ((hk_ot rfl).trans ((e8 i (hk_ms rfl hi)).trans rfl)))))) (show (qm_up (qm_up (qm_up (qm_up I 121 (ct.toInt.toNat) 3) 122 (ct.toInt.toNat) pos) 123 (ct.toInt.toNat) 0) 118 10 v179) 118 10 = _ from (hk_same)) (by omega) (by omega) (by omega) (.int v17) l3 l4 l5 l6 l7
                        · refine qm_Ru.go 9 (c' := (64, [.ref 118, .int pos, .int v17, .int v167, .int 0, .int 3], [.int 59, .int v17], (h.1, I, J, h.2.2.2))) rfl ?_
                          refine hk_cne (ix := v17.toInt) (iy := 59) rfl rfl rfl (fun z181 => ?_) (fun z181 => by exfalso; omega)
                          refine qm_Ru.go 2 (c' := (76, [.ref 118, .int pos, .int v17, .int v167, .int 0, .int 3], [.int 40, .int v17], (h.1, I, J, h.2.2.2))) rfl ?_
                          refine hk_cne (ix := v17.toInt) (iy := 40) rfl rfl rfl (fun z182 => ?_) (fun z182 => by exfalso; omega)
                          refine qm_Ru.go 2 (c' := (89, [.ref 118, .int pos, .int v17, .int v167, .int 0, .int 3], [.int 41, .int v17], (h.1, I, J, h.2.2.2))) rfl ?_
                          refine hk_cne (ix := v17.toInt) (iy := 41) rfl rfl rfl (fun z183 => ?_) (fun z183 => by exfalso; omega)
                          refine qm_Ru.go 2 (c' := (102, [.ref 118, .int pos, .int v17, .int v167, .int 0, .int 3], [.int 43, .int v17], (h.1, I, J, h.2.2.2))) rfl ?_
                          refine hk_cne (ix := v17.toInt) (iy := 43) rfl rfl rfl (fun z184 => ?_) (fun z184 => by exfalso; omega)
                          refine qm_Ru.go 2 (c' := (115, [.ref 118, .int pos, .int v17, .int v167, .int 0, .int 3], [.int 45, .int v17], (h.1, I, J, h.2.2.2))) rfl ?_
                          refine hk_cne (ix := v17.toInt) (iy := 45) rfl rfl rfl (fun z185 => ?_) (fun z185 => by exfalso; omega)
                          refine qm_Ru.go 2 (c' := (128, [.ref 118, .int pos, .int v17, .int v167, .int 0, .int 3], [.int 42, .int v17], (h.1, I, J, h.2.2.2))) rfl ?_
                          refine hk_cne (ix := v17.toInt) (iy := 42) rfl rfl rfl (fun z186 => ?_) (fun z186 => by exfalso; omega)
                          refine qm_Ru.go 2 (c' := (141, [.ref 118, .int pos, .int v17, .int v167, .int 0, .int 3], [.int 60, .int v17], (h.1, I, J, h.2.2.2))) rfl ?_
                          refine hk_cne (ix := v17.toInt) (iy := 60) rfl rfl rfl (fun z187 => ?_) (fun z187 => by exfalso; omega)
                          refine qm_Ru.go 5 (c' := (154, [.ref 118, .int pos, .int v17, .int v167, .int 0, .int 3], [.long 0, .int 0, .int pos, .int 3, .ref 118], (h.1, I, J, h.2.2.2))) rfl ?_
                          refine hk_inv (o := 118) (r := []) (as := [.ref 118, .int 3, .int pos, .int 0, .long 0]) rfl rfl (hH.1 118 (17, 105) rfl) rfl rfl rfl rfl ?_
                          refine qm_Ru.go 1 (c' := (1, [.ref 118, .int 3, .int pos, .int 0, .long 0, .float 0], [.ref 118], (h.1, I, J, h.2.2.2))) rfl ?_
                          refine hk_getr rfl (hH.1 118 (17, 105) rfl) rfl (hH.2 118 5 (some 121) rfl) ?_
                          refine qm_Ru.go 1 (c' := (5, [.ref 118, .int 3, .int pos, .int 0, .long 0, .float 0], [.ref 118, .ref 121], (h.1, I, J, h.2.2.2))) rfl ?_
                          refine hk_geti (v := ct) rfl (hH.1 118 (17, 105) rfl) rfl q_ct ?_
                          refine qm_Ru.go 1 (c' := (9, [.ref 118, .int 3, .int pos, .int 0, .long 0, .float 0], [.int 3, .int ct, .ref 121], (h.1, I, J, h.2.2.2))) rfl ?_
                          refine hk_ias rfl (hH.1 121 (0, 403) rfl) (by omega) (by omega) ?_
                          refine qm_Ru.go 1 (c' := (11, [.ref 118, .int 3, .int pos, .int 0, .long 0, .float 0], [.ref 118], (h.1, qm_up I 121 (ct.toInt.toNat) 3, J, h.2.2.2))) rfl ?_
                          refine hk_getr rfl (hH.1 118 (17, 105) rfl) rfl (hH.2 118 6 (some 122) rfl) ?_
                          refine qm_Ru.go 1 (c' := (15, [.ref 118, .int 3, .int pos, .int 0, .long 0, .float 0], [.ref 118, .ref 122], (h.1, qm_up I 121 (ct.toInt.toNat) 3, J, h.2.2.2))) rfl ?_
                          refine hk_geti (v := ct) rfl (hH.1 118 (17, 105) rfl) rfl (show (qm_up I 121 (ct.toInt.toNat) 3) 118 10 = _ from ((hk_ot rfl).trans q_ct)) ?_
                          refine qm_Ru.go 1 (c' := (19, [.ref 118, .int 3, .int pos, .int 0, .long 0, .float 0], [.int pos, .int ct, .ref 122], (h.1, qm_up I 121 (ct.toInt.toNat) 3, J, h.2.2.2))) rfl ?_
                          refine hk_ias rfl (hH.1 122 (0, 403) rfl) (by omega) (by omega) ?_
                          refine qm_Ru.go 1 (c' := (21, [.ref 118, .int 3, .int pos, .int 0, .long 0, .float 0], [.ref 118], (h.1, qm_up (qm_up I 121 (ct.toInt.toNat) 3) 122 (ct.toInt.toNat) pos, J, h.2.2.2))) rfl ?_
                          refine hk_getr rfl (hH.1 118 (17, 105) rfl) rfl (hH.2 118 7 (some 123) rfl) ?_
                          refine qm_Ru.go 1 (c' := (25, [.ref 118, .int 3, .int pos, .int 0, .long 0, .float 0], [.ref 118, .ref 123], (h.1, qm_up (qm_up I 121 (ct.toInt.toNat) 3) 122 (ct.toInt.toNat) pos, J, h.2.2.2))) rfl ?_
                          refine hk_geti (v := ct) rfl (hH.1 118 (17, 105) rfl) rfl (show (qm_up (qm_up I 121 (ct.toInt.toNat) 3) 122 (ct.toInt.toNat) pos) 118 10 = _ from ((hk_ot rfl).trans ((hk_ot rfl).trans q_ct))) ?_
                          refine qm_Ru.go 1 (c' := (29, [.ref 118, .int 3, .int pos, .int 0, .long 0, .float 0], [.int 0, .int ct, .ref 123], (h.1, qm_up (qm_up I 121 (ct.toInt.toNat) 3) 122 (ct.toInt.toNat) pos, J, h.2.2.2))) rfl ?_
                          refine hk_ias rfl (hH.1 123 (0, 403) rfl) (by omega) (by omega) ?_
                          refine qm_Ru.go 1 (c' := (31, [.ref 118, .int 3, .int pos, .int 0, .long 0, .float 0], [.ref 118], (h.1, qm_up (qm_up (qm_up I 121 (ct.toInt.toNat) 3) 122 (ct.toInt.toNat) pos) 123 (ct.toInt.toNat) 0, J, h.2.2.2))) rfl ?_
                          refine hk_getr rfl (hH.1 118 (17, 105) rfl) rfl (hH.2 118 8 (some 124) rfl) ?_
                          refine qm_Ru.go 1 (c' := (35, [.ref 118, .int 3, .int pos, .int 0, .long 0, .float 0], [.ref 118, .ref 124], (h.1, qm_up (qm_up (qm_up I 121 (ct.toInt.toNat) 3) 122 (ct.toInt.toNat) pos) 123 (ct.toInt.toNat) 0, J, h.2.2.2))) rfl ?_
                          refine hk_geti (v := ct) rfl (hH.1 118 (17, 105) rfl) rfl (show (qm_up (qm_up (qm_up I 121 (ct.toInt.toNat) 3) 122 (ct.toInt.toNat) pos) 123 (ct.toInt.toNat) 0) 118 10 = _ from ((hk_ot rfl).trans ((hk_ot rfl).trans ((hk_ot rfl).trans q_ct)))) ?_
                          refine qm_Ru.go 1 (c' := (40, [.ref 118, .int 3, .int pos, .int 0, .long 0, .float 0], [.long 0, .int ct, .ref 124], (h.1, qm_up (qm_up (qm_up I 121 (ct.toInt.toNat) 3) 122 (ct.toInt.toNat) pos) 123 (ct.toInt.toNat) 0, J, h.2.2.2))) rfl ?_
                          refine hk_las rfl (hH.1 124 (3, 403) rfl) (by omega) (by omega) ?_
                          refine qm_Ru.go 2 (c' := (43, [.ref 118, .int 3, .int pos, .int 0, .long 0, .float 0], [.ref 118, .ref 118], (h.1, qm_up (qm_up (qm_up I 121 (ct.toInt.toNat) 3) 122 (ct.toInt.toNat) pos) 123 (ct.toInt.toNat) 0, qm_up J 124 (ct.toInt.toNat) 0, h.2.2.2))) rfl ?_
                          refine hk_geti (v := ct) rfl (hH.1 118 (17, 105) rfl) rfl (show (qm_up (qm_up (qm_up I 121 (ct.toInt.toNat) 3) 122 (ct.toInt.toNat) pos) 123 (ct.toInt.toNat) 0) 118 10 = _ from ((hk_ot rfl).trans ((hk_ot rfl).trans ((hk_ot rfl).trans q_ct)))) ?_
                          refine qm_Ru.go 2 (c' := (48, [.ref 118, .int 3, .int pos, .int 0, .long 0, .float 0], [.int (ct + 1), .ref 118], (h.1, qm_up (qm_up (qm_up I 121 (ct.toInt.toNat) 3) 122 (ct.toInt.toNat) pos) 123 (ct.toInt.toNat) 0, qm_up J 124 (ct.toInt.toNat) 0, h.2.2.2))) rfl ?_
                          obtain ⟨v188, q_v188, e_v188⟩ := hk_add (x := ct) (y := 1) (a := ct.toInt) (b := 1) rfl rfl (by omega) (by omega)
                          rw [q_v188]
                          refine hk_puti rfl (hH.1 118 (17, 105) rfl) rfl ?_
                          refine qm_Ru.go 0 (c' := (51, [.ref 118, .int 3, .int pos, .int 0, .long 0, .float 0], [], (h.1, qm_up (qm_up (qm_up (qm_up I 121 (ct.toInt.toNat) 3) 122 (ct.toInt.toNat) pos) 123 (ct.toInt.toNat) 0) 118 10 v188, qm_up J 124 (ct.toInt.toNat) 0, h.2.2.2))) rfl ?_
                          refine qm_Ru.rt (v := none) (h' := (h.1, qm_up (qm_up (qm_up (qm_up I 121 (ct.toInt.toNat) 3) 122 (ct.toInt.toNat) pos) 123 (ct.toInt.toNat) 0) 118 10 v188, qm_up J 124 (ct.toInt.toNat) 0, h.2.2.2)) rfl ?_
                          refine qm_Ru.go 3 (c' := (167, [.ref 118, .int pos, .int v17, .int v167, .int 0, .int 3], [.int 1], (h.1, qm_up (qm_up (qm_up (qm_up I 121 (ct.toInt.toNat) 3) 122 (ct.toInt.toNat) pos) 123 (ct.toInt.toNat) 0) 118 10 v188, qm_up J 124 (ct.toInt.toNat) 0, h.2.2.2))) rfl ?_
                          refine qm_Ru.rt (v := (some (.int 1))) (h' := (h.1, qm_up (qm_up (qm_up (qm_up I 121 (ct.toInt.toNat) 3) 122 (ct.toInt.toNat) pos) 123 (ct.toInt.toNat) 0) 118 10 v188, qm_up J 124 (ct.toInt.toNat) 0, h.2.2.2)) rfl ?_
                          refine qm_Ru.go 1 (c' := (290, [.ref 118, .int pos, .int v17, l3, l4, l5, l6, l7], [.int (pos + 1)], (h.1, qm_up (qm_up (qm_up (qm_up I 121 (ct.toInt.toNat) 3) 122 (ct.toInt.toNat) pos) 123 (ct.toInt.toNat) 0) 118 10 v188, qm_up J 124 (ct.toInt.toNat) 0, h.2.2.2))) rfl ?_
                          rw [q_v155]
                          refine qm_Ru.go 2 (c' := (7, [.ref 118, .int v155, .int v17, l3, l4, l5, l6, l7], [], (h.1, qm_up (qm_up (qm_up (qm_up I 121 (ct.toInt.toNat) 3) 122 (ct.toInt.toNat) pos) 123 (ct.toInt.toNat) 0) 118 10 v188, qm_up J 124 (ct.toInt.toNat) 0, h.2.2.2))) rfl ?_
                          exact ih (m - 1) (by omega) (qm_up (qm_up (qm_up (qm_up I 121 (ct.toInt.toNat) 3) 122 (ct.toInt.toNat) pos) 123 (ct.toInt.toNat) 0) 118 10 v188) (qm_up J 124 (ct.toInt.toNat) 0) v188 v155 (hb_up (o := 118) (k := 10) (x := v188) (hb_up (o := 123) (k := ct.toInt.toNat) (x := 0) (hb_up (o := 122) (k := ct.toInt.toNat) (x := pos) (hb_up (o := 121) (k := ct.toInt.toNat) (x := 3) hBI ⟨(show (0 : Int) ≤ 3 from by decide), (show (3 : Int) ≤ 44 from by decide)⟩) (qa_in_full _)) (qa_in_full _)) ⟨by show (0 : Int) ≤ v188.toInt; omega, by show v188.toInt ≤ (401 : Int); omega⟩) (fun o ho i => ((hk_mod ho rfl).trans ((hk_mod ho rfl).trans ((hk_mod ho rfl).trans ((hk_mod ho rfl).trans ((e o (hk_ms rfl ho) i).trans rfl)))))) (fun i hi => ((hk_neq (fun z => by subst z; cases hi)).trans ((hk_ot rfl).trans ((hk_ot rfl).trans ((hk_ot rfl).trans ((e8 i (hk_ms rfl hi)).trans rfl)))))) (show (qm_up (qm_up (qm_up (qm_up I 121 (ct.toInt.toNat) 3) 122 (ct.toInt.toNat) pos) 123 (ct.toInt.toNat) 0) 118 10 v188) 118 10 = _ from (hk_same)) (by omega) (by omega) (by omega) (.int v17) l3 l4 l5 l6 l7
                    · refine qm_Ru.go 2 (c' := (17, [.int v17], [.int 1], (h.1, I, J, h.2.2.2))) rfl ?_
                      refine qm_Ru.rt (v := (some (.int 1))) (h' := (h.1, I, J, h.2.2.2)) rfl ?_
                      refine qm_Ru.go 5 (c' := (85, [.ref 118, .int pos, .int v17, .int 0, .long 0, .float 0, l6, l7], [], (h.1, I, J, h.2.2.2))) rfl ?_
                      refine hl_c85 (h := (h.1, I, J, h.2.2.2)) (d := d) hH hBI (n := n) (pos := pos) (show (I) 118 4 = n from ((e8 4 rfl).trans q_n)) hn (by omega) (fun ln190 g191 hl_ln190 => ?_) 2000 0 0 (by omega) (by omega)
                      refine qm_Ru.go 2 (c' := (127, [.ref 118, .int pos, .int v17, .int ln190, .long g191, .float 0, l6, l7], [.int 8, .int ln190], (h.1, I, J, h.2.2.2))) rfl ?_
                      refine hk_cle (ix := ln190.toInt) (iy := 8) rfl rfl rfl (fun z192 => ?_) (fun z192 => ?_)
                      · refine qm_Ru.go 4 (c' := (140, [.ref 118, .int pos, .int v17, .int ln190, .long g191, .float 0, .int 1, l7], [.int 7, .int ln190], (h.1, I, J, h.2.2.2))) rfl ?_
                        refine hk_cgt (ix := ln190.toInt) (iy := 7) rfl rfl rfl (fun z193 => ?_) (fun z193 => ?_)
                        · refine qm_Ru.go 5 (c' := (186, [.ref 118, .int pos, .int v17, .int ln190, .long g191, .float 0, .int 1, l7], [.long g191, .int 0, .int pos, .int 1, .ref 118], (h.1, I, J, h.2.2.2))) rfl ?_
                          refine hk_inv (o := 118) (r := []) (as := [.ref 118, .int 1, .int pos, .int 0, .long g191]) rfl rfl (hH.1 118 (17, 105) rfl) rfl rfl rfl rfl ?_
                          refine qm_Ru.go 1 (c' := (1, [.ref 118, .int 1, .int pos, .int 0, .long g191, .float 0], [.ref 118], (h.1, I, J, h.2.2.2))) rfl ?_
                          refine hk_getr rfl (hH.1 118 (17, 105) rfl) rfl (hH.2 118 5 (some 121) rfl) ?_
                          refine qm_Ru.go 1 (c' := (5, [.ref 118, .int 1, .int pos, .int 0, .long g191, .float 0], [.ref 118, .ref 121], (h.1, I, J, h.2.2.2))) rfl ?_
                          refine hk_geti (v := ct) rfl (hH.1 118 (17, 105) rfl) rfl q_ct ?_
                          refine qm_Ru.go 1 (c' := (9, [.ref 118, .int 1, .int pos, .int 0, .long g191, .float 0], [.int 1, .int ct, .ref 121], (h.1, I, J, h.2.2.2))) rfl ?_
                          refine hk_ias rfl (hH.1 121 (0, 403) rfl) (by omega) (by omega) ?_
                          refine qm_Ru.go 1 (c' := (11, [.ref 118, .int 1, .int pos, .int 0, .long g191, .float 0], [.ref 118], (h.1, qm_up I 121 (ct.toInt.toNat) 1, J, h.2.2.2))) rfl ?_
                          refine hk_getr rfl (hH.1 118 (17, 105) rfl) rfl (hH.2 118 6 (some 122) rfl) ?_
                          refine qm_Ru.go 1 (c' := (15, [.ref 118, .int 1, .int pos, .int 0, .long g191, .float 0], [.ref 118, .ref 122], (h.1, qm_up I 121 (ct.toInt.toNat) 1, J, h.2.2.2))) rfl ?_
                          refine hk_geti (v := ct) rfl (hH.1 118 (17, 105) rfl) rfl (show (qm_up I 121 (ct.toInt.toNat) 1) 118 10 = _ from ((hk_ot rfl).trans q_ct)) ?_
                          refine qm_Ru.go 1 (c' := (19, [.ref 118, .int 1, .int pos, .int 0, .long g191, .float 0], [.int pos, .int ct, .ref 122], (h.1, qm_up I 121 (ct.toInt.toNat) 1, J, h.2.2.2))) rfl ?_
                          refine hk_ias rfl (hH.1 122 (0, 403) rfl) (by omega) (by omega) ?_
                          refine qm_Ru.go 1 (c' := (21, [.ref 118, .int 1, .int pos, .int 0, .long g191, .float 0], [.ref 118], (h.1, qm_up (qm_up I 121 (ct.toInt.toNat) 1) 122 (ct.toInt.toNat) pos, J, h.2.2.2))) rfl ?_
                          refine hk_getr rfl (hH.1 118 (17, 105) rfl) rfl (hH.2 118 7 (some 123) rfl) ?_
                          refine qm_Ru.go 1 (c' := (25, [.ref 118, .int 1, .int pos, .int 0, .long g191, .float 0], [.ref 118, .ref 123], (h.1, qm_up (qm_up I 121 (ct.toInt.toNat) 1) 122 (ct.toInt.toNat) pos, J, h.2.2.2))) rfl ?_
                          refine hk_geti (v := ct) rfl (hH.1 118 (17, 105) rfl) rfl (show (qm_up (qm_up I 121 (ct.toInt.toNat) 1) 122 (ct.toInt.toNat) pos) 118 10 = _ from ((hk_ot rfl).trans ((hk_ot rfl).trans q_ct))) ?_
                          refine qm_Ru.go 1 (c' := (29, [.ref 118, .int 1, .int pos, .int 0, .long g191, .float 0], [.int 0, .int ct, .ref 123], (h.1, qm_up (qm_up I 121 (ct.toInt.toNat) 1) 122 (ct.toInt.toNat) pos, J, h.2.2.2))) rfl ?_
                          refine hk_ias rfl (hH.1 123 (0, 403) rfl) (by omega) (by omega) ?_
                          refine qm_Ru.go 1 (c' := (31, [.ref 118, .int 1, .int pos, .int 0, .long g191, .float 0], [.ref 118], (h.1, qm_up (qm_up (qm_up I 121 (ct.toInt.toNat) 1) 122 (ct.toInt.toNat) pos) 123 (ct.toInt.toNat) 0, J, h.2.2.2))) rfl ?_
                          refine hk_getr rfl (hH.1 118 (17, 105) rfl) rfl (hH.2 118 8 (some 124) rfl) ?_
                          refine qm_Ru.go 1 (c' := (35, [.ref 118, .int 1, .int pos, .int 0, .long g191, .float 0], [.ref 118, .ref 124], (h.1, qm_up (qm_up (qm_up I 121 (ct.toInt.toNat) 1) 122 (ct.toInt.toNat) pos) 123 (ct.toInt.toNat) 0, J, h.2.2.2))) rfl ?_
                          refine hk_geti (v := ct) rfl (hH.1 118 (17, 105) rfl) rfl (show (qm_up (qm_up (qm_up I 121 (ct.toInt.toNat) 1) 122 (ct.toInt.toNat) pos) 123 (ct.toInt.toNat) 0) 118 10 = _ from ((hk_ot rfl).trans ((hk_ot rfl).trans ((hk_ot rfl).trans q_ct)))) ?_
                          refine qm_Ru.go 1 (c' := (40, [.ref 118, .int 1, .int pos, .int 0, .long g191, .float 0], [.long g191, .int ct, .ref 124], (h.1, qm_up (qm_up (qm_up I 121 (ct.toInt.toNat) 1) 122 (ct.toInt.toNat) pos) 123 (ct.toInt.toNat) 0, J, h.2.2.2))) rfl ?_
                          refine hk_las rfl (hH.1 124 (3, 403) rfl) (by omega) (by omega) ?_
                          refine qm_Ru.go 2 (c' := (43, [.ref 118, .int 1, .int pos, .int 0, .long g191, .float 0], [.ref 118, .ref 118], (h.1, qm_up (qm_up (qm_up I 121 (ct.toInt.toNat) 1) 122 (ct.toInt.toNat) pos) 123 (ct.toInt.toNat) 0, qm_up J 124 (ct.toInt.toNat) g191, h.2.2.2))) rfl ?_
                          refine hk_geti (v := ct) rfl (hH.1 118 (17, 105) rfl) rfl (show (qm_up (qm_up (qm_up I 121 (ct.toInt.toNat) 1) 122 (ct.toInt.toNat) pos) 123 (ct.toInt.toNat) 0) 118 10 = _ from ((hk_ot rfl).trans ((hk_ot rfl).trans ((hk_ot rfl).trans q_ct)))) ?_
                          refine qm_Ru.go 2 (c' := (48, [.ref 118, .int 1, .int pos, .int 0, .long g191, .float 0], [.int (ct + 1), .ref 118], (h.1, qm_up (qm_up (qm_up I 121 (ct.toInt.toNat) 1) 122 (ct.toInt.toNat) pos) 123 (ct.toInt.toNat) 0, qm_up J 124 (ct.toInt.toNat) g191, h.2.2.2))) rfl ?_
                          obtain ⟨v194, q_v194, e_v194⟩ := hk_add (x := ct) (y := 1) (a := ct.toInt) (b := 1) rfl rfl (by omega) (by omega)
                          rw [q_v194]
                          refine hk_puti rfl (hH.1 118 (17, 105) rfl) rfl ?_
                          refine qm_Ru.go 0 (c' := (51, [.ref 118, .int 1, .int pos, .int 0, .long g191, .float 0], [], (h.1, qm_up (qm_up (qm_up (qm_up I 121 (ct.toInt.toNat) 1) 122 (ct.toInt.toNat) pos) 123 (ct.toInt.toNat) 0) 118 10 v194, qm_up J 124 (ct.toInt.toNat) g191, h.2.2.2))) rfl ?_
                          refine qm_Ru.rt (v := none) (h' := (h.1, qm_up (qm_up (qm_up (qm_up I 121 (ct.toInt.toNat) 1) 122 (ct.toInt.toNat) pos) 123 (ct.toInt.toNat) 0) 118 10 v194, qm_up J 124 (ct.toInt.toNat) g191, h.2.2.2)) rfl ?_
                          refine qm_Ru.go 3 (c' := (192, [.ref 118, .int pos, .int v17, .int ln190, .long g191, .float 0, .int 1, l7], [.int (pos + ln190)], (h.1, qm_up (qm_up (qm_up (qm_up I 121 (ct.toInt.toNat) 1) 122 (ct.toInt.toNat) pos) 123 (ct.toInt.toNat) 0) 118 10 v194, qm_up J 124 (ct.toInt.toNat) g191, h.2.2.2))) rfl ?_
                          obtain ⟨v195, q_v195, e_v195⟩ := hk_add (x := pos) (y := ln190) (a := pos.toInt) (b := ln190.toInt) rfl rfl (by omega) (by omega)
                          rw [q_v195]
                          refine qm_Ru.go 3 (c' := (7, [.ref 118, .int v195, .int v17, .int ln190, .long g191, .float 0, .int 1, l7], [], (h.1, qm_up (qm_up (qm_up (qm_up I 121 (ct.toInt.toNat) 1) 122 (ct.toInt.toNat) pos) 123 (ct.toInt.toNat) 0) 118 10 v194, qm_up J 124 (ct.toInt.toNat) g191, h.2.2.2))) rfl ?_
                          exact ih (m - 1) (by omega) (qm_up (qm_up (qm_up (qm_up I 121 (ct.toInt.toNat) 1) 122 (ct.toInt.toNat) pos) 123 (ct.toInt.toNat) 0) 118 10 v194) (qm_up J 124 (ct.toInt.toNat) g191) v194 v195 (hb_up (o := 118) (k := 10) (x := v194) (hb_up (o := 123) (k := ct.toInt.toNat) (x := 0) (hb_up (o := 122) (k := ct.toInt.toNat) (x := pos) (hb_up (o := 121) (k := ct.toInt.toNat) (x := 1) hBI ⟨(show (0 : Int) ≤ 1 from by decide), (show (1 : Int) ≤ 44 from by decide)⟩) (qa_in_full _)) (qa_in_full _)) ⟨by show (0 : Int) ≤ v194.toInt; omega, by show v194.toInt ≤ (401 : Int); omega⟩) (fun o ho i => ((hk_mod ho rfl).trans ((hk_mod ho rfl).trans ((hk_mod ho rfl).trans ((hk_mod ho rfl).trans ((e o (hk_ms rfl ho) i).trans rfl)))))) (fun i hi => ((hk_neq (fun z => by subst z; cases hi)).trans ((hk_ot rfl).trans ((hk_ot rfl).trans ((hk_ot rfl).trans ((e8 i (hk_ms rfl hi)).trans rfl)))))) (show (qm_up (qm_up (qm_up (qm_up I 121 (ct.toInt.toNat) 1) 122 (ct.toInt.toNat) pos) 123 (ct.toInt.toNat) 0) 118 10 v194) 118 10 = _ from (hk_same)) (by omega) (by omega) (by omega) (.int v17) (.int ln190) (.long g191) (.float 0) (.int 1) l7
                        · refine qm_Ru.go 2 (c' := (146, [.ref 118, .int pos, .int v17, .int ln190, .long g191, .float 0, .int 1, .int 0], [], (h.1, I, J, h.2.2.2))) rfl ?_
                          refine hl_c146 (h := (h.1, I, J, h.2.2.2)) (d := d) hH (fun v196 kk197 hl_v196 => ?_) 25 1 0 (by decide) (by decide)
                          refine qm_Ru.go 5 (c' := (186, [.ref 118, .int pos, .int v17, .int ln190, .long g191, .float 0, .int v196, .int kk197], [.long g191, .int 0, .int pos, .int v196, .ref 118], (h.1, I, J, h.2.2.2))) rfl ?_
                          refine hk_inv (o := 118) (r := []) (as := [.ref 118, .int v196, .int pos, .int 0, .long g191]) rfl rfl (hH.1 118 (17, 105) rfl) rfl rfl rfl rfl ?_
                          refine qm_Ru.go 1 (c' := (1, [.ref 118, .int v196, .int pos, .int 0, .long g191, .float 0], [.ref 118], (h.1, I, J, h.2.2.2))) rfl ?_
                          refine hk_getr rfl (hH.1 118 (17, 105) rfl) rfl (hH.2 118 5 (some 121) rfl) ?_
                          refine qm_Ru.go 1 (c' := (5, [.ref 118, .int v196, .int pos, .int 0, .long g191, .float 0], [.ref 118, .ref 121], (h.1, I, J, h.2.2.2))) rfl ?_
                          refine hk_geti (v := ct) rfl (hH.1 118 (17, 105) rfl) rfl q_ct ?_
                          refine qm_Ru.go 1 (c' := (9, [.ref 118, .int v196, .int pos, .int 0, .long g191, .float 0], [.int v196, .int ct, .ref 121], (h.1, I, J, h.2.2.2))) rfl ?_
                          refine hk_ias rfl (hH.1 121 (0, 403) rfl) (by omega) (by omega) ?_
                          refine qm_Ru.go 1 (c' := (11, [.ref 118, .int v196, .int pos, .int 0, .long g191, .float 0], [.ref 118], (h.1, qm_up I 121 (ct.toInt.toNat) v196, J, h.2.2.2))) rfl ?_
                          refine hk_getr rfl (hH.1 118 (17, 105) rfl) rfl (hH.2 118 6 (some 122) rfl) ?_
                          refine qm_Ru.go 1 (c' := (15, [.ref 118, .int v196, .int pos, .int 0, .long g191, .float 0], [.ref 118, .ref 122], (h.1, qm_up I 121 (ct.toInt.toNat) v196, J, h.2.2.2))) rfl ?_
                          refine hk_geti (v := ct) rfl (hH.1 118 (17, 105) rfl) rfl (show (qm_up I 121 (ct.toInt.toNat) v196) 118 10 = _ from ((hk_ot rfl).trans q_ct)) ?_
                          refine qm_Ru.go 1 (c' := (19, [.ref 118, .int v196, .int pos, .int 0, .long g191, .float 0], [.int pos, .int ct, .ref 122], (h.1, qm_up I 121 (ct.toInt.toNat) v196, J, h.2.2.2))) rfl ?_
                          refine hk_ias rfl (hH.1 122 (0, 403) rfl) (by omega) (by omega) ?_
                          refine qm_Ru.go 1 (c' := (21, [.ref 118, .int v196, .int pos, .int 0, .long g191, .float 0], [.ref 118], (h.1, qm_up (qm_up I 121 (ct.toInt.toNat) v196) 122 (ct.toInt.toNat) pos, J, h.2.2.2))) rfl ?_
                          refine hk_getr rfl (hH.1 118 (17, 105) rfl) rfl (hH.2 118 7 (some 123) rfl) ?_
                          refine qm_Ru.go 1 (c' := (25, [.ref 118, .int v196, .int pos, .int 0, .long g191, .float 0], [.ref 118, .ref 123], (h.1, qm_up (qm_up I 121 (ct.toInt.toNat) v196) 122 (ct.toInt.toNat) pos, J, h.2.2.2))) rfl ?_
                          refine hk_geti (v := ct) rfl (hH.1 118 (17, 105) rfl) rfl (show (qm_up (qm_up I 121 (ct.toInt.toNat) v196) 122 (ct.toInt.toNat) pos) 118 10 = _ from ((hk_ot rfl).trans ((hk_ot rfl).trans q_ct))) ?_
                          refine qm_Ru.go 1 (c' := (29, [.ref 118, .int v196, .int pos, .int 0, .long g191, .float 0], [.int 0, .int ct, .ref 123], (h.1, qm_up (qm_up I 121 (ct.toInt.toNat) v196) 122 (ct.toInt.toNat) pos, J, h.2.2.2))) rfl ?_
                          refine hk_ias rfl (hH.1 123 (0, 403) rfl) (by omega) (by omega) ?_
                          refine qm_Ru.go 1 (c' := (31, [.ref 118, .int v196, .int pos, .int 0, .long g191, .float 0], [.ref 118], (h.1, qm_up (qm_up (qm_up I 121 (ct.toInt.toNat) v196) 122 (ct.toInt.toNat) pos) 123 (ct.toInt.toNat) 0, J, h.2.2.2))) rfl ?_
                          refine hk_getr rfl (hH.1 118 (17, 105) rfl) rfl (hH.2 118 8 (some 124) rfl) ?_
                          refine qm_Ru.go 1 (c' := (35, [.ref 118, .int v196, .int pos, .int 0, .long g191, .float 0], [.ref 118, .ref 124], (h.1, qm_up (qm_up (qm_up I 121 (ct.toInt.toNat) v196) 122 (ct.toInt.toNat) pos) 123 (ct.toInt.toNat) 0, J, h.2.2.2))) rfl ?_
                          refine hk_geti (v := ct) rfl (hH.1 118 (17, 105) rfl) rfl (show (qm_up (qm_up (qm_up I 121 (ct.toInt.toNat) v196) 122 (ct.toInt.toNat) pos) 123 (ct.toInt.toNat) 0) 118 10 = _ from ((hk_ot rfl).trans ((hk_ot rfl).trans ((hk_ot rfl).trans q_ct)))) ?_
                          refine qm_Ru.go 1 (c' := (40, [.ref 118, .int v196, .int pos, .int 0, .long g191, .float 0], [.long g191, .int ct, .ref 124], (h.1, qm_up (qm_up (qm_up I 121 (ct.toInt.toNat) v196) 122 (ct.toInt.toNat) pos) 123 (ct.toInt.toNat) 0, J, h.2.2.2))) rfl ?_
                          refine hk_las rfl (hH.1 124 (3, 403) rfl) (by omega) (by omega) ?_
                          refine qm_Ru.go 2 (c' := (43, [.ref 118, .int v196, .int pos, .int 0, .long g191, .float 0], [.ref 118, .ref 118], (h.1, qm_up (qm_up (qm_up I 121 (ct.toInt.toNat) v196) 122 (ct.toInt.toNat) pos) 123 (ct.toInt.toNat) 0, qm_up J 124 (ct.toInt.toNat) g191, h.2.2.2))) rfl ?_
                          refine hk_geti (v := ct) rfl (hH.1 118 (17, 105) rfl) rfl (show (qm_up (qm_up (qm_up I 121 (ct.toInt.toNat) v196) 122 (ct.toInt.toNat) pos) 123 (ct.toInt.toNat) 0) 118 10 = _ from ((hk_ot rfl).trans ((hk_ot rfl).trans ((hk_ot rfl).trans q_ct)))) ?_
                          refine qm_Ru.go 2 (c' := (48, [.ref 118, .int v196, .int pos, .int 0, .long g191, .float 0], [.int (ct + 1), .ref 118], (h.1, qm_up (qm_up (qm_up I 121 (ct.toInt.toNat) v196) 122 (ct.toInt.toNat) pos) 123 (ct.toInt.toNat) 0, qm_up J 124 (ct.toInt.toNat) g191, h.2.2.2))) rfl ?_
                          obtain ⟨v198, q_v198, e_v198⟩ := hk_add (x := ct) (y := 1) (a := ct.toInt) (b := 1) rfl rfl (by omega) (by omega)
                          rw [q_v198]
                          refine hk_puti rfl (hH.1 118 (17, 105) rfl) rfl ?_
                          refine qm_Ru.go 0 (c' := (51, [.ref 118, .int v196, .int pos, .int 0, .long g191, .float 0], [], (h.1, qm_up (qm_up (qm_up (qm_up I 121 (ct.toInt.toNat) v196) 122 (ct.toInt.toNat) pos) 123 (ct.toInt.toNat) 0) 118 10 v198, qm_up J 124 (ct.toInt.toNat) g191, h.2.2.2))) rfl ?_
                          refine qm_Ru.rt (v := none) (h' := (h.1, qm_up (qm_up (qm_up (qm_up I 121 (ct.toInt.toNat) v196) 122 (ct.toInt.toNat) pos) 123 (ct.toInt.toNat) 0) 118 10 v198, qm_up J 124 (ct.toInt.toNat) g191, h.2.2.2)) rfl ?_
                          refine qm_Ru.go 3 (c' := (192, [.ref 118, .int pos, .int v17, .int ln190, .long g191, .float 0, .int v196, .int kk197], [.int (pos + ln190)], (h.1, qm_up (qm_up (qm_up (qm_up I 121 (ct.toInt.toNat) v196) 122 (ct.toInt.toNat) pos) 123 (ct.toInt.toNat) 0) 118 10 v198, qm_up J 124 (ct.toInt.toNat) g191, h.2.2.2))) rfl ?_
                          obtain ⟨v199, q_v199, e_v199⟩ := hk_add (x := pos) (y := ln190) (a := pos.toInt) (b := ln190.toInt) rfl rfl (by omega) (by omega)
                          rw [q_v199]
                          refine qm_Ru.go 3 (c' := (7, [.ref 118, .int v199, .int v17, .int ln190, .long g191, .float 0, .int v196, .int kk197], [], (h.1, qm_up (qm_up (qm_up (qm_up I 121 (ct.toInt.toNat) v196) 122 (ct.toInt.toNat) pos) 123 (ct.toInt.toNat) 0) 118 10 v198, qm_up J 124 (ct.toInt.toNat) g191, h.2.2.2))) rfl ?_
                          exact ih (m - 1) (by omega) (qm_up (qm_up (qm_up (qm_up I 121 (ct.toInt.toNat) v196) 122 (ct.toInt.toNat) pos) 123 (ct.toInt.toNat) 0) 118 10 v198) (qm_up J 124 (ct.toInt.toNat) g191) v198 v199 (hb_up (o := 118) (k := 10) (x := v198) (hb_up (o := 123) (k := ct.toInt.toNat) (x := 0) (hb_up (o := 122) (k := ct.toInt.toNat) (x := pos) (hb_up (o := 121) (k := ct.toInt.toNat) (x := v196) hBI ⟨by show (0 : Int) ≤ v196.toInt; omega, by show v196.toInt ≤ (44 : Int); omega⟩) (qa_in_full _)) (qa_in_full _)) ⟨by show (0 : Int) ≤ v198.toInt; omega, by show v198.toInt ≤ (401 : Int); omega⟩) (fun o ho i => ((hk_mod ho rfl).trans ((hk_mod ho rfl).trans ((hk_mod ho rfl).trans ((hk_mod ho rfl).trans ((e o (hk_ms rfl ho) i).trans rfl)))))) (fun i hi => ((hk_neq (fun z => by subst z; cases hi)).trans ((hk_ot rfl).trans ((hk_ot rfl).trans ((hk_ot rfl).trans ((e8 i (hk_ms rfl hi)).trans rfl)))))) (show (qm_up (qm_up (qm_up (qm_up I 121 (ct.toInt.toNat) v196) 122 (ct.toInt.toNat) pos) 123 (ct.toInt.toNat) 0) 118 10 v198) 118 10 = _ from (hk_same)) (by omega) (by omega) (by omega) (.int v17) (.int ln190) (.long g191) (.float 0) (.int v196) (.int kk197)
                      · refine qm_Ru.go 5 (c' := (140, [.ref 118, .int pos, .int v17, .int ln190, .long g191, .float 0, .int 3, l7], [.int 7, .int ln190], (h.1, I, J, h.2.2.2))) rfl ?_
                        refine hk_cgt (ix := ln190.toInt) (iy := 7) rfl rfl rfl (fun z200 => ?_) (fun z200 => by exfalso; omega)
                        refine qm_Ru.go 5 (c' := (186, [.ref 118, .int pos, .int v17, .int ln190, .long g191, .float 0, .int 3, l7], [.long g191, .int 0, .int pos, .int 3, .ref 118], (h.1, I, J, h.2.2.2))) rfl ?_
                        refine hk_inv (o := 118) (r := []) (as := [.ref 118, .int 3, .int pos, .int 0, .long g191]) rfl rfl (hH.1 118 (17, 105) rfl) rfl rfl rfl rfl ?_
                        refine qm_Ru.go 1 (c' := (1, [.ref 118, .int 3, .int pos, .int 0, .long g191, .float 0], [.ref 118], (h.1, I, J, h.2.2.2))) rfl ?_
                        refine hk_getr rfl (hH.1 118 (17, 105) rfl) rfl (hH.2 118 5 (some 121) rfl) ?_
                        refine qm_Ru.go 1 (c' := (5, [.ref 118, .int 3, .int pos, .int 0, .long g191, .float 0], [.ref 118, .ref 121], (h.1, I, J, h.2.2.2))) rfl ?_
                        refine hk_geti (v := ct) rfl (hH.1 118 (17, 105) rfl) rfl q_ct ?_
                        refine qm_Ru.go 1 (c' := (9, [.ref 118, .int 3, .int pos, .int 0, .long g191, .float 0], [.int 3, .int ct, .ref 121], (h.1, I, J, h.2.2.2))) rfl ?_
                        refine hk_ias rfl (hH.1 121 (0, 403) rfl) (by omega) (by omega) ?_
                        refine qm_Ru.go 1 (c' := (11, [.ref 118, .int 3, .int pos, .int 0, .long g191, .float 0], [.ref 118], (h.1, qm_up I 121 (ct.toInt.toNat) 3, J, h.2.2.2))) rfl ?_
                        refine hk_getr rfl (hH.1 118 (17, 105) rfl) rfl (hH.2 118 6 (some 122) rfl) ?_
                        refine qm_Ru.go 1 (c' := (15, [.ref 118, .int 3, .int pos, .int 0, .long g191, .float 0], [.ref 118, .ref 122], (h.1, qm_up I 121 (ct.toInt.toNat) 3, J, h.2.2.2))) rfl ?_
                        refine hk_geti (v := ct) rfl (hH.1 118 (17, 105) rfl) rfl (show (qm_up I 121 (ct.toInt.toNat) 3) 118 10 = _ from ((hk_ot rfl).trans q_ct)) ?_
                        refine qm_Ru.go 1 (c' := (19, [.ref 118, .int 3, .int pos, .int 0, .long g191, .float 0], [.int pos, .int ct, .ref 122], (h.1, qm_up I 121 (ct.toInt.toNat) 3, J, h.2.2.2))) rfl ?_
                        refine hk_ias rfl (hH.1 122 (0, 403) rfl) (by omega) (by omega) ?_
                        refine qm_Ru.go 1 (c' := (21, [.ref 118, .int 3, .int pos, .int 0, .long g191, .float 0], [.ref 118], (h.1, qm_up (qm_up I 121 (ct.toInt.toNat) 3) 122 (ct.toInt.toNat) pos, J, h.2.2.2))) rfl ?_
                        refine hk_getr rfl (hH.1 118 (17, 105) rfl) rfl (hH.2 118 7 (some 123) rfl) ?_
                        refine qm_Ru.go 1 (c' := (25, [.ref 118, .int 3, .int pos, .int 0, .long g191, .float 0], [.ref 118, .ref 123], (h.1, qm_up (qm_up I 121 (ct.toInt.toNat) 3) 122 (ct.toInt.toNat) pos, J, h.2.2.2))) rfl ?_
                        refine hk_geti (v := ct) rfl (hH.1 118 (17, 105) rfl) rfl (show (qm_up (qm_up I 121 (ct.toInt.toNat) 3) 122 (ct.toInt.toNat) pos) 118 10 = _ from ((hk_ot rfl).trans ((hk_ot rfl).trans q_ct))) ?_
                        refine qm_Ru.go 1 (c' := (29, [.ref 118, .int 3, .int pos, .int 0, .long g191, .float 0], [.int 0, .int ct, .ref 123], (h.1, qm_up (qm_up I 121 (ct.toInt.toNat) 3) 122 (ct.toInt.toNat) pos, J, h.2.2.2))) rfl ?_
                        refine hk_ias rfl (hH.1 123 (0, 403) rfl) (by omega) (by omega) ?_
                        refine qm_Ru.go 1 (c' := (31, [.ref 118, .int 3, .int pos, .int 0, .long g191, .float 0], [.ref 118], (h.1, qm_up (qm_up (qm_up I 121 (ct.toInt.toNat) 3) 122 (ct.toInt.toNat) pos) 123 (ct.toInt.toNat) 0, J, h.2.2.2))) rfl ?_
                        refine hk_getr rfl (hH.1 118 (17, 105) rfl) rfl (hH.2 118 8 (some 124) rfl) ?_
                        refine qm_Ru.go 1 (c' := (35, [.ref 118, .int 3, .int pos, .int 0, .long g191, .float 0], [.ref 118, .ref 124], (h.1, qm_up (qm_up (qm_up I 121 (ct.toInt.toNat) 3) 122 (ct.toInt.toNat) pos) 123 (ct.toInt.toNat) 0, J, h.2.2.2))) rfl ?_
                        refine hk_geti (v := ct) rfl (hH.1 118 (17, 105) rfl) rfl (show (qm_up (qm_up (qm_up I 121 (ct.toInt.toNat) 3) 122 (ct.toInt.toNat) pos) 123 (ct.toInt.toNat) 0) 118 10 = _ from ((hk_ot rfl).trans ((hk_ot rfl).trans ((hk_ot rfl).trans q_ct)))) ?_
                        refine qm_Ru.go 1 (c' := (40, [.ref 118, .int 3, .int pos, .int 0, .long g191, .float 0], [.long g191, .int ct, .ref 124], (h.1, qm_up (qm_up (qm_up I 121 (ct.toInt.toNat) 3) 122 (ct.toInt.toNat) pos) 123 (ct.toInt.toNat) 0, J, h.2.2.2))) rfl ?_
                        refine hk_las rfl (hH.1 124 (3, 403) rfl) (by omega) (by omega) ?_
                        refine qm_Ru.go 2 (c' := (43, [.ref 118, .int 3, .int pos, .int 0, .long g191, .float 0], [.ref 118, .ref 118], (h.1, qm_up (qm_up (qm_up I 121 (ct.toInt.toNat) 3) 122 (ct.toInt.toNat) pos) 123 (ct.toInt.toNat) 0, qm_up J 124 (ct.toInt.toNat) g191, h.2.2.2))) rfl ?_
                        refine hk_geti (v := ct) rfl (hH.1 118 (17, 105) rfl) rfl (show (qm_up (qm_up (qm_up I 121 (ct.toInt.toNat) 3) 122 (ct.toInt.toNat) pos) 123 (ct.toInt.toNat) 0) 118 10 = _ from ((hk_ot rfl).trans ((hk_ot rfl).trans ((hk_ot rfl).trans q_ct)))) ?_
                        refine qm_Ru.go 2 (c' := (48, [.ref 118, .int 3, .int pos, .int 0, .long g191, .float 0], [.int (ct + 1), .ref 118], (h.1, qm_up (qm_up (qm_up I 121 (ct.toInt.toNat) 3) 122 (ct.toInt.toNat) pos) 123 (ct.toInt.toNat) 0, qm_up J 124 (ct.toInt.toNat) g191, h.2.2.2))) rfl ?_
                        obtain ⟨v201, q_v201, e_v201⟩ := hk_add (x := ct) (y := 1) (a := ct.toInt) (b := 1) rfl rfl (by omega) (by omega)
                        rw [q_v201]
                        refine hk_puti rfl (hH.1 118 (17, 105) rfl) rfl ?_
                        refine qm_Ru.go 0 (c' := (51, [.ref 118, .int 3, .int pos, .int 0, .long g191, .float 0], [], (h.1, qm_up (qm_up (qm_up (qm_up I 121 (ct.toInt.toNat) 3) 122 (ct.toInt.toNat) pos) 123 (ct.toInt.toNat) 0) 118 10 v201, qm_up J 124 (ct.toInt.toNat) g191, h.2.2.2))) rfl ?_
                        refine qm_Ru.rt (v := none) (h' := (h.1, qm_up (qm_up (qm_up (qm_up I 121 (ct.toInt.toNat) 3) 122 (ct.toInt.toNat) pos) 123 (ct.toInt.toNat) 0) 118 10 v201, qm_up J 124 (ct.toInt.toNat) g191, h.2.2.2)) rfl ?_
                        refine qm_Ru.go 3 (c' := (192, [.ref 118, .int pos, .int v17, .int ln190, .long g191, .float 0, .int 3, l7], [.int (pos + ln190)], (h.1, qm_up (qm_up (qm_up (qm_up I 121 (ct.toInt.toNat) 3) 122 (ct.toInt.toNat) pos) 123 (ct.toInt.toNat) 0) 118 10 v201, qm_up J 124 (ct.toInt.toNat) g191, h.2.2.2))) rfl ?_
                        obtain ⟨v202, q_v202, e_v202⟩ := hk_add (x := pos) (y := ln190) (a := pos.toInt) (b := ln190.toInt) rfl rfl (by omega) (by omega)
                        rw [q_v202]
                        refine qm_Ru.go 3 (c' := (7, [.ref 118, .int v202, .int v17, .int ln190, .long g191, .float 0, .int 3, l7], [], (h.1, qm_up (qm_up (qm_up (qm_up I 121 (ct.toInt.toNat) 3) 122 (ct.toInt.toNat) pos) 123 (ct.toInt.toNat) 0) 118 10 v201, qm_up J 124 (ct.toInt.toNat) g191, h.2.2.2))) rfl ?_
                        exact ih (m - 1) (by omega) (qm_up (qm_up (qm_up (qm_up I 121 (ct.toInt.toNat) 3) 122 (ct.toInt.toNat) pos) 123 (ct.toInt.toNat) 0) 118 10 v201) (qm_up J 124 (ct.toInt.toNat) g191) v201 v202 (hb_up (o := 118) (k := 10) (x := v201) (hb_up (o := 123) (k := ct.toInt.toNat) (x := 0) (hb_up (o := 122) (k := ct.toInt.toNat) (x := pos) (hb_up (o := 121) (k := ct.toInt.toNat) (x := 3) hBI ⟨(show (0 : Int) ≤ 3 from by decide), (show (3 : Int) ≤ 44 from by decide)⟩) (qa_in_full _)) (qa_in_full _)) ⟨by show (0 : Int) ≤ v201.toInt; omega, by show v201.toInt ≤ (401 : Int); omega⟩) (fun o ho i => ((hk_mod ho rfl).trans ((hk_mod ho rfl).trans ((hk_mod ho rfl).trans ((hk_mod ho rfl).trans ((e o (hk_ms rfl ho) i).trans rfl)))))) (fun i hi => ((hk_neq (fun z => by subst z; cases hi)).trans ((hk_ot rfl).trans ((hk_ot rfl).trans ((hk_ot rfl).trans ((e8 i (hk_ms rfl hi)).trans rfl)))))) (show (qm_up (qm_up (qm_up (qm_up I 121 (ct.toInt.toNat) 3) 122 (ct.toInt.toNat) pos) 123 (ct.toInt.toNat) 0) 118 10 v201) 118 10 = _ from (hk_same)) (by omega) (by omega) (by omega) (.int v17) (.int ln190) (.long g191) (.float 0) (.int 3) l7
                · refine qm_Ru.go 1 (c' := (70, [.ref 118, .int (pos + 1), .int v17, l3, l4, l5, l6, l7], [], (h.1, I, J, h.2.2.2))) rfl ?_
                  obtain ⟨v203, q_v203, e_v203⟩ := hk_add (x := pos) (y := 1) (a := pos.toInt) (b := 1) rfl rfl (by omega) (by omega)
                  rw [q_v203]
                  refine qm_Ru.go 2 (c' := (7, [.ref 118, .int v203, .int v17, l3, l4, l5, l6, l7], [], (h.1, I, J, h.2.2.2))) rfl ?_
                  exact ih (m - 1) (by omega) (I) (J) ct v203 hBI (fun o ho i => ((e o (hk_ms rfl ho) i).trans rfl)) (fun i hi => ((e8 i (hk_ms rfl hi)).trans rfl)) q_ct (by omega) (by omega) (by omega) (.int v17) l3 l4 l5 l6 l7
        · refine qm_Ru.go 3 (c' := (34, [.ref 118, .int pos, .int v17, l3, l4, l5, l6, l7], [.ref 118, .int 0, .ref 118], (h.1, I, J, h.2.2.2))) rfl ?_
          refine hk_geti (v := n) rfl (hH.1 118 (17, 105) rfl) rfl (show (I) 118 4 = _ from ((e8 4 rfl).trans q_n)) ?_
          refine qm_Ru.go 2 (c' := (39, [.ref 118, .int pos, .int v17, l3, l4, l5, l6, l7], [.long 0, .int 0, .int n, .int 0, .ref 118], (h.1, I, J, h.2.2.2))) rfl ?_
          refine hk_inv (o := 118) (r := []) (as := [.ref 118, .int 0, .int n, .int 0, .long 0]) rfl rfl (hH.1 118 (17, 105) rfl) rfl rfl rfl rfl ?_
          refine qm_Ru.go 1 (c' := (1, [.ref 118, .int 0, .int n, .int 0, .long 0, .float 0], [.ref 118], (h.1, I, J, h.2.2.2))) rfl ?_
          refine hk_getr rfl (hH.1 118 (17, 105) rfl) rfl (hH.2 118 5 (some 121) rfl) ?_
          refine qm_Ru.go 1 (c' := (5, [.ref 118, .int 0, .int n, .int 0, .long 0, .float 0], [.ref 118, .ref 121], (h.1, I, J, h.2.2.2))) rfl ?_
          refine hk_geti (v := ct) rfl (hH.1 118 (17, 105) rfl) rfl q_ct ?_
          refine qm_Ru.go 1 (c' := (9, [.ref 118, .int 0, .int n, .int 0, .long 0, .float 0], [.int 0, .int ct, .ref 121], (h.1, I, J, h.2.2.2))) rfl ?_
          refine hk_ias rfl (hH.1 121 (0, 403) rfl) (by omega) (by omega) ?_
          refine qm_Ru.go 1 (c' := (11, [.ref 118, .int 0, .int n, .int 0, .long 0, .float 0], [.ref 118], (h.1, qm_up I 121 (ct.toInt.toNat) 0, J, h.2.2.2))) rfl ?_
          refine hk_getr rfl (hH.1 118 (17, 105) rfl) rfl (hH.2 118 6 (some 122) rfl) ?_
          refine qm_Ru.go 1 (c' := (15, [.ref 118, .int 0, .int n, .int 0, .long 0, .float 0], [.ref 118, .ref 122], (h.1, qm_up I 121 (ct.toInt.toNat) 0, J, h.2.2.2))) rfl ?_
          refine hk_geti (v := ct) rfl (hH.1 118 (17, 105) rfl) rfl (show (qm_up I 121 (ct.toInt.toNat) 0) 118 10 = _ from ((hk_ot rfl).trans q_ct)) ?_
          refine qm_Ru.go 1 (c' := (19, [.ref 118, .int 0, .int n, .int 0, .long 0, .float 0], [.int n, .int ct, .ref 122], (h.1, qm_up I 121 (ct.toInt.toNat) 0, J, h.2.2.2))) rfl ?_
          refine hk_ias rfl (hH.1 122 (0, 403) rfl) (by omega) (by omega) ?_
          refine qm_Ru.go 1 (c' := (21, [.ref 118, .int 0, .int n, .int 0, .long 0, .float 0], [.ref 118], (h.1, qm_up (qm_up I 121 (ct.toInt.toNat) 0) 122 (ct.toInt.toNat) n, J, h.2.2.2))) rfl ?_
          refine hk_getr rfl (hH.1 118 (17, 105) rfl) rfl (hH.2 118 7 (some 123) rfl) ?_
          refine qm_Ru.go 1 (c' := (25, [.ref 118, .int 0, .int n, .int 0, .long 0, .float 0], [.ref 118, .ref 123], (h.1, qm_up (qm_up I 121 (ct.toInt.toNat) 0) 122 (ct.toInt.toNat) n, J, h.2.2.2))) rfl ?_
          refine hk_geti (v := ct) rfl (hH.1 118 (17, 105) rfl) rfl (show (qm_up (qm_up I 121 (ct.toInt.toNat) 0) 122 (ct.toInt.toNat) n) 118 10 = _ from ((hk_ot rfl).trans ((hk_ot rfl).trans q_ct))) ?_
          refine qm_Ru.go 1 (c' := (29, [.ref 118, .int 0, .int n, .int 0, .long 0, .float 0], [.int 0, .int ct, .ref 123], (h.1, qm_up (qm_up I 121 (ct.toInt.toNat) 0) 122 (ct.toInt.toNat) n, J, h.2.2.2))) rfl ?_
          refine hk_ias rfl (hH.1 123 (0, 403) rfl) (by omega) (by omega) ?_
          refine qm_Ru.go 1 (c' := (31, [.ref 118, .int 0, .int n, .int 0, .long 0, .float 0], [.ref 118], (h.1, qm_up (qm_up (qm_up I 121 (ct.toInt.toNat) 0) 122 (ct.toInt.toNat) n) 123 (ct.toInt.toNat) 0, J, h.2.2.2))) rfl ?_
          refine hk_getr rfl (hH.1 118 (17, 105) rfl) rfl (hH.2 118 8 (some 124) rfl) ?_
          refine qm_Ru.go 1 (c' := (35, [.ref 118, .int 0, .int n, .int 0, .long 0, .float 0], [.ref 118, .ref 124], (h.1, qm_up (qm_up (qm_up I 121 (ct.toInt.toNat) 0) 122 (ct.toInt.toNat) n) 123 (ct.toInt.toNat) 0, J, h.2.2.2))) rfl ?_
          refine hk_geti (v := ct) rfl (hH.1 118 (17, 105) rfl) rfl (show (qm_up (qm_up (qm_up I 121 (ct.toInt.toNat) 0) 122 (ct.toInt.toNat) n) 123 (ct.toInt.toNat) 0) 118 10 = _ from ((hk_ot rfl).trans ((hk_ot rfl).trans ((hk_ot rfl).trans q_ct)))) ?_
          refine qm_Ru.go 1 (c' := (40, [.ref 118, .int 0, .int n, .int 0, .long 0, .float 0], [.long 0, .int ct, .ref 124], (h.1, qm_up (qm_up (qm_up I 121 (ct.toInt.toNat) 0) 122 (ct.toInt.toNat) n) 123 (ct.toInt.toNat) 0, J, h.2.2.2))) rfl ?_
          refine hk_las rfl (hH.1 124 (3, 403) rfl) (by omega) (by omega) ?_
          refine qm_Ru.go 2 (c' := (43, [.ref 118, .int 0, .int n, .int 0, .long 0, .float 0], [.ref 118, .ref 118], (h.1, qm_up (qm_up (qm_up I 121 (ct.toInt.toNat) 0) 122 (ct.toInt.toNat) n) 123 (ct.toInt.toNat) 0, qm_up J 124 (ct.toInt.toNat) 0, h.2.2.2))) rfl ?_
          refine hk_geti (v := ct) rfl (hH.1 118 (17, 105) rfl) rfl (show (qm_up (qm_up (qm_up I 121 (ct.toInt.toNat) 0) 122 (ct.toInt.toNat) n) 123 (ct.toInt.toNat) 0) 118 10 = _ from ((hk_ot rfl).trans ((hk_ot rfl).trans ((hk_ot rfl).trans q_ct)))) ?_
          refine qm_Ru.go 2 (c' := (48, [.ref 118, .int 0, .int n, .int 0, .long 0, .float 0], [.int (ct + 1), .ref 118], (h.1, qm_up (qm_up (qm_up I 121 (ct.toInt.toNat) 0) 122 (ct.toInt.toNat) n) 123 (ct.toInt.toNat) 0, qm_up J 124 (ct.toInt.toNat) 0, h.2.2.2))) rfl ?_
          obtain ⟨v204, q_v204, e_v204⟩ := hk_add (x := ct) (y := 1) (a := ct.toInt) (b := 1) rfl rfl (by omega) (by omega)
          rw [q_v204]
          refine hk_puti rfl (hH.1 118 (17, 105) rfl) rfl ?_
          refine qm_Ru.go 0 (c' := (51, [.ref 118, .int 0, .int n, .int 0, .long 0, .float 0], [], (h.1, qm_up (qm_up (qm_up (qm_up I 121 (ct.toInt.toNat) 0) 122 (ct.toInt.toNat) n) 123 (ct.toInt.toNat) 0) 118 10 v204, qm_up J 124 (ct.toInt.toNat) 0, h.2.2.2))) rfl ?_
          refine qm_Ru.rt (v := none) (h' := (h.1, qm_up (qm_up (qm_up (qm_up I 121 (ct.toInt.toNat) 0) 122 (ct.toInt.toNat) n) 123 (ct.toInt.toNat) 0) 118 10 v204, qm_up J 124 (ct.toInt.toNat) 0, h.2.2.2)) rfl ?_
          refine qm_Ru.go 0 (c' := (42, [.ref 118, .int pos, .int v17, l3, l4, l5, l6, l7], [], (h.1, qm_up (qm_up (qm_up (qm_up I 121 (ct.toInt.toNat) 0) 122 (ct.toInt.toNat) n) 123 (ct.toInt.toNat) 0) 118 10 v204, qm_up J 124 (ct.toInt.toNat) 0, h.2.2.2))) rfl ?_
          refine qm_Ru.rt (v := none) (h' := (h.1, qm_up (qm_up (qm_up (qm_up I 121 (ct.toInt.toNat) 0) 122 (ct.toInt.toNat) n) 123 (ct.toInt.toNat) 0) 118 10 v204, qm_up J 124 (ct.toInt.toNat) 0, h.2.2.2)) rfl ?_
          exact k (qm_up (qm_up (qm_up (qm_up I 121 (ct.toInt.toNat) 0) 122 (ct.toInt.toNat) n) 123 (ct.toInt.toNat) 0) 118 10 v204) (qm_up J 124 (ct.toInt.toNat) 0) (hb_up (o := 118) (k := 10) (x := v204) (hb_up (o := 123) (k := ct.toInt.toNat) (x := 0) (hb_up (o := 122) (k := ct.toInt.toNat) (x := n) (hb_up (o := 121) (k := ct.toInt.toNat) (x := 0) hBI ⟨(show (0 : Int) ≤ 0 from by decide), (show (0 : Int) ≤ 44 from by decide)⟩) (qa_in_full _)) (qa_in_full _)) ⟨by show (0 : Int) ≤ v204.toInt; omega, by show v204.toInt ≤ (401 : Int); omega⟩) (fun o ho i => ((hk_mod ho rfl).trans ((hk_mod ho rfl).trans ((hk_mod ho rfl).trans ((hk_mod ho rfl).trans ((e o (hk_ms rfl ho) i).trans rfl)))))) (fun i hi => ((hk_neq (fun z => by subst z; cases hi)).trans ((hk_ot rfl).trans ((hk_ot rfl).trans ((hk_ot rfl).trans ((e8 i (hk_ms rfl hi)).trans rfl))))))
theorem hs_cut {L : Nat} {xs : Nat → Int32} {d : Nat} {Z : Option Value → qm_H → Prop} {h : qm_H} (hH : hk_H h) (hB : hk_B h.2.1) {n : Int32} (q_n : h.2.1 118 4 = n) (hn : 0 ≤ n.toInt ∧ n.toInt ≤ 2000) (k : ∀ (I : Nat → Nat → Int32) (J : Nat → Nat → Int64), hk_B I → (∀ o, [118, 121, 122, 123].contains o = false → ∀ i, I o i = h.2.1 o i) → (∀ i, [10].contains i = false → I 118 i = h.2.1 118 i) → Z none (h.1, I, J, h.2.2.2)) : qm_Ru (some (L, xs)) (d + 3) cd_249 (qm_ent 8 [.ref 118] h) Z := by
  refine qm_Ru.go 2 (c' := (2, [.ref 118, .float 0, .float 0, .float 0, .float 0, .float 0, .float 0, .float 0], [.int 0, .ref 118], h)) rfl ?_
  refine hk_puti rfl (hH.1 118 (17, 105) rfl) rfl ?_
  refine qm_Ru.go 2 (c' := (7, [.ref 118, .int 0, .float 0, .float 0, .float 0, .float 0, .float 0, .float 0], [], (h.1, qm_up h.2.1 118 10 0, h.2.2.1, h.2.2.2))) rfl ?_
  have k0 : (0 : Int32).toInt = 0 := rfl
  exact hl_cut hH hB q_n hn k 2401 (qm_up h.2.1 118 10 0) h.2.2.1 0 0 (hb_up (o := 118) (k := 10) (x := 0) hB ⟨(show (0 : Int) ≤ 0 from by decide), (show (0 : Int) ≤ 401 from by decide)⟩) (fun o ho i => hk_mod ho rfl) (fun i hi => hk_neq (fun z => by subst z; cases hi)) hk_same (by omega) (by omega) (by omega) _ _ _ _ _ _
