/-! contracts of the reference by hand -/
theorem hl_by1 {L : Nat} {xs : Nat → Int32} {d : Nat} {Z : Option Value → qm_H → Prop} {h : qm_H} (h6 : 6 ≤ L) (hH : hk_H h) (hB : hk_B h.2.1) (hr : hk_ru h.2.1) {i0 v : Int32} (b_v : (0 : Int) ≤ v.toInt ∧ v.toInt ≤ 3) (ko : ∀ (I : Nat → Nat → Int32) (J : Nat → Nat → Int64) (bs lt s2 : Int32) (l6 : Value), hk_B I → (∀ o, [].contains o = false → ∀ i, I o i = h.2.1 o i) → (bs.toInt = -1 ∨ ((0 ≤ bs.toInt ∧ bs.toInt ≤ 3) ∧ bs.toInt ≠ v.toInt ∧ (h.2.1 161 (16 + bs.toInt.toNat)).toInt ≠ 4)) → qm_Ru (some (L, xs)) (d + 60) cd_331 (144, [.ref 118, .int i0, .int v, .int bs, .int lt, .int s2, l6], [], (h.1, I, J, h.2.2.2)) Z) : ∀ (m : Nat) (I : Nat → Nat → Int32) (J : Nat → Nat → Int64) (bs : Int32) (lt : Int32) (s : Int32) (l6 : Value), hk_B I → (∀ o, [].contains o = false → ∀ i, I o i = h.2.1 o i) → ((0 : Int) ≤ s.toInt ∧ s.toInt ≤ 4) → (bs.toInt = -1 ∨ ((0 ≤ bs.toInt ∧ bs.toInt ≤ 3) ∧ bs.toInt ≠ v.toInt ∧ (h.2.1 161 (16 + bs.toInt.toNat)).toInt ≠ 4)) → (4 - s.toInt).toNat = m → qm_Ru (some (L, xs)) (d + 60) cd_331 (61, [.ref 118, .int i0, .int v, .int bs, .int lt, .int s, l6], [], (h.1, I, J, h.2.2.2)) Z := by
  intro m
  induction m using Nat.strongRecOn with
  | ind m ih =>
    intro I J bs lt s l6 hBI e hs4 hb hm
    refine qm_Ru.go 2 (c' := (64, [.ref 118, .int i0, .int v, .int bs, .int lt, .int s, l6], [.int 4, .int s], (h.1, I, J, h.2.2.2))) rfl ?_
    refine hk_cge (ix := s.toInt) (iy := 4) rfl rfl rfl (fun z1 => ?_) (fun z1 => ?_)
    · refine qm_Ru.go 0 (c' := (144, [.ref 118, .int i0, .int v, .int bs, .int lt, .int s, l6], [], (h.1, I, J, h.2.2.2))) rfl ?_
      exact ko (I) (J) bs lt s l6 hBI (fun o ho i => (e o ho i)) hb
    · refine qm_Ru.go 2 (c' := (70, [.ref 118, .int i0, .int v, .int bs, .int lt, .int s, l6], [.int v, .int s], (h.1, I, J, h.2.2.2))) rfl ?_
      refine hk_ceq (ix := s.toInt) (iy := v.toInt) rfl rfl rfl (fun z2 => ?_) (fun z2 => ?_)
      · refine qm_Ru.go 1 (c' := (141, [.ref 118, .int i0, .int v, .int bs, .int lt, .int (s + 1), l6], [], (h.1, I, J, h.2.2.2))) rfl ?_
        obtain ⟨v3, q_v3, e_v3⟩ := hk_add (x := s) (y := 1) (a := s.toInt) (b := 1) rfl rfl (by omega) (by omega)
        rw [q_v3]
        refine qm_Ru.go 1 (c' := (61, [.ref 118, .int i0, .int v, .int bs, .int lt, .int v3, l6], [], (h.1, I, J, h.2.2.2))) rfl ?_
        exact ih _ (by omega) (I) (J) bs lt v3 l6 hBI (fun o ho i => (e o ho i)) (by omega) hb rfl
      · refine qm_Ru.go 1 (c' := (74, [.ref 118, .int i0, .int v, .int bs, .int lt, .int s, l6], [.ref 118], (h.1, I, J, h.2.2.2))) rfl ?_
        refine hk_getr rfl (hH.1 118 (17, 105) rfl) rfl (hH.2 118 64 (some 161) rfl) ?_
        refine qm_Ru.go 3 (c' := (82, [.ref 118, .int i0, .int v, .int bs, .int lt, .int s, l6], [.int (16 + s), .ref 161], (h.1, I, J, h.2.2.2))) rfl ?_
        obtain ⟨v4, q_v4, e_v4⟩ := hk_add (x := 16) (y := s) (a := 16) (b := s.toInt) rfl rfl (by omega) (by omega)
        rw [q_v4]
        obtain ⟨v5, q_v5⟩ : ∃ v, h.2.1 161 (v4.toInt.toNat) = v := ⟨_, rfl⟩
        have b_v5 : (0 : Int) ≤ v5.toInt ∧ v5.toInt ≤ 29 := by rw [← q_v5]; exact hB 161 (v4.toInt.toNat)
        refine hk_ial (v := v5) rfl (hH.1 161 (0, 120) rfl) (by omega) (by omega) (show (I) 161 (v4.toInt.toNat) = _ from ((e 161 rfl (v4.toInt.toNat)).trans q_v5)) ?_
        refine qm_Ru.go 1 (c' := (84, [.ref 118, .int i0, .int v, .int bs, .int lt, .int s, l6], [.int 4, .int v5], (h.1, I, J, h.2.2.2))) rfl ?_
        refine hk_cne (ix := v5.toInt) (iy := 4) rfl rfl rfl (fun z6 => ?_) (fun z6 => ?_)
        · refine qm_Ru.go 1 (c' := (91, [.ref 118, .int i0, .int v, .int bs, .int lt, .int s, l6], [.ref 118], (h.1, I, J, h.2.2.2))) rfl ?_
          refine hk_getr rfl (hH.1 118 (17, 105) rfl) rfl (hH.2 118 64 (some 161) rfl) ?_
          refine qm_Ru.go 3 (c' := (99, [.ref 118, .int i0, .int v, .int bs, .int lt, .int s, l6], [.int (16 + s), .ref 161], (h.1, I, J, h.2.2.2))) rfl ?_
          rw [q_v4]
          refine hk_ial (v := v5) rfl (hH.1 161 (0, 120) rfl) (by omega) (by omega) (show (I) 161 (v4.toInt.toNat) = _ from ((e 161 rfl (v4.toInt.toNat)).trans q_v5)) ?_
          refine qm_Ru.go 0 (c' := (100, [.ref 118, .int i0, .int v, .int bs, .int lt, .int s, l6], [.int v5], (h.1, I, J, h.2.2.2))) rfl ?_
          refine hk_zne (ix := v5.toInt) rfl rfl (fun z8 => ?_) (fun z8 => ?_)
          · refine qm_Ru.go 2 (c' := (111, [.ref 118, .int i0, .int v, .int bs, .int lt, .int s, l6], [.int s, .ref 118], (h.1, I, J, h.2.2.2))) rfl ?_
            refine hk_inv (o := 118) (r := []) (as := [.ref 118, .int s]) rfl rfl (hH.1 118 (17, 105) rfl) rfl rfl rfl rfl (hs_soon (h := (h.1, I, J, h.2.2.2)) h6 hH hBI (by rw [show I = h.2.1 from funext fun o => funext fun i => e o rfl i]; exact hr) ⟨by show (0 : Int) ≤ s.toInt; omega, by show s.toInt ≤ (3 : Int); omega⟩ (by omega) (fun v11 I9 J10 _ _ e_I9 => ?_))
            have e_I9 : I = I9 := funext fun o => funext fun i => (e_I9 o rfl i).symm
            subst e_I9
            refine qm_Ru.go 3 (c' := (118, [.ref 118, .int i0, .int v, .int bs, .int lt, .int s, .int v11], [.int (-1), .int bs], (h.1, I, J10, h.2.2.2))) rfl ?_
            refine hk_ceq (ix := bs.toInt) (iy := (-1)) rfl rfl rfl (fun z12 => ?_) (fun z12 => ?_)
            · refine qm_Ru.go 5 (c' := (141, [.ref 118, .int i0, .int v, .int s, .int v11, .int (s + 1), .int v11], [], (h.1, I, J10, h.2.2.2))) rfl ?_
              obtain ⟨v13, q_v13, e_v13⟩ := hk_add (x := s) (y := 1) (a := s.toInt) (b := 1) rfl rfl (by omega) (by omega)
              rw [q_v13]
              refine qm_Ru.go 1 (c' := (61, [.ref 118, .int i0, .int v, .int s, .int v11, .int v13, .int v11], [], (h.1, I, J10, h.2.2.2))) rfl ?_
              exact ih _ (by omega) (I) (J10) s v11 v13 (.int v11) hBI (fun o ho i => (e o ho i)) (by omega) (Or.inr ⟨by omega, by omega, by rw [show 16 + s.toInt.toNat = v4.toInt.toNat from by omega, q_v5]; omega⟩) rfl
            · refine qm_Ru.go 2 (c' := (125, [.ref 118, .int i0, .int v, .int bs, .int lt, .int s, .int v11], [.int lt, .int v11], (h.1, I, J10, h.2.2.2))) rfl ?_
              refine hk_cgt (ix := v11.toInt) (iy := lt.toInt) rfl rfl rfl (fun z14 => ?_) (fun z14 => ?_)
              · refine qm_Ru.go 5 (c' := (141, [.ref 118, .int i0, .int v, .int s, .int v11, .int (s + 1), .int v11], [], (h.1, I, J10, h.2.2.2))) rfl ?_
                obtain ⟨v15, q_v15, e_v15⟩ := hk_add (x := s) (y := 1) (a := s.toInt) (b := 1) rfl rfl (by omega) (by omega)
                rw [q_v15]
                refine qm_Ru.go 1 (c' := (61, [.ref 118, .int i0, .int v, .int s, .int v11, .int v15, .int v11], [], (h.1, I, J10, h.2.2.2))) rfl ?_
                exact ih _ (by omega) (I) (J10) s v11 v15 (.int v11) hBI (fun o ho i => (e o ho i)) (by omega) (Or.inr ⟨by omega, by omega, by rw [show 16 + s.toInt.toNat = v4.toInt.toNat from by omega, q_v5]; omega⟩) rfl
              · refine qm_Ru.go 2 (c' := (141, [.ref 118, .int i0, .int v, .int bs, .int lt, .int (s + 1), .int v11], [], (h.1, I, J10, h.2.2.2))) rfl ?_
                obtain ⟨v16, q_v16, e_v16⟩ := hk_add (x := s) (y := 1) (a := s.toInt) (b := 1) rfl rfl (by omega) (by omega)
                rw [q_v16]
                refine qm_Ru.go 1 (c' := (61, [.ref 118, .int i0, .int v, .int bs, .int lt, .int v16, .int v11], [], (h.1, I, J10, h.2.2.2))) rfl ?_
                exact ih _ (by omega) (I) (J10) bs lt v16 (.int v11) hBI (fun o ho i => (e o ho i)) (by omega) hb rfl
          · refine qm_Ru.go 5 (c' := (118, [.ref 118, .int i0, .int v, .int bs, .int lt, .int s, .int 100], [.int (-1), .int bs], (h.1, I, J, h.2.2.2))) rfl ?_
            refine hk_ceq (ix := bs.toInt) (iy := (-1)) rfl rfl rfl (fun z17 => ?_) (fun z17 => ?_)
            · refine qm_Ru.go 5 (c' := (141, [.ref 118, .int i0, .int v, .int s, .int 100, .int (s + 1), .int 100], [], (h.1, I, J, h.2.2.2))) rfl ?_
              obtain ⟨v18, q_v18, e_v18⟩ := hk_add (x := s) (y := 1) (a := s.toInt) (b := 1) rfl rfl (by omega) (by omega)
              rw [q_v18]
              refine qm_Ru.go 1 (c' := (61, [.ref 118, .int i0, .int v, .int s, .int 100, .int v18, .int 100], [], (h.1, I, J, h.2.2.2))) rfl ?_
              exact ih _ (by omega) (I) (J) s 100 v18 (.int 100) hBI (fun o ho i => (e o ho i)) (by omega) (Or.inr ⟨by omega, by omega, by rw [show 16 + s.toInt.toNat = v4.toInt.toNat from by omega, q_v5]; omega⟩) rfl
            · refine qm_Ru.go 2 (c' := (125, [.ref 118, .int i0, .int v, .int bs, .int lt, .int s, .int 100], [.int lt, .int 100], (h.1, I, J, h.2.2.2))) rfl ?_
              refine hk_cgt (ix := 100) (iy := lt.toInt) rfl rfl rfl (fun z19 => ?_) (fun z19 => ?_)
              · refine qm_Ru.go 5 (c' := (141, [.ref 118, .int i0, .int v, .int s, .int 100, .int (s + 1), .int 100], [], (h.1, I, J, h.2.2.2))) rfl ?_
                obtain ⟨v20, q_v20, e_v20⟩ := hk_add (x := s) (y := 1) (a := s.toInt) (b := 1) rfl rfl (by omega) (by omega)
                rw [q_v20]
                refine qm_Ru.go 1 (c' := (61, [.ref 118, .int i0, .int v, .int s, .int 100, .int v20, .int 100], [], (h.1, I, J, h.2.2.2))) rfl ?_
                exact ih _ (by omega) (I) (J) s 100 v20 (.int 100) hBI (fun o ho i => (e o ho i)) (by omega) (Or.inr ⟨by omega, by omega, by rw [show 16 + s.toInt.toNat = v4.toInt.toNat from by omega, q_v5]; omega⟩) rfl
              · refine qm_Ru.go 2 (c' := (141, [.ref 118, .int i0, .int v, .int bs, .int lt, .int (s + 1), .int 100], [], (h.1, I, J, h.2.2.2))) rfl ?_
                obtain ⟨v21, q_v21, e_v21⟩ := hk_add (x := s) (y := 1) (a := s.toInt) (b := 1) rfl rfl (by omega) (by omega)
                rw [q_v21]
                refine qm_Ru.go 1 (c' := (61, [.ref 118, .int i0, .int v, .int bs, .int lt, .int v21, .int 100], [], (h.1, I, J, h.2.2.2))) rfl ?_
                exact ih _ (by omega) (I) (J) bs lt v21 (.int 100) hBI (fun o ho i => (e o ho i)) (by omega) hb rfl
        · refine qm_Ru.go 2 (c' := (141, [.ref 118, .int i0, .int v, .int bs, .int lt, .int (s + 1), l6], [], (h.1, I, J, h.2.2.2))) rfl ?_
          obtain ⟨v22, q_v22, e_v22⟩ := hk_add (x := s) (y := 1) (a := s.toInt) (b := 1) rfl rfl (by omega) (by omega)
          rw [q_v22]
          refine qm_Ru.go 1 (c' := (61, [.ref 118, .int i0, .int v, .int bs, .int lt, .int v22, l6], [], (h.1, I, J, h.2.2.2))) rfl ?_
          exact ih _ (by omega) (I) (J) bs lt v22 l6 hBI (fun o ho i => (e o ho i)) (by omega) hb rfl
theorem hl_by2 {L : Nat} {xs : Nat → Int32} {d : Nat} {Z : Option Value → qm_H → Prop} {h : qm_H} (h6 : 6 ≤ L) (hH : hk_H h) (hB : hk_B h.2.1) (hr : hk_ru h.2.1) {i0 : Int32} (hd : qdis (pI h.2.1 159) (h.2.1 118 61).toInt) (k : ∀ (v : Int32) (I : Nat → Nat → Int32) (J : Nat → Nat → Int64), hk_B I → (∀ o, [118, 161, 162].contains o = false → ∀ i, I o i = h.2.1 o i) → (∀ i, i < 66 → I 118 i = h.2.1 118 i) → Z (some (.int v)) (h.1, I, J, h.2.2.2)) : ∀ (m : Nat) (I : Nat → Nat → Int32) (J : Nat → Nat → Int64) (g : Nat) (l2 l3 l4 l5 l6 : Value), hk_B I → (∀ o, [118, 161, 162].contains o = false → ∀ i, I o i = h.2.1 o i) → (∀ i, i < 66 → I 118 i = h.2.1 118 i) → (lev (lvl I 0) (pI h.2.1 159) (I 162 0).toInt (h.2.1 118 61).toInt) → ((h.2.1 118 61).toInt ≤ (I 162 0).toInt ∨ nxt (lvl I 0) (pI h.2.1 159 (I 162 0).toInt.toNat)) → ((I 162 0).toInt < (h.2.1 118 61).toInt → gst (lvl I 0) (pI h.2.1 159 (I 162 0).toInt.toNat) g) → (5 * (12 - (I 162 0).toInt).toNat + g) = m → qm_Ru (some (L, xs)) (d + 80) cd_331 (23, [.ref 118, .int i0, l2, l3, l4, l5, l6], [], (h.1, I, J, h.2.2.2)) Z := by
  intro m
  induction m using Nat.strongRecOn with
  | ind m ih =>
    intro I J g l2 l3 l4 l5 l6 hBI e e8 hl hn hg hm
    refine qm_Ru.go 1 (c' := (24, [.ref 118, .int i0, l2, l3, l4, l5, l6], [.ref 118], (h.1, I, J, h.2.2.2))) rfl ?_
    refine hk_getr rfl (hH.1 118 (17, 105) rfl) rfl (hH.2 118 65 (some 162) rfl) ?_
    refine qm_Ru.go 1 (c' := (28, [.ref 118, .int i0, l2, l3, l4, l5, l6], [.int 0, .ref 162], (h.1, I, J, h.2.2.2))) rfl ?_
    obtain ⟨v1, q_v1⟩ : ∃ v, I 162 0 = v := ⟨_, rfl⟩
    have b_v1 : (0 : Int) ≤ v1.toInt ∧ v1.toInt ≤ 12 := by rw [← q_v1]; exact hBI 162 0
    refine hk_ial (v := v1) rfl (hH.1 162 (0, 6) rfl) (by decide) (by decide) q_v1 ?_
    refine qm_Ru.go 1 (c' := (30, [.ref 118, .int i0, l2, l3, l4, l5, l6], [.ref 118, .int v1], (h.1, I, J, h.2.2.2))) rfl ?_
    obtain ⟨v2, q_v2⟩ : ∃ v, h.2.1 118 61 = v := ⟨_, rfl⟩
    have b_v2 : (0 : Int) ≤ v2.toInt ∧ v2.toInt ≤ 12 := by rw [← q_v2]; exact hB 118 61
    refine hk_geti (v := v2) rfl (hH.1 118 (17, 105) rfl) rfl (show (I) 118 61 = _ from ((e8 61 (by decide)).trans q_v2)) ?_
    refine qm_Ru.go 0 (c' := (33, [.ref 118, .int i0, l2, l3, l4, l5, l6], [.int v2, .int v1], (h.1, I, J, h.2.2.2))) rfl ?_
    refine hk_cge (ix := v1.toInt) (iy := v2.toInt) rfl rfl rfl (fun z3 => ?_) (fun z3 => ?_)
    · refine qm_Ru.go 1 (c' := (196, [.ref 118, .int i0, l2, l3, l4, l5, l6], [.ref 118], (h.1, I, J, h.2.2.2))) rfl ?_
      obtain ⟨v4, q_v4⟩ : ∃ v, I 118 66 = v := ⟨_, rfl⟩
      refine hk_geti (v := v4) rfl (hH.1 118 (17, 105) rfl) rfl q_v4 ?_
      refine qm_Ru.go 0 (c' := (199, [.ref 118, .int i0, l2, l3, l4, l5, l6], [.int v4], (h.1, I, J, h.2.2.2))) rfl ?_
      refine qm_Ru.rt (v := (some (.int v4))) (h' := (h.1, I, J, h.2.2.2)) rfl ?_
      exact k v4 (I) (J) hBI (fun o ho i => (e o ho i)) (fun i hi => (e8 i hi))
    · refine qm_Ru.go 3 (c' := (39, [.ref 118, .int i0, l2, l3, l4, l5, l6], [.ref 118, .int 0, .ref 118], (h.1, I, J, h.2.2.2))) rfl ?_
      refine hk_getr rfl (hH.1 118 (17, 105) rfl) rfl (hH.2 118 62 (some 159) rfl) ?_
      refine qm_Ru.go 1 (c' := (43, [.ref 118, .int i0, l2, l3, l4, l5, l6], [.ref 118, .ref 159, .int 0, .ref 118], (h.1, I, J, h.2.2.2))) rfl ?_
      refine hk_getr rfl (hH.1 118 (17, 105) rfl) rfl (hH.2 118 65 (some 162) rfl) ?_
      refine qm_Ru.go 1 (c' := (47, [.ref 118, .int i0, l2, l3, l4, l5, l6], [.int 0, .ref 162, .ref 159, .int 0, .ref 118], (h.1, I, J, h.2.2.2))) rfl ?_
      refine hk_ial (v := v1) rfl (hH.1 162 (0, 6) rfl) (by decide) (by decide) q_v1 ?_
      refine qm_Ru.go 0 (c' := (48, [.ref 118, .int i0, l2, l3, l4, l5, l6], [.int v1, .ref 159, .int 0, .ref 118], (h.1, I, J, h.2.2.2))) rfl ?_
      obtain ⟨v5, q_v5⟩ : ∃ v, h.2.1 159 (v1.toInt.toNat) = v := ⟨_, rfl⟩
      have b_v5 : (0 : Int) ≤ v5.toInt ∧ v5.toInt ≤ 29 := by rw [← q_v5]; exact hB 159 (v1.toInt.toNat)
      refine hk_ial (v := v5) rfl (hH.1 159 (0, 12) rfl) (by omega) (by omega) (show (I) 159 (v1.toInt.toNat) = _ from ((e 159 rfl (v1.toInt.toNat)).trans q_v5)) ?_
      refine qm_Ru.go 0 (c' := (49, [.ref 118, .int i0, l2, l3, l4, l5, l6], [.int v5, .int 0, .ref 118], (h.1, I, J, h.2.2.2))) rfl ?_
      refine hk_inv (o := 118) (r := []) (as := [.ref 118, .int 0, .int v5]) rfl rfl (hH.1 118 (17, 105) rfl) rfl rfl rfl rfl (hs_stackof (h := (h.1, I, J, h.2.2.2)) h6 hH hBI (dd := 0) (x := v5) ⟨by decide, by decide⟩ hl.1 (fun v8 I6 J7 _ e_I6 k_v8 => ?_))
      have e_I6 : I = I6 := funext fun o => funext fun i => (e_I6 o rfl i).symm
      subst e_I6
      have k_v8 : stk (lvl I 0) v5.toInt v8.toInt := k_v8
      have ex : pI h.2.1 159 (I 162 0).toInt.toNat = v5.toInt := by show (h.2.1 159 _).toInt = _; rw [q_v1, q_v5]
      have hn := hn.resolve_left (by rw [q_v2, q_v1]; omega)
      rw [ex] at hn
      have hg := hg (by rw [q_v2, q_v1]; omega)
      rw [ex] at hg
      obtain ⟨s1, s14, s1c, s1l, s1g⟩ := hg
      rcases k_v8 with ⟨_, no⟩ | ⟨v03, vc, vl⟩
      · exact absurd s1c (no s1 s14)
      have es := least_un s1c s1l vc vl
      subst es
      have nx := hn v8.toInt.toNat s14 vc vl
      refine qm_Ru.go 7 (c' := (61, [.ref 118, .int i0, .int v8, .int (-1), .int (-1), .int 0, l6], [], (h.1, I, J7, h.2.2.2))) rfl ?_
      refine hl_by1 (h := (h.1, I, J7, h.2.2.2)) h6 hH hBI (show hk_ru (I) from ru_cg hr ((funext fun i => congrArg Int32.toInt (e 11 rfl i)).trans rfl) ((funext fun i => congrArg Int32.toInt (e 12 rfl i)).trans rfl) ((funext fun i => congrArg Int32.toInt (e 13 rfl i)).trans rfl) ((funext fun i => congrArg Int32.toInt (e 14 rfl i)).trans rfl) ((funext fun i => congrArg Int32.toInt (e 150 rfl i)).trans rfl) ((funext fun i => congrArg Int32.toInt (e 151 rfl i)).trans rfl)) (v := v8) (by omega) (fun I9 J10 v11 v12 v13 w14 hB_I9 e_I9 hb_I9 => ?_) _ (I) (J7) (-1) (-1) 0 l6 hBI (fun _ _ _ => rfl) (by decide) (Or.inl (by decide)) rfl
      have e_I9 : I = I9 := funext fun o => funext fun i => (e_I9 o rfl i).symm
      subst e_I9
      have hb_I9 : v11.toInt = -1 ∨ ((0 ≤ v11.toInt ∧ v11.toInt ≤ 3) ∧ v11.toInt ≠ v8.toInt ∧ (I 161 (16 + v11.toInt.toNat)).toInt ≠ 4) := hb_I9
      refine qm_Ru.go 2 (c' := (146, [.ref 118, .int i0, .int v8, .int v11, .int v12, .int v13, w14], [.int (-1), .int v11], (h.1, I, J10, h.2.2.2))) rfl ?_
      refine hk_cne (ix := v11.toInt) (iy := (-1)) rfl rfl rfl (fun z15 => ?_) (fun z15 => ?_)
      · refine qm_Ru.go 4 (c' := (156, [.ref 118, .int i0, .int v8, .int v11, .int v12, .int v13, w14], [.int v11, .int v8, .int 0, .ref 118], (h.1, I, J10, h.2.2.2))) rfl ?_
        have hb2 := hb_I9.resolve_left (by omega)
        have ha := hl.1 v8.toInt.toNat (by omega)
        have h1 := con_h vc rfl
        have hb3 := hl.1 v11.toInt.toNat (by omega)
        have hb4 : lvl I 0 (16 + v11.toInt.toNat) ≠ 4 := by rw [lv0]; exact hb2.2.2
        refine hk_inv (o := 118) (r := []) (as := [.ref 118, .int 0, .int v8, .int v11]) rfl rfl (hH.1 118 (17, 105) rfl) rfl rfl rfl rfl (hs_digsone (h := (h.1, I, J10, h.2.2.2)) hH hBI (dd := 0) (a := v8) (t := v11) ⟨by decide, by decide⟩ (by omega) (by omega) (by omega) (ha := lvl I 0 (16 + v8.toInt.toNat)) (hb := lvl I 0 (16 + v11.toInt.toNat)) rfl rfl (by omega) (by omega) (by omega) (by omega) (fun I16 hB_I16 e_I16 lv_I16 _ => ?_))
        have lv_I16 : lvl I16 0 = dg (lvl I 0) (v8.toInt.toNat) (v11.toInt.toNat) (lvl I 0 (16 + v8.toInt.toNat)) (lvl I 0 (16 + v11.toInt.toNat)) (lvl I 0 (4 * v8.toInt.toNat + (lvl I 0 (16 + v8.toInt.toNat) - 1).toNat)) := lv_I16
        have ld : lev (lvl I16 0) (pI h.2.1 159) (I 162 0).toInt (h.2.1 118 61).toInt := by rw [lv_I16]; exact lev_dig hl (by omega) (by omega) (by omega) rfl rfl (by omega) (by omega) rfl
        have gd : gst (lvl I16 0) v5.toInt (g - 1) := by rw [lv_I16]; exact gst_dig (by omega) (by omega) (by omega) rfl rfl (by omega) (by omega) (by omega) rfl (fun c => nx c.symm) vc vl (by omega)
        refine qm_Ru.go 1 (c' := (160, [.ref 118, .int i0, .int v8, .int v11, .int v12, .int v13, w14], [.ref 118], (h.1, I16, J10, h.2.2.2))) rfl ?_
        obtain ⟨v17, q_v17⟩ : ∃ v, I 118 66 = v := ⟨_, rfl⟩
        refine hk_geti (v := v17) rfl (hH.1 118 (17, 105) rfl) rfl (show (I16) 118 66 = _ from ((e_I16 118 rfl 66).trans q_v17)) ?_
        refine qm_Ru.go 1 (c' := (164, [.ref 118, .int i0, .int v8, .int v11, .int v12, .int v13, w14], [.int i0, .int v17], (h.1, I16, J10, h.2.2.2))) rfl ?_
        refine hk_cne (ix := v17.toInt) (iy := i0.toInt) rfl rfl rfl (fun z18 => ?_) (fun z18 => ?_)
        · refine qm_Ru.go 2 (c' := (179, [.ref 118, .int i0, .int v8, .int v11, .int v12, .int v13, w14], [.ref 118, .ref 118], (h.1, I16, J10, h.2.2.2))) rfl ?_
          refine hk_geti (v := v17) rfl (hH.1 118 (17, 105) rfl) rfl (show (I16) 118 66 = _ from ((e_I16 118 rfl 66).trans q_v17)) ?_
          refine qm_Ru.go 2 (c' := (184, [.ref 118, .int i0, .int v8, .int v11, .int v12, .int v13, w14], [.int (v17 + 1), .ref 118], (h.1, I16, J10, h.2.2.2))) rfl ?_
          obtain ⟨v19, q_v19⟩ : ∃ v, (v17 + 1) = v := ⟨_, rfl⟩
          rw [q_v19]
          refine hk_puti rfl (hH.1 118 (17, 105) rfl) rfl ?_
          refine qm_Ru.go 2 (c' := (189, [.ref 118, .int i0, .int v8, .int v11, .int v12, .int v13, w14], [.int 0, .ref 118], (h.1, qm_up I16 118 66 v19, J10, h.2.2.2))) rfl ?_
          refine hk_inv (o := 118) (r := []) (as := [.ref 118, .int 0]) rfl rfl (hH.1 118 (17, 105) rfl) rfl rfl rfl rfl (hs_serves (h := (h.1, qm_up I16 118 66 v19, J10, h.2.2.2)) h6 hH (hb_up (o := 118) (k := 66) (x := v19) hB_I16 (qa_in_full _)) (dd := 0) ⟨by decide, by decide⟩ (by show qdis (pI (qm_up I16 118 66 v19) 159) ((qm_up I16 118 66 v19) 118 61).toInt; rw [show pI (qm_up I16 118 66 v19) 159 = pI h.2.1 159 from ((pI_sk rfl).trans ((funext fun i => congrArg Int32.toInt (e_I16 159 rfl i)).trans ((funext fun i => congrArg Int32.toInt (e 159 rfl i)).trans rfl))), show (qm_up I16 118 66 v19) 118 61 = h.2.1 118 61 from ((show (qm_up I16 118 66 v19) 118 61 = _ from ((hk_neq (by decide)).trans ((e_I16 118 rfl 61).trans ((e8 61 (by decide)).trans q_v2))))).trans q_v2.symm]; exact hd) (by show lev (lvl (qm_up I16 118 66 v19) 0) (pI (qm_up I16 118 66 v19) 159) ((qm_up I16 118 66 v19) 162 0).toInt ((qm_up I16 118 66 v19) 118 61).toInt; rw [show lvl (qm_up I16 118 66 v19) 0 = lvl I16 0 from (lv_sk rfl), show pI (qm_up I16 118 66 v19) 159 = pI h.2.1 159 from ((pI_sk rfl).trans ((funext fun i => congrArg Int32.toInt (e_I16 159 rfl i)).trans ((funext fun i => congrArg Int32.toInt (e 159 rfl i)).trans rfl))), show (qm_up I16 118 66 v19) 162 0 = I 162 0 from ((hk_ot rfl).trans (e_I16 162 rfl 0)), show (qm_up I16 118 66 v19) 118 61 = h.2.1 118 61 from ((show (qm_up I16 118 66 v19) 118 61 = _ from ((hk_neq (by decide)).trans ((e_I16 118 rfl 61).trans ((e8 61 (by decide)).trans q_v2))))).trans q_v2.symm]; exact ld) (fun I20 J21 hB_I20 e_I20 hl_I20 ho_I20 hs_I20 hg_I20 hz_I20 hn_I20 => ?_))
          have hl_I20 : lev (lvl I20 0) (pI (qm_up I16 118 66 v19) 159) (I20 162 0).toInt ((qm_up I16 118 66 v19) 118 61).toInt := hl_I20
          rw [show pI (qm_up I16 118 66 v19) 159 = pI h.2.1 159 from ((pI_sk rfl).trans ((funext fun i => congrArg Int32.toInt (e_I16 159 rfl i)).trans ((funext fun i => congrArg Int32.toInt (e 159 rfl i)).trans rfl))), show (qm_up I16 118 66 v19) 118 61 = h.2.1 118 61 from ((show (qm_up I16 118 66 v19) 118 61 = _ from ((hk_neq (by decide)).trans ((e_I16 118 rfl 61).trans ((e8 61 (by decide)).trans q_v2))))).trans q_v2.symm] at hl_I20
          have hg_I20 : ((qm_up I16 118 66 v19) 162 0).toInt ≤ (I20 162 0).toInt := hg_I20
          rw [show (qm_up I16 118 66 v19) 162 0 = I 162 0 from ((hk_ot rfl).trans (e_I16 162 rfl 0))] at hg_I20
          have hz_I20 : (I20 162 0).toInt = ((qm_up I16 118 66 v19) 162 0).toInt → ∀ i, I20 161 i = (qm_up I16 118 66 v19) 161 i := hz_I20
          rw [show (qm_up I16 118 66 v19) 162 0 = I 162 0 from ((hk_ot rfl).trans (e_I16 162 rfl 0))] at hz_I20
          have hn_I20 : ((qm_up I16 118 66 v19) 118 61).toInt ≤ (I20 162 0).toInt ∨ nxt (lvl I20 0) (pI (qm_up I16 118 66 v19) 159 (I20 162 0).toInt.toNat) := hn_I20
          rw [show pI (qm_up I16 118 66 v19) 159 = pI h.2.1 159 from ((pI_sk rfl).trans ((funext fun i => congrArg Int32.toInt (e_I16 159 rfl i)).trans ((funext fun i => congrArg Int32.toInt (e 159 rfl i)).trans rfl))), show (qm_up I16 118 66 v19) 118 61 = h.2.1 118 61 from ((show (qm_up I16 118 66 v19) 118 61 = _ from ((hk_neq (by decide)).trans ((e_I16 118 rfl 61).trans ((e8 61 (by decide)).trans q_v2))))).trans q_v2.symm] at hn_I20
          have e_I20 : ∀ o, [161, 162].contains o = false → ∀ i, I20 o i = (qm_up I16 118 66 v19) o i := e_I20
          refine qm_Ru.go 1 (c' := (23, [.ref 118, .int i0, .int v8, .int v11, .int v12, .int v13, w14], [], (h.1, I20, J21, h.2.2.2))) rfl ?_
          rw [q_v1] at hg_I20 hz_I20 hm
          have b5_I20 : (0 : Int) ≤ (I20 162 0).toInt ∧ (I20 162 0).toInt ≤ 12 := hB_I20 162 0
          by_cases ce : (I20 162 0).toInt = v1.toInt
          · have lz : lvl I20 0 = lvl I16 0 := (show lvl I20 0 = lvl (qm_up I16 118 66 v19) 0 from funext fun i => congrArg Int32.toInt (hz_I20 ce _)).trans (show lvl (qm_up I16 118 66 v19) 0 = lvl I16 0 from (lv_sk rfl))
            exact ih _ (by omega) (I20) (J21) (g - 1) (.int v8) (.int v11) (.int v12) (.int v13) w14 hB_I20 (fun o ho i => ((e_I20 o (hk_ms rfl ho) i).trans ((hk_mod ho rfl).trans ((e_I16 o (hk_ms rfl ho) i).trans (e o ho i))))) (fun i hi => ((e_I20 118 rfl i).trans ((hk_neq (by omega)).trans ((e_I16 118 rfl i).trans (e8 i hi))))) hl_I20 hn_I20 (fun _ => by rw [lz, ce]; show gst _ (h.2.1 159 _).toInt _; rw [q_v5]; exact gd) rfl
          · by_cases cq : (I20 162 0).toInt < (h.2.1 118 61).toInt
            · obtain ⟨s9, s94, s9c⟩ := hl_I20.2 (I20 162 0).toInt.toNat (by omega) (by omega)
              obtain ⟨g9, g94, g9c⟩ := gst_ex hl_I20.1 s94 s9c
              exact ih _ (by omega) (I20) (J21) g9 (.int v8) (.int v11) (.int v12) (.int v13) w14 hB_I20 (fun o ho i => ((e_I20 o (hk_ms rfl ho) i).trans ((hk_mod ho rfl).trans ((e_I16 o (hk_ms rfl ho) i).trans (e o ho i))))) (fun i hi => ((e_I20 118 rfl i).trans ((hk_neq (by omega)).trans ((e_I16 118 rfl i).trans (e8 i hi))))) hl_I20 hn_I20 (fun _ => g9c) rfl
            · exact ih _ (by omega) (I20) (J21) 0 (.int v8) (.int v11) (.int v12) (.int v13) w14 hB_I20 (fun o ho i => ((e_I20 o (hk_ms rfl ho) i).trans ((hk_mod ho rfl).trans ((e_I16 o (hk_ms rfl ho) i).trans (e o ho i))))) (fun i hi => ((e_I20 118 rfl i).trans ((hk_neq (by omega)).trans ((e_I16 118 rfl i).trans (e8 i hi))))) hl_I20 hn_I20 (fun c => absurd c cq) rfl
        · refine qm_Ru.go 4 (c' := (172, [.ref 118, .int i0, .int v8, .int v11, .int v12, .int v13, w14], [.int (10 * v8), .ref 118], (h.1, I16, J10, h.2.2.2))) rfl ?_
          obtain ⟨v22, q_v22, e_v22⟩ := hk_mul (x := 10) (y := v8) (a := 10) (b := v8.toInt) rfl rfl (by omega) (by omega)
          rw [q_v22]
          refine qm_Ru.go 2 (c' := (174, [.ref 118, .int i0, .int v8, .int v11, .int v12, .int v13, w14], [.int (v22 + v11), .ref 118], (h.1, I16, J10, h.2.2.2))) rfl ?_
          obtain ⟨v23, q_v23, e_v23⟩ := hk_add (x := v22) (y := v11) (a := v22.toInt) (b := v11.toInt) rfl rfl (by omega) (by omega)
          rw [q_v23]
          refine hk_puti rfl (hH.1 118 (17, 105) rfl) rfl ?_
          refine qm_Ru.go 2 (c' := (179, [.ref 118, .int i0, .int v8, .int v11, .int v12, .int v13, w14], [.ref 118, .ref 118], (h.1, qm_up I16 118 67 v23, J10, h.2.2.2))) rfl ?_
          refine hk_geti (v := v17) rfl (hH.1 118 (17, 105) rfl) rfl (show (qm_up I16 118 67 v23) 118 66 = _ from ((hk_neq (by decide)).trans ((e_I16 118 rfl 66).trans q_v17))) ?_
          refine qm_Ru.go 2 (c' := (184, [.ref 118, .int i0, .int v8, .int v11, .int v12, .int v13, w14], [.int (v17 + 1), .ref 118], (h.1, qm_up I16 118 67 v23, J10, h.2.2.2))) rfl ?_
          obtain ⟨v24, q_v24⟩ : ∃ v, (v17 + 1) = v := ⟨_, rfl⟩
          rw [q_v24]
          refine hk_puti rfl (hH.1 118 (17, 105) rfl) rfl ?_
          refine qm_Ru.go 2 (c' := (189, [.ref 118, .int i0, .int v8, .int v11, .int v12, .int v13, w14], [.int 0, .ref 118], (h.1, qm_up (qm_up I16 118 67 v23) 118 66 v24, J10, h.2.2.2))) rfl ?_
          refine hk_inv (o := 118) (r := []) (as := [.ref 118, .int 0]) rfl rfl (hH.1 118 (17, 105) rfl) rfl rfl rfl rfl (hs_serves (h := (h.1, qm_up (qm_up I16 118 67 v23) 118 66 v24, J10, h.2.2.2)) h6 hH (hb_up (o := 118) (k := 66) (x := v24) (hb_up (o := 118) (k := 67) (x := v23) hB_I16 (qa_in_full _)) (qa_in_full _)) (dd := 0) ⟨by decide, by decide⟩ (by show qdis (pI (qm_up (qm_up I16 118 67 v23) 118 66 v24) 159) ((qm_up (qm_up I16 118 67 v23) 118 66 v24) 118 61).toInt; rw [show pI (qm_up (qm_up I16 118 67 v23) 118 66 v24) 159 = pI h.2.1 159 from ((pI_sk rfl).trans ((pI_sk rfl).trans ((funext fun i => congrArg Int32.toInt (e_I16 159 rfl i)).trans ((funext fun i => congrArg Int32.toInt (e 159 rfl i)).trans rfl)))), show (qm_up (qm_up I16 118 67 v23) 118 66 v24) 118 61 = h.2.1 118 61 from ((show (qm_up (qm_up I16 118 67 v23) 118 66 v24) 118 61 = _ from ((hk_neq (by decide)).trans ((hk_neq (by decide)).trans ((e_I16 118 rfl 61).trans ((e8 61 (by decide)).trans q_v2)))))).trans q_v2.symm]; exact hd) (by show lev (lvl (qm_up (qm_up I16 118 67 v23) 118 66 v24) 0) (pI (qm_up (qm_up I16 118 67 v23) 118 66 v24) 159) ((qm_up (qm_up I16 118 67 v23) 118 66 v24) 162 0).toInt ((qm_up (qm_up I16 118 67 v23) 118 66 v24) 118 61).toInt; rw [show lvl (qm_up (qm_up I16 118 67 v23) 118 66 v24) 0 = lvl I16 0 from ((lv_sk rfl).trans (lv_sk rfl)), show pI (qm_up (qm_up I16 118 67 v23) 118 66 v24) 159 = pI h.2.1 159 from ((pI_sk rfl).trans ((pI_sk rfl).trans ((funext fun i => congrArg Int32.toInt (e_I16 159 rfl i)).trans ((funext fun i => congrArg Int32.toInt (e 159 rfl i)).trans rfl)))), show (qm_up (qm_up I16 118 67 v23) 118 66 v24) 162 0 = I 162 0 from ((hk_ot rfl).trans ((hk_ot rfl).trans (e_I16 162 rfl 0))), show (qm_up (qm_up I16 118 67 v23) 118 66 v24) 118 61 = h.2.1 118 61 from ((show (qm_up (qm_up I16 118 67 v23) 118 66 v24) 118 61 = _ from ((hk_neq (by decide)).trans ((hk_neq (by decide)).trans ((e_I16 118 rfl 61).trans ((e8 61 (by decide)).trans q_v2)))))).trans q_v2.symm]; exact ld) (fun I25 J26 hB_I25 e_I25 hl_I25 ho_I25 hs_I25 hg_I25 hz_I25 hn_I25 => ?_))
          have hl_I25 : lev (lvl I25 0) (pI (qm_up (qm_up I16 118 67 v23) 118 66 v24) 159) (I25 162 0).toInt ((qm_up (qm_up I16 118 67 v23) 118 66 v24) 118 61).toInt := hl_I25
          rw [show pI (qm_up (qm_up I16 118 67 v23) 118 66 v24) 159 = pI h.2.1 159 from ((pI_sk rfl).trans ((pI_sk rfl).trans ((funext fun i => congrArg Int32.toInt (e_I16 159 rfl i)).trans ((funext fun i => congrArg Int32.toInt (e 159 rfl i)).trans rfl)))), show (qm_up (qm_up I16 118 67 v23) 118 66 v24) 118 61 = h.2.1 118 61 from ((show (qm_up (qm_up I16 118 67 v23) 118 66 v24) 118 61 = _ from ((hk_neq (by decide)).trans ((hk_neq (by decide)).trans ((e_I16 118 rfl 61).trans ((e8 61 (by decide)).trans q_v2)))))).trans q_v2.symm] at hl_I25
          have hg_I25 : ((qm_up (qm_up I16 118 67 v23) 118 66 v24) 162 0).toInt ≤ (I25 162 0).toInt := hg_I25
          rw [show (qm_up (qm_up I16 118 67 v23) 118 66 v24) 162 0 = I 162 0 from ((hk_ot rfl).trans ((hk_ot rfl).trans (e_I16 162 rfl 0)))] at hg_I25
          have hz_I25 : (I25 162 0).toInt = ((qm_up (qm_up I16 118 67 v23) 118 66 v24) 162 0).toInt → ∀ i, I25 161 i = (qm_up (qm_up I16 118 67 v23) 118 66 v24) 161 i := hz_I25
          rw [show (qm_up (qm_up I16 118 67 v23) 118 66 v24) 162 0 = I 162 0 from ((hk_ot rfl).trans ((hk_ot rfl).trans (e_I16 162 rfl 0)))] at hz_I25
          have hn_I25 : ((qm_up (qm_up I16 118 67 v23) 118 66 v24) 118 61).toInt ≤ (I25 162 0).toInt ∨ nxt (lvl I25 0) (pI (qm_up (qm_up I16 118 67 v23) 118 66 v24) 159 (I25 162 0).toInt.toNat) := hn_I25
          rw [show pI (qm_up (qm_up I16 118 67 v23) 118 66 v24) 159 = pI h.2.1 159 from ((pI_sk rfl).trans ((pI_sk rfl).trans ((funext fun i => congrArg Int32.toInt (e_I16 159 rfl i)).trans ((funext fun i => congrArg Int32.toInt (e 159 rfl i)).trans rfl)))), show (qm_up (qm_up I16 118 67 v23) 118 66 v24) 118 61 = h.2.1 118 61 from ((show (qm_up (qm_up I16 118 67 v23) 118 66 v24) 118 61 = _ from ((hk_neq (by decide)).trans ((hk_neq (by decide)).trans ((e_I16 118 rfl 61).trans ((e8 61 (by decide)).trans q_v2)))))).trans q_v2.symm] at hn_I25
          have e_I25 : ∀ o, [161, 162].contains o = false → ∀ i, I25 o i = (qm_up (qm_up I16 118 67 v23) 118 66 v24) o i := e_I25
          refine qm_Ru.go 1 (c' := (23, [.ref 118, .int i0, .int v8, .int v11, .int v12, .int v13, w14], [], (h.1, I25, J26, h.2.2.2))) rfl ?_
          rw [q_v1] at hg_I25 hz_I25 hm
          have b5_I25 : (0 : Int) ≤ (I25 162 0).toInt ∧ (I25 162 0).toInt ≤ 12 := hB_I25 162 0
          by_cases ce : (I25 162 0).toInt = v1.toInt
          · have lz : lvl I25 0 = lvl I16 0 := (show lvl I25 0 = lvl (qm_up (qm_up I16 118 67 v23) 118 66 v24) 0 from funext fun i => congrArg Int32.toInt (hz_I25 ce _)).trans (show lvl (qm_up (qm_up I16 118 67 v23) 118 66 v24) 0 = lvl I16 0 from ((lv_sk rfl).trans (lv_sk rfl)))
            exact ih _ (by omega) (I25) (J26) (g - 1) (.int v8) (.int v11) (.int v12) (.int v13) w14 hB_I25 (fun o ho i => ((e_I25 o (hk_ms rfl ho) i).trans ((hk_mod ho rfl).trans ((hk_mod ho rfl).trans ((e_I16 o (hk_ms rfl ho) i).trans (e o ho i)))))) (fun i hi => ((e_I25 118 rfl i).trans ((hk_neq (by omega)).trans ((hk_neq (by omega)).trans ((e_I16 118 rfl i).trans (e8 i hi)))))) hl_I25 hn_I25 (fun _ => by rw [lz, ce]; show gst _ (h.2.1 159 _).toInt _; rw [q_v5]; exact gd) rfl
          · by_cases cq : (I25 162 0).toInt < (h.2.1 118 61).toInt
            · obtain ⟨s9, s94, s9c⟩ := hl_I25.2 (I25 162 0).toInt.toNat (by omega) (by omega)
              obtain ⟨g9, g94, g9c⟩ := gst_ex hl_I25.1 s94 s9c
              exact ih _ (by omega) (I25) (J26) g9 (.int v8) (.int v11) (.int v12) (.int v13) w14 hB_I25 (fun o ho i => ((e_I25 o (hk_ms rfl ho) i).trans ((hk_mod ho rfl).trans ((hk_mod ho rfl).trans ((e_I16 o (hk_ms rfl ho) i).trans (e o ho i)))))) (fun i hi => ((e_I25 118 rfl i).trans ((hk_neq (by omega)).trans ((hk_neq (by omega)).trans ((e_I16 118 rfl i).trans (e8 i hi)))))) hl_I25 hn_I25 (fun _ => g9c) rfl
            · exact ih _ (by omega) (I25) (J26) 0 (.int v8) (.int v11) (.int v12) (.int v13) w14 hB_I25 (fun o ho i => ((e_I25 o (hk_ms rfl ho) i).trans ((hk_mod ho rfl).trans ((hk_mod ho rfl).trans ((e_I16 o (hk_ms rfl ho) i).trans (e o ho i)))))) (fun i hi => ((e_I25 118 rfl i).trans ((hk_neq (by omega)).trans ((hk_neq (by omega)).trans ((e_I16 118 rfl i).trans (e8 i hi)))))) hl_I25 hn_I25 (fun c => absurd c cq) rfl
      · refine qm_Ru.go 1 (c' := (151, [.ref 118, .int i0, .int v8, .int v11, .int v12, .int v13, w14], [.int (-2)], (h.1, I, J10, h.2.2.2))) rfl ?_
        refine qm_Ru.rt (v := (some (.int (-2)))) (h' := (h.1, I, J10, h.2.2.2)) rfl ?_
        exact k ((-2)) (I) (J10) hBI (fun o ho i => (e o ho i)) (fun i hi => (e8 i hi))
