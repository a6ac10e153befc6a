/-! by hand -/
theorem hl_whold29 {L : Nat} {xs : Nat → Int32} {d : Nat} {Z : Option Value → qm_H → Prop} {h : qm_H} {w : Nat} (hH : hk_H h) (hB : hk_B h.2.1) (hw : 192 ≤ w) (hD : wd h w) (hl : (h.2.1 w 2).toInt ≤ 101) {s : Int32} (hs : (0 : Int) ≤ s.toInt ∧ s.toInt ≤ 15) (k : ∀ (v : Int32) (I : Nat → Nat → Int32) (J : Nat → Nat → Int64), (0 : Int) ≤ v.toInt ∧ v.toInt ≤ 1 → (∀ o, o < w + 2 ∨ w + 21 ≤ o → ∀ i, I o i = h.2.1 o i) → Z (some (.int v)) (h.1, I, J, h.2.2.2)) : ∀ (m : Nat) (I : Nat → Nat → Int32) (J : Nat → Nat → Int64) (tp i : Int32) (l5 : Value), (∀ o, o < w + 2 ∨ w + 21 ≤ o → ∀ i, I o i = h.2.1 o i) → (0 ≤ tp.toInt ∧ tp.toInt ≤ 18) → (0 ≤ i.toInt ∧ i.toInt ≤ 400) → (400 - i.toInt).toNat = m → qm_Ru (some (L, xs)) (d + 3) cd_123 (20, [.ref w, .ref 29, .int s, .int tp, .int i, l5], [], (h.1, I, J, h.2.2.2)) Z := by
  intro m
  induction m using Nat.strongRecOn with
  | ind m ih =>
    intro I J tp i l5 e ht hi hm
    refine qm_Ru.go 2 (c' := (23, [.ref w, .ref 29, .int s, .int tp, .int i, l5], [.ref 29, .int i], (h.1, I, J, h.2.2.2))) rfl ?_
    refine hk_getr rfl (hH.1 29 (11, 16) rfl) rfl (hH.2 29 10 (some 32) rfl) ?_
    refine qm_Ru.go 1 (c' := (27, [.ref w, .ref 29, .int s, .int tp, .int i, l5], [.int s, .ref 32, .int i], (h.1, I, J, h.2.2.2))) rfl ?_
    obtain ⟨v1, q_v1⟩ : ∃ v, h.2.1 32 (s.toInt.toNat) = v := ⟨_, rfl⟩
    have b_v1 : (0 : Int) ≤ v1.toInt ∧ v1.toInt ≤ 400 := by rw [← q_v1]; exact hB 32 (s.toInt.toNat)
    refine hk_ial (v := v1) rfl (hH.1 32 (0, 16) rfl) (by omega) (by omega) (show (I) 32 (s.toInt.toNat) = _ from ((e 32 (Or.inl (by omega)) (s.toInt.toNat)).trans q_v1)) ?_
    refine qm_Ru.go 0 (c' := (28, [.ref w, .ref 29, .int s, .int tp, .int i, l5], [.int v1, .int i], (h.1, I, J, h.2.2.2))) rfl ?_
    refine hk_cge (ix := i.toInt) (iy := v1.toInt) rfl rfl rfl (fun z2 => ?_) (fun z2 => ?_)
    · refine qm_Ru.go 1 (c' := (152, [.ref w, .ref 29, .int s, .int tp, .int i, l5], [.ref w], (h.1, I, J, h.2.2.2))) rfl ?_
      refine hk_getr rfl hD.1 rfl hD.2.2.1 ?_
      refine qm_Ru.go 1 (c' := (156, [.ref w, .ref 29, .int s, .int tp, .int i, l5], [.int 0, .ref (w + 1)], (h.1, I, J, h.2.2.2))) rfl ?_
      refine hk_aal rfl hD.2.1 (by decide) (by decide) (hD.2.2.2.2.1 0 (by decide)) ?_
      refine qm_Ru.go 1 (c' := (158, [.ref w, .ref 29, .int s, .int tp, .int i, l5], [.int 0, .ref (w + 2 + 0)], (h.1, I, J, h.2.2.2))) rfl ?_
      obtain ⟨v3, q_v3⟩ : ∃ v, (I) (w + 2 + 0) 0 = v := ⟨_, rfl⟩
      refine hk_ial (v := v3) rfl (hD.2.2.2.2.2 _ (by omega) (by omega)) (by decide) (by decide) q_v3 ?_
      refine qm_Ru.go 1 (c' := (160, [.ref w, .ref 29, .int s, .int tp, .int i, l5], [.int 1, .int v3], (h.1, I, J, h.2.2.2))) rfl ?_
      refine hk_cne (ix := v3.toInt) (iy := 1) rfl rfl rfl (fun z4 => ?_) (fun z4 => ?_)
      · refine qm_Ru.go 1 (c' := (168, [.ref w, .ref 29, .int s, .int tp, .int i, l5], [.int 0], (h.1, I, J, h.2.2.2))) rfl ?_
        refine qm_Ru.rt (v := (some (.int 0))) (h' := (h.1, I, J, h.2.2.2)) rfl ?_
        exact k 0 (I) (J) (by decide) (fun o ho i => (e o ho i))
      · refine qm_Ru.go 2 (c' := (168, [.ref w, .ref 29, .int s, .int tp, .int i, l5], [.int 1], (h.1, I, J, h.2.2.2))) rfl ?_
        refine qm_Ru.rt (v := (some (.int 1))) (h' := (h.1, I, J, h.2.2.2)) rfl ?_
        exact k 1 (I) (J) (by decide) (fun o ho i => (e o ho i))
    · refine qm_Ru.go 1 (c' := (32, [.ref w, .ref 29, .int s, .int tp, .int i, l5], [.ref 29], (h.1, I, J, h.2.2.2))) rfl ?_
      refine hk_getr rfl (hH.1 29 (11, 16) rfl) rfl (hH.2 29 8 (some 30) rfl) ?_
      refine qm_Ru.go 1 (c' := (37, [.ref w, .ref 29, .int s, .int tp, .int i, l5], [.int i, .ref 30], (h.1, I, J, h.2.2.2))) rfl ?_
      obtain ⟨v5, q_v5⟩ : ∃ v, h.2.1 30 (i.toInt.toNat) = v := ⟨_, rfl⟩
      refine hk_ial (v := v5) rfl (hH.1 30 (0, 400) rfl) (by omega) (by omega) (show (I) 30 (i.toInt.toNat) = _ from ((e 30 (Or.inl (by omega)) (i.toInt.toNat)).trans q_v5)) ?_
      refine qm_Ru.go 2 (c' := (42, [.ref w, .ref 29, .int s, .int tp, .int i, .int v5], [.int v5], (h.1, I, J, h.2.2.2))) rfl ?_
      refine qm_Ru.call (j := 58) (as := [.int v5]) (c' := (45, [.ref w, .ref 29, .int s, .int tp, .int i, .int v5], [], (h.1, I, J, h.2.2.2))) rfl rfl rfl ?_
      refine qm_Ru.go 1 (c' := (1, [.int v5], [.int v5], (h.1, I, J, h.2.2.2))) rfl ?_
      refine hk_zge (ix := v5.toInt) rfl rfl (fun z6 => ?_) (fun z6 => ?_)
      · refine qm_Ru.go 2 (c' := (18, [.int v5], [.int 1], (h.1, I, J, h.2.2.2))) rfl ?_
        refine qm_Ru.rt (v := (some (.int 1))) (h' := (h.1, I, J, h.2.2.2)) rfl ?_
        refine qm_Ru.go 3 (c' := (50, [.ref w, .ref 29, .int s, .int tp, .int i, .int v5], [.ref w, .int tp], (h.1, I, J, h.2.2.2))) rfl ?_
        refine hk_getr rfl hD.1 rfl hD.2.2.1 ?_
        refine qm_Ru.go 0 (c' := (53, [.ref w, .ref 29, .int s, .int tp, .int i, .int v5], [.ref (w + 1), .int tp], (h.1, I, J, h.2.2.2))) rfl ?_
        refine hk_len rfl hD.2.1 rfl ?_
        refine qm_Ru.go 0 (c' := (54, [.ref w, .ref 29, .int s, .int tp, .int i, .int v5], [.int 18, .int tp], (h.1, I, J, h.2.2.2))) rfl ?_
        refine hk_cge (ix := tp.toInt) (iy := 18) rfl rfl rfl (fun z7 => ?_) (fun z7 => ?_)
        · refine qm_Ru.go 2 (c' := (83, [.ref w, .ref 29, .int s, .int tp, .int i, .int v5], [.int (-12), .int v5], (h.1, I, J, h.2.2.2))) rfl ?_
          refine hk_cne (ix := v5.toInt) (iy := (-12)) rfl rfl rfl (fun z8 => ?_) (fun z8 => by exfalso; omega)
          refine qm_Ru.go 2 (c' := (117, [.ref w, .ref 29, .int s, .int tp, .int i, .int v5], [.int 1, .int tp], (h.1, I, J, h.2.2.2))) rfl ?_
          refine hk_cle (ix := tp.toInt) (iy := 1) rfl rfl rfl (fun z9 => by exfalso; omega) (fun z9 => ?_)
          refine qm_Ru.go 1 (c' := (123, [.ref w, .ref 29, .int s, .int (tp + (-1)), .int i, .int v5], [], (h.1, I, J, h.2.2.2))) rfl ?_
          obtain ⟨v10, q_v10, e_v10⟩ := hk_add (x := tp) (y := (-1)) (a := tp.toInt) (b := (-1)) rfl rfl (by omega) (by omega)
          rw [q_v10]
          refine qm_Ru.go 4 (c' := (128, [.ref w, .ref 29, .int s, .int v10, .int i, .int v5], [.int (v5 ^^^ (-1)), .ref w], (h.1, I, J, h.2.2.2))) rfl ?_
          obtain ⟨v11, q_v11⟩ : ∃ v, (v5 ^^^ (-1)) = v := ⟨_, rfl⟩
          rw [q_v11]
          refine qm_Ru.go 1 (c' := (129, [.ref w, .ref 29, .int s, .int v10, .int i, .int v5], [.ref w, .int v11, .ref w], (h.1, I, J, h.2.2.2))) rfl ?_
          refine hk_getr rfl hD.1 rfl hD.2.2.1 ?_
          refine qm_Ru.go 3 (c' := (135, [.ref w, .ref 29, .int s, .int v10, .int i, .int v5], [.int (v10 - 1), .ref (w + 1), .int v11, .ref w], (h.1, I, J, h.2.2.2))) rfl ?_
          obtain ⟨v12, q_v12, e_v12⟩ := hk_sub (x := v10) (y := 1) (a := v10.toInt) (b := 1) rfl rfl (by omega) (by omega)
          rw [q_v12]
          refine hk_aal rfl hD.2.1 (by omega) (by omega) (hD.2.2.2.2.1 _ (by omega)) ?_
          refine qm_Ru.go 1 (c' := (137, [.ref w, .ref 29, .int s, .int v10, .int i, .int v5], [.ref w, .ref (w + 2 + v12.toInt.toNat), .int v11, .ref w], (h.1, I, J, h.2.2.2))) rfl ?_
          refine hk_getr rfl hD.1 rfl hD.2.2.1 ?_
          refine qm_Ru.go 1 (c' := (141, [.ref w, .ref 29, .int s, .int v10, .int i, .int v5], [.int v10, .ref (w + 1), .ref (w + 2 + v12.toInt.toNat), .int v11, .ref w], (h.1, I, J, h.2.2.2))) rfl ?_
          refine hk_aal rfl hD.2.1 (by omega) (by omega) (hD.2.2.2.2.1 _ (by omega)) ?_
          refine qm_Ru.go 0 (c' := (142, [.ref w, .ref 29, .int s, .int v10, .int i, .int v5], [.ref (w + 2 + v10.toInt.toNat), .ref (w + 2 + v12.toInt.toNat), .int v11, .ref w], (h.1, I, J, h.2.2.2))) rfl ?_
          refine hk_inv (o := w) (r := []) (as := [.ref w, .int v11, .ref (w + 2 + v12.toInt.toNat), .ref (w + 2 + v10.toInt.toNat)]) rfl rfl hD.1 rfl rfl rfl rfl (hs_wjoin (h := (h.1, I, J, h.2.2.2)) (w := w) (a := (w + 2 + v12.toInt.toNat)) (b := (w + 2 + v10.toInt.toNat)) hw (wd_same hD rfl rfl) (by show (I w 2).toInt ≤ 101; rw [show I w 2 = h.2.1 w 2 from (fun o ho i => (e o ho i)) w (Or.inl (by omega)) 2]; exact hl) (by omega) (by omega) (fun I13 J14 fe15 => ?_))
          have e15 : ∀ o, o < w + 2 ∨ w + 21 ≤ o → ∀ i, I13 o i = h.2.1 o i := fun o ho i => (fe15 o ho i).trans ((fun o ho i => (e o ho i)) o ho i)
          refine qm_Ru.go 1 (c' := (148, [.ref w, .ref 29, .int s, .int v10, .int (i + 1), .int v5], [], (h.1, I13, J14, h.2.2.2))) rfl ?_
          obtain ⟨v16, q_v16, e_v16⟩ := hk_add (x := i) (y := 1) (a := i.toInt) (b := 1) rfl rfl (by omega) (by omega)
          rw [q_v16]
          refine qm_Ru.go 1 (c' := (20, [.ref w, .ref 29, .int s, .int v10, .int v16, .int v5], [], (h.1, I13, J14, h.2.2.2))) rfl ?_
          exact ih _ (by omega) (I13) (J14) v10 v16 (.int v5) (fun o ho i => (e15 o ho i)) (by omega) (by omega) rfl
        · refine qm_Ru.go 2 (c' := (59, [.ref w, .ref 29, .int s, .int tp, .int i, .int v5], [.ref w, .ref w], (h.1, I, J, h.2.2.2))) rfl ?_
          refine hk_getr rfl hD.1 rfl hD.2.2.1 ?_
          refine qm_Ru.go 1 (c' := (63, [.ref w, .ref 29, .int s, .int tp, .int i, .int v5], [.int tp, .ref (w + 1), .ref w], (h.1, I, J, h.2.2.2))) rfl ?_
          refine hk_aal rfl hD.2.1 (by omega) (by omega) (hD.2.2.2.2.1 _ (by omega)) ?_
          refine qm_Ru.go 2 (c' := (67, [.ref w, .ref 29, .int s, .int tp, .int i, .int v5], [.int v5, .ref 29, .ref (w + 2 + tp.toInt.toNat), .ref w], (h.1, I, J, h.2.2.2))) rfl ?_
          refine hk_inv (o := 29) (r := [.ref (w + 2 + tp.toInt.toNat), .ref w]) (as := [.ref 29, .int v5]) rfl rfl (hH.1 29 (11, 16) rfl) rfl rfl rfl rfl ?_
          refine qm_Ru.go 1 (c' := (1, [.ref 29, .int v5], [.int v5], (h.1, I, J, h.2.2.2))) rfl ?_
          refine hk_zlt (ix := v5.toInt) rfl rfl (fun z17 => by exfalso; omega) (fun z17 => ?_)
          refine qm_Ru.go 2 (c' := (19, [.ref 29, .int v5], [.int v5], (h.1, I, J, h.2.2.2))) rfl ?_
          refine qm_Ru.rt (v := (some (.int v5))) (h' := (h.1, I, J, h.2.2.2)) rfl ?_
          refine qm_Ru.go 0 (c' := (70, [.ref w, .ref 29, .int s, .int tp, .int i, .int v5], [.int v5, .ref (w + 2 + tp.toInt.toNat), .ref w], (h.1, I, J, h.2.2.2))) rfl ?_
          refine hk_inv (o := w) (r := []) (as := [.ref w, .ref (w + 2 + tp.toInt.toNat), .int v5]) rfl rfl hD.1 rfl rfl rfl rfl (hs_wwr (h := (h.1, I, J, h.2.2.2)) (w := w) (a := (w + 2 + tp.toInt.toNat)) hw (wd_same hD rfl rfl) (by show (I w 2).toInt ≤ 101; rw [show I w 2 = h.2.1 w 2 from (fun o ho i => (e o ho i)) w (Or.inl (by omega)) 2]; exact hl) (by omega) (fun I18 J19 fe20 => ?_))
          have e20 : ∀ o, o < w + 2 ∨ w + 21 ≤ o → ∀ i, I18 o i = h.2.1 o i := fun o ho i => (fe20 o ho i).trans ((fun o ho i => (e o ho i)) o ho i)
          refine qm_Ru.go 1 (c' := (76, [.ref w, .ref 29, .int s, .int (tp + 1), .int i, .int v5], [], (h.1, I18, J19, h.2.2.2))) rfl ?_
          obtain ⟨v21, q_v21, e_v21⟩ := hk_add (x := tp) (y := 1) (a := tp.toInt) (b := 1) rfl rfl (by omega) (by omega)
          rw [q_v21]
          refine qm_Ru.go 2 (c' := (148, [.ref w, .ref 29, .int s, .int v21, .int (i + 1), .int v5], [], (h.1, I18, J19, h.2.2.2))) rfl ?_
          obtain ⟨v22, q_v22, e_v22⟩ := hk_add (x := i) (y := 1) (a := i.toInt) (b := 1) rfl rfl (by omega) (by omega)
          rw [q_v22]
          refine qm_Ru.go 1 (c' := (20, [.ref w, .ref 29, .int s, .int v21, .int v22, .int v5], [], (h.1, I18, J19, h.2.2.2))) rfl ?_
          exact ih _ (by omega) (I18) (J19) v21 v22 (.int v5) (fun o ho i => (e20 o ho i)) (by omega) (by omega) rfl
      · refine qm_Ru.go 3 (c' := (7, [.int v5], [.int (v5 ^^^ (-1))], (h.1, I, J, h.2.2.2))) rfl ?_
        obtain ⟨v23, q_v23⟩ : ∃ v, (v5 ^^^ (-1)) = v := ⟨_, rfl⟩
        rw [q_v23]
        refine qm_Ru.call (j := 33) (as := [.int v23]) (c' := (10, [.int v5], [], (h.1, I, J, h.2.2.2))) rfl rfl rfl ?_
        refine qm_Ru.go 2 (c' := (3, [.int v23], [.int 12, .int v23], (h.1, I, J, h.2.2.2))) rfl ?_
        refine hk_clt (ix := v23.toInt) (iy := 12) rfl rfl rfl (fun z24 => ?_) (fun z24 => ?_)
        · refine qm_Ru.go 1 (c' := (17, [.int v23], [.int 0], (h.1, I, J, h.2.2.2))) rfl ?_
          refine qm_Ru.rt (v := (some (.int 0))) (h' := (h.1, I, J, h.2.2.2)) rfl ?_
          refine qm_Ru.go 2 (c' := (18, [.int v5], [.int 0], (h.1, I, J, h.2.2.2))) rfl ?_
          refine qm_Ru.rt (v := (some (.int 0))) (h' := (h.1, I, J, h.2.2.2)) rfl ?_
          refine qm_Ru.go 3 (c' := (83, [.ref w, .ref 29, .int s, .int tp, .int i, .int v5], [.int (-12), .int v5], (h.1, I, J, h.2.2.2))) rfl ?_
          refine hk_cne (ix := v5.toInt) (iy := (-12)) rfl rfl rfl (fun z25 => ?_) (fun z25 => ?_)
          · refine qm_Ru.go 2 (c' := (117, [.ref w, .ref 29, .int s, .int tp, .int i, .int v5], [.int 1, .int tp], (h.1, I, J, h.2.2.2))) rfl ?_
            refine hk_cle (ix := tp.toInt) (iy := 1) rfl rfl rfl (fun z26 => ?_) (fun z26 => ?_)
            · refine qm_Ru.go 1 (c' := (148, [.ref w, .ref 29, .int s, .int tp, .int (i + 1), .int v5], [], (h.1, I, J, h.2.2.2))) rfl ?_
              obtain ⟨v27, q_v27, e_v27⟩ := hk_add (x := i) (y := 1) (a := i.toInt) (b := 1) rfl rfl (by omega) (by omega)
              rw [q_v27]
              refine qm_Ru.go 1 (c' := (20, [.ref w, .ref 29, .int s, .int tp, .int v27, .int v5], [], (h.1, I, J, h.2.2.2))) rfl ?_
              exact ih _ (by omega) (I) (J) tp v27 (.int v5) (fun o ho i => (e o ho i)) (by omega) (by omega) rfl
            · refine qm_Ru.go 1 (c' := (123, [.ref w, .ref 29, .int s, .int (tp + (-1)), .int i, .int v5], [], (h.1, I, J, h.2.2.2))) rfl ?_
              obtain ⟨v28, q_v28, e_v28⟩ := hk_add (x := tp) (y := (-1)) (a := tp.toInt) (b := (-1)) rfl rfl (by omega) (by omega)
              rw [q_v28]
              refine qm_Ru.go 4 (c' := (128, [.ref w, .ref 29, .int s, .int v28, .int i, .int v5], [.int (v5 ^^^ (-1)), .ref w], (h.1, I, J, h.2.2.2))) rfl ?_
              rw [q_v23]
              refine qm_Ru.go 1 (c' := (129, [.ref w, .ref 29, .int s, .int v28, .int i, .int v5], [.ref w, .int v23, .ref w], (h.1, I, J, h.2.2.2))) rfl ?_
              refine hk_getr rfl hD.1 rfl hD.2.2.1 ?_
              refine qm_Ru.go 3 (c' := (135, [.ref w, .ref 29, .int s, .int v28, .int i, .int v5], [.int (v28 - 1), .ref (w + 1), .int v23, .ref w], (h.1, I, J, h.2.2.2))) rfl ?_
              obtain ⟨v30, q_v30, e_v30⟩ := hk_sub (x := v28) (y := 1) (a := v28.toInt) (b := 1) rfl rfl (by omega) (by omega)
              rw [q_v30]
              refine hk_aal rfl hD.2.1 (by omega) (by omega) (hD.2.2.2.2.1 _ (by omega)) ?_
              refine qm_Ru.go 1 (c' := (137, [.ref w, .ref 29, .int s, .int v28, .int i, .int v5], [.ref w, .ref (w + 2 + v30.toInt.toNat), .int v23, .ref w], (h.1, I, J, h.2.2.2))) rfl ?_
              refine hk_getr rfl hD.1 rfl hD.2.2.1 ?_
              refine qm_Ru.go 1 (c' := (141, [.ref w, .ref 29, .int s, .int v28, .int i, .int v5], [.int v28, .ref (w + 1), .ref (w + 2 + v30.toInt.toNat), .int v23, .ref w], (h.1, I, J, h.2.2.2))) rfl ?_
              refine hk_aal rfl hD.2.1 (by omega) (by omega) (hD.2.2.2.2.1 _ (by omega)) ?_
              refine qm_Ru.go 0 (c' := (142, [.ref w, .ref 29, .int s, .int v28, .int i, .int v5], [.ref (w + 2 + v28.toInt.toNat), .ref (w + 2 + v30.toInt.toNat), .int v23, .ref w], (h.1, I, J, h.2.2.2))) rfl ?_
              refine hk_inv (o := w) (r := []) (as := [.ref w, .int v23, .ref (w + 2 + v30.toInt.toNat), .ref (w + 2 + v28.toInt.toNat)]) rfl rfl hD.1 rfl rfl rfl rfl (hs_wjoin (h := (h.1, I, J, h.2.2.2)) (w := w) (a := (w + 2 + v30.toInt.toNat)) (b := (w + 2 + v28.toInt.toNat)) hw (wd_same hD rfl rfl) (by show (I w 2).toInt ≤ 101; rw [show I w 2 = h.2.1 w 2 from (fun o ho i => (e o ho i)) w (Or.inl (by omega)) 2]; exact hl) (by omega) (by omega) (fun I31 J32 fe33 => ?_))
              have e33 : ∀ o, o < w + 2 ∨ w + 21 ≤ o → ∀ i, I31 o i = h.2.1 o i := fun o ho i => (fe33 o ho i).trans ((fun o ho i => (e o ho i)) o ho i)
              refine qm_Ru.go 1 (c' := (148, [.ref w, .ref 29, .int s, .int v28, .int (i + 1), .int v5], [], (h.1, I31, J32, h.2.2.2))) rfl ?_
              obtain ⟨v34, q_v34, e_v34⟩ := hk_add (x := i) (y := 1) (a := i.toInt) (b := 1) rfl rfl (by omega) (by omega)
              rw [q_v34]
              refine qm_Ru.go 1 (c' := (20, [.ref w, .ref 29, .int s, .int v28, .int v34, .int v5], [], (h.1, I31, J32, h.2.2.2))) rfl ?_
              exact ih _ (by omega) (I31) (J32) v28 v34 (.int v5) (fun o ho i => (e33 o ho i)) (by omega) (by omega) rfl
          · refine qm_Ru.go 1 (c' := (87, [.ref w, .ref 29, .int s, .int tp, .int i, .int v5], [.int tp], (h.1, I, J, h.2.2.2))) rfl ?_
            refine hk_zle (ix := tp.toInt) rfl rfl (fun z35 => ?_) (fun z35 => ?_)
            · refine qm_Ru.go 2 (c' := (117, [.ref w, .ref 29, .int s, .int tp, .int i, .int v5], [.int 1, .int tp], (h.1, I, J, h.2.2.2))) rfl ?_
              refine hk_cle (ix := tp.toInt) (iy := 1) rfl rfl rfl (fun z36 => ?_) (fun z36 => by exfalso; omega)
              refine qm_Ru.go 1 (c' := (148, [.ref w, .ref 29, .int s, .int tp, .int (i + 1), .int v5], [], (h.1, I, J, h.2.2.2))) rfl ?_
              obtain ⟨v37, q_v37, e_v37⟩ := hk_add (x := i) (y := 1) (a := i.toInt) (b := 1) rfl rfl (by omega) (by omega)
              rw [q_v37]
              refine qm_Ru.go 1 (c' := (20, [.ref w, .ref 29, .int s, .int tp, .int v37, .int v5], [], (h.1, I, J, h.2.2.2))) rfl ?_
              exact ih _ (by omega) (I) (J) tp v37 (.int v5) (fun o ho i => (e o ho i)) (by omega) (by omega) rfl
            · refine qm_Ru.go 1 (c' := (91, [.ref w, .ref 29, .int s, .int tp, .int i, .int v5], [.ref w], (h.1, I, J, h.2.2.2))) rfl ?_
              refine hk_getr rfl hD.1 rfl hD.2.2.1 ?_
              refine qm_Ru.go 3 (c' := (97, [.ref w, .ref 29, .int s, .int tp, .int i, .int v5], [.int (tp - 1), .ref (w + 1)], (h.1, I, J, h.2.2.2))) rfl ?_
              obtain ⟨v38, q_v38, e_v38⟩ := hk_sub (x := tp) (y := 1) (a := tp.toInt) (b := 1) rfl rfl (by omega) (by omega)
              rw [q_v38]
              refine hk_aal rfl hD.2.1 (by omega) (by omega) (hD.2.2.2.2.1 _ (by omega)) ?_
              refine qm_Ru.go 3 (c' := (101, [.ref w, .ref 29, .int s, .int tp, .int i, .int v5], [.ref w, .int 1, .int 0, .ref (w + 2 + v38.toInt.toNat)], (h.1, I, J, h.2.2.2))) rfl ?_
              refine hk_getr rfl hD.1 rfl hD.2.2.1 ?_
              refine qm_Ru.go 3 (c' := (107, [.ref w, .ref 29, .int s, .int tp, .int i, .int v5], [.int (tp - 1), .ref (w + 1), .int 1, .int 0, .ref (w + 2 + v38.toInt.toNat)], (h.1, I, J, h.2.2.2))) rfl ?_
              rw [q_v38]
              refine hk_aal rfl hD.2.1 (by omega) (by omega) (hD.2.2.2.2.1 _ (by omega)) ?_
              refine qm_Ru.go 1 (c' := (109, [.ref w, .ref 29, .int s, .int tp, .int i, .int v5], [.int 0, .ref (w + 2 + v38.toInt.toNat), .int 1, .int 0, .ref (w + 2 + v38.toInt.toNat)], (h.1, I, J, h.2.2.2))) rfl ?_
              obtain ⟨v40, q_v40⟩ : ∃ v, (I) (w + 2 + v38.toInt.toNat) 0 = v := ⟨_, rfl⟩
              refine hk_ial (v := v40) rfl (hD.2.2.2.2.2 _ (by omega) (by omega)) (by decide) (by decide) q_v40 ?_
              refine qm_Ru.go 1 (c' := (111, [.ref w, .ref 29, .int s, .int tp, .int i, .int v5], [.int (1 - v40), .int 0, .ref (w + 2 + v38.toInt.toNat)], (h.1, I, J, h.2.2.2))) rfl ?_
              obtain ⟨v41, q_v41⟩ : ∃ v, (1 - v40) = v := ⟨_, rfl⟩
              rw [q_v41]
              refine hk_ias rfl (hD.2.2.2.2.2 _ (by omega) (by omega)) (by decide) (by decide) ?_
              refine qm_Ru.go 2 (c' := (148, [.ref w, .ref 29, .int s, .int tp, .int (i + 1), .int v5], [], (h.1, qm_up I (w + 2 + v38.toInt.toNat) 0 v41, J, h.2.2.2))) rfl ?_
              obtain ⟨v42, q_v42, e_v42⟩ := hk_add (x := i) (y := 1) (a := i.toInt) (b := 1) rfl rfl (by omega) (by omega)
              rw [q_v42]
              refine qm_Ru.go 1 (c' := (20, [.ref w, .ref 29, .int s, .int tp, .int v42, .int v5], [], (h.1, qm_up I (w + 2 + v38.toInt.toNat) 0 v41, J, h.2.2.2))) rfl ?_
              exact ih _ (by omega) (qm_up I (w + 2 + v38.toInt.toNat) 0 v41) (J) tp v42 (.int v5) (fun o ho i => ((hk_on (by omega)).trans (e o ho i))) (by omega) (by omega) rfl
        · refine qm_Ru.go 2 (c' := (9, [.int v23], [.int 24, .int v23], (h.1, I, J, h.2.2.2))) rfl ?_
          refine hk_cgt (ix := v23.toInt) (iy := 24) rfl rfl rfl (fun z43 => ?_) (fun z43 => ?_)
          · refine qm_Ru.go 1 (c' := (17, [.int v23], [.int 0], (h.1, I, J, h.2.2.2))) rfl ?_
            refine qm_Ru.rt (v := (some (.int 0))) (h' := (h.1, I, J, h.2.2.2)) rfl ?_
            refine qm_Ru.go 2 (c' := (18, [.int v5], [.int 0], (h.1, I, J, h.2.2.2))) rfl ?_
            refine qm_Ru.rt (v := (some (.int 0))) (h' := (h.1, I, J, h.2.2.2)) rfl ?_
            refine qm_Ru.go 3 (c' := (83, [.ref w, .ref 29, .int s, .int tp, .int i, .int v5], [.int (-12), .int v5], (h.1, I, J, h.2.2.2))) rfl ?_
            refine hk_cne (ix := v5.toInt) (iy := (-12)) rfl rfl rfl (fun z44 => ?_) (fun z44 => ?_)
            · refine qm_Ru.go 2 (c' := (117, [.ref w, .ref 29, .int s, .int tp, .int i, .int v5], [.int 1, .int tp], (h.1, I, J, h.2.2.2))) rfl ?_
              refine hk_cle (ix := tp.toInt) (iy := 1) rfl rfl rfl (fun z45 => ?_) (fun z45 => ?_)
              · refine qm_Ru.go 1 (c' := (148, [.ref w, .ref 29, .int s, .int tp, .int (i + 1), .int v5], [], (h.1, I, J, h.2.2.2))) rfl ?_
                obtain ⟨v46, q_v46, e_v46⟩ := hk_add (x := i) (y := 1) (a := i.toInt) (b := 1) rfl rfl (by omega) (by omega)
                rw [q_v46]
                refine qm_Ru.go 1 (c' := (20, [.ref w, .ref 29, .int s, .int tp, .int v46, .int v5], [], (h.1, I, J, h.2.2.2))) rfl ?_
                exact ih _ (by omega) (I) (J) tp v46 (.int v5) (fun o ho i => (e o ho i)) (by omega) (by omega) rfl
              · refine qm_Ru.go 1 (c' := (123, [.ref w, .ref 29, .int s, .int (tp + (-1)), .int i, .int v5], [], (h.1, I, J, h.2.2.2))) rfl ?_
                obtain ⟨v47, q_v47, e_v47⟩ := hk_add (x := tp) (y := (-1)) (a := tp.toInt) (b := (-1)) rfl rfl (by omega) (by omega)
                rw [q_v47]
                refine qm_Ru.go 4 (c' := (128, [.ref w, .ref 29, .int s, .int v47, .int i, .int v5], [.int (v5 ^^^ (-1)), .ref w], (h.1, I, J, h.2.2.2))) rfl ?_
                rw [q_v23]
                refine qm_Ru.go 1 (c' := (129, [.ref w, .ref 29, .int s, .int v47, .int i, .int v5], [.ref w, .int v23, .ref w], (h.1, I, J, h.2.2.2))) rfl ?_
                refine hk_getr rfl hD.1 rfl hD.2.2.1 ?_
                refine qm_Ru.go 3 (c' := (135, [.ref w, .ref 29, .int s, .int v47, .int i, .int v5], [.int (v47 - 1), .ref (w + 1), .int v23, .ref w], (h.1, I, J, h.2.2.2))) rfl ?_
                obtain ⟨v49, q_v49, e_v49⟩ := hk_sub (x := v47) (y := 1) (a := v47.toInt) (b := 1) rfl rfl (by omega) (by omega)
                rw [q_v49]
                refine hk_aal rfl hD.2.1 (by omega) (by omega) (hD.2.2.2.2.1 _ (by omega)) ?_
                refine qm_Ru.go 1 (c' := (137, [.ref w, .ref 29, .int s, .int v47, .int i, .int v5], [.ref w, .ref (w + 2 + v49.toInt.toNat), .int v23, .ref w], (h.1, I, J, h.2.2.2))) rfl ?_
                refine hk_getr rfl hD.1 rfl hD.2.2.1 ?_
                refine qm_Ru.go 1 (c' := (141, [.ref w, .ref 29, .int s, .int v47, .int i, .int v5], [.int v47, .ref (w + 1), .ref (w + 2 + v49.toInt.toNat), .int v23, .ref w], (h.1, I, J, h.2.2.2))) rfl ?_
                refine hk_aal rfl hD.2.1 (by omega) (by omega) (hD.2.2.2.2.1 _ (by omega)) ?_
                refine qm_Ru.go 0 (c' := (142, [.ref w, .ref 29, .int s, .int v47, .int i, .int v5], [.ref (w + 2 + v47.toInt.toNat), .ref (w + 2 + v49.toInt.toNat), .int v23, .ref w], (h.1, I, J, h.2.2.2))) rfl ?_
                refine hk_inv (o := w) (r := []) (as := [.ref w, .int v23, .ref (w + 2 + v49.toInt.toNat), .ref (w + 2 + v47.toInt.toNat)]) rfl rfl hD.1 rfl rfl rfl rfl (hs_wjoin (h := (h.1, I, J, h.2.2.2)) (w := w) (a := (w + 2 + v49.toInt.toNat)) (b := (w + 2 + v47.toInt.toNat)) hw (wd_same hD rfl rfl) (by show (I w 2).toInt ≤ 101; rw [show I w 2 = h.2.1 w 2 from (fun o ho i => (e o ho i)) w (Or.inl (by omega)) 2]; exact hl) (by omega) (by omega) (fun I50 J51 fe52 => ?_))
                have e52 : ∀ o, o < w + 2 ∨ w + 21 ≤ o → ∀ i, I50 o i = h.2.1 o i := fun o ho i => (fe52 o ho i).trans ((fun o ho i => (e o ho i)) o ho i)
                refine qm_Ru.go 1 (c' := (148, [.ref w, .ref 29, .int s, .int v47, .int (i + 1), .int v5], [], (h.1, I50, J51, h.2.2.2))) rfl ?_
                obtain ⟨v53, q_v53, e_v53⟩ := hk_add (x := i) (y := 1) (a := i.toInt) (b := 1) rfl rfl (by omega) (by omega)
                rw [q_v53]
                refine qm_Ru.go 1 (c' := (20, [.ref w, .ref 29, .int s, .int v47, .int v53, .int v5], [], (h.1, I50, J51, h.2.2.2))) rfl ?_
                exact ih _ (by omega) (I50) (J51) v47 v53 (.int v5) (fun o ho i => (e52 o ho i)) (by omega) (by omega) rfl
            · refine qm_Ru.go 1 (c' := (87, [.ref w, .ref 29, .int s, .int tp, .int i, .int v5], [.int tp], (h.1, I, J, h.2.2.2))) rfl ?_
              refine hk_zle (ix := tp.toInt) rfl rfl (fun z54 => ?_) (fun z54 => ?_)
              · refine qm_Ru.go 2 (c' := (117, [.ref w, .ref 29, .int s, .int tp, .int i, .int v5], [.int 1, .int tp], (h.1, I, J, h.2.2.2))) rfl ?_
                refine hk_cle (ix := tp.toInt) (iy := 1) rfl rfl rfl (fun z55 => ?_) (fun z55 => by exfalso; omega)
                refine qm_Ru.go 1 (c' := (148, [.ref w, .ref 29, .int s, .int tp, .int (i + 1), .int v5], [], (h.1, I, J, h.2.2.2))) rfl ?_
                obtain ⟨v56, q_v56, e_v56⟩ := hk_add (x := i) (y := 1) (a := i.toInt) (b := 1) rfl rfl (by omega) (by omega)
                rw [q_v56]
                refine qm_Ru.go 1 (c' := (20, [.ref w, .ref 29, .int s, .int tp, .int v56, .int v5], [], (h.1, I, J, h.2.2.2))) rfl ?_
                exact ih _ (by omega) (I) (J) tp v56 (.int v5) (fun o ho i => (e o ho i)) (by omega) (by omega) rfl
              · refine qm_Ru.go 1 (c' := (91, [.ref w, .ref 29, .int s, .int tp, .int i, .int v5], [.ref w], (h.1, I, J, h.2.2.2))) rfl ?_
                refine hk_getr rfl hD.1 rfl hD.2.2.1 ?_
                refine qm_Ru.go 3 (c' := (97, [.ref w, .ref 29, .int s, .int tp, .int i, .int v5], [.int (tp - 1), .ref (w + 1)], (h.1, I, J, h.2.2.2))) rfl ?_
                obtain ⟨v57, q_v57, e_v57⟩ := hk_sub (x := tp) (y := 1) (a := tp.toInt) (b := 1) rfl rfl (by omega) (by omega)
                rw [q_v57]
                refine hk_aal rfl hD.2.1 (by omega) (by omega) (hD.2.2.2.2.1 _ (by omega)) ?_
                refine qm_Ru.go 3 (c' := (101, [.ref w, .ref 29, .int s, .int tp, .int i, .int v5], [.ref w, .int 1, .int 0, .ref (w + 2 + v57.toInt.toNat)], (h.1, I, J, h.2.2.2))) rfl ?_
                refine hk_getr rfl hD.1 rfl hD.2.2.1 ?_
                refine qm_Ru.go 3 (c' := (107, [.ref w, .ref 29, .int s, .int tp, .int i, .int v5], [.int (tp - 1), .ref (w + 1), .int 1, .int 0, .ref (w + 2 + v57.toInt.toNat)], (h.1, I, J, h.2.2.2))) rfl ?_
                rw [q_v57]
                refine hk_aal rfl hD.2.1 (by omega) (by omega) (hD.2.2.2.2.1 _ (by omega)) ?_
                refine qm_Ru.go 1 (c' := (109, [.ref w, .ref 29, .int s, .int tp, .int i, .int v5], [.int 0, .ref (w + 2 + v57.toInt.toNat), .int 1, .int 0, .ref (w + 2 + v57.toInt.toNat)], (h.1, I, J, h.2.2.2))) rfl ?_
                obtain ⟨v59, q_v59⟩ : ∃ v, (I) (w + 2 + v57.toInt.toNat) 0 = v := ⟨_, rfl⟩
                refine hk_ial (v := v59) rfl (hD.2.2.2.2.2 _ (by omega) (by omega)) (by decide) (by decide) q_v59 ?_
                refine qm_Ru.go 1 (c' := (111, [.ref w, .ref 29, .int s, .int tp, .int i, .int v5], [.int (1 - v59), .int 0, .ref (w + 2 + v57.toInt.toNat)], (h.1, I, J, h.2.2.2))) rfl ?_
                obtain ⟨v60, q_v60⟩ : ∃ v, (1 - v59) = v := ⟨_, rfl⟩
                rw [q_v60]
                refine hk_ias rfl (hD.2.2.2.2.2 _ (by omega) (by omega)) (by decide) (by decide) ?_
                refine qm_Ru.go 2 (c' := (148, [.ref w, .ref 29, .int s, .int tp, .int (i + 1), .int v5], [], (h.1, qm_up I (w + 2 + v57.toInt.toNat) 0 v60, J, h.2.2.2))) rfl ?_
                obtain ⟨v61, q_v61, e_v61⟩ := hk_add (x := i) (y := 1) (a := i.toInt) (b := 1) rfl rfl (by omega) (by omega)
                rw [q_v61]
                refine qm_Ru.go 1 (c' := (20, [.ref w, .ref 29, .int s, .int tp, .int v61, .int v5], [], (h.1, qm_up I (w + 2 + v57.toInt.toNat) 0 v60, J, h.2.2.2))) rfl ?_
                exact ih _ (by omega) (qm_up I (w + 2 + v57.toInt.toNat) 0 v60) (J) tp v61 (.int v5) (fun o ho i => ((hk_on (by omega)).trans (e o ho i))) (by omega) (by omega) rfl
          · refine qm_Ru.go 2 (c' := (17, [.int v23], [.int 1], (h.1, I, J, h.2.2.2))) rfl ?_
            refine qm_Ru.rt (v := (some (.int 1))) (h' := (h.1, I, J, h.2.2.2)) rfl ?_
            refine qm_Ru.go 3 (c' := (18, [.int v5], [.int 1], (h.1, I, J, h.2.2.2))) rfl ?_
            refine qm_Ru.rt (v := (some (.int 1))) (h' := (h.1, I, J, h.2.2.2)) rfl ?_
            refine qm_Ru.go 3 (c' := (50, [.ref w, .ref 29, .int s, .int tp, .int i, .int v5], [.ref w, .int tp], (h.1, I, J, h.2.2.2))) rfl ?_
            refine hk_getr rfl hD.1 rfl hD.2.2.1 ?_
            refine qm_Ru.go 0 (c' := (53, [.ref w, .ref 29, .int s, .int tp, .int i, .int v5], [.ref (w + 1), .int tp], (h.1, I, J, h.2.2.2))) rfl ?_
            refine hk_len rfl hD.2.1 rfl ?_
            refine qm_Ru.go 0 (c' := (54, [.ref w, .ref 29, .int s, .int tp, .int i, .int v5], [.int 18, .int tp], (h.1, I, J, h.2.2.2))) rfl ?_
            refine hk_cge (ix := tp.toInt) (iy := 18) rfl rfl rfl (fun z62 => ?_) (fun z62 => ?_)
            · refine qm_Ru.go 2 (c' := (83, [.ref w, .ref 29, .int s, .int tp, .int i, .int v5], [.int (-12), .int v5], (h.1, I, J, h.2.2.2))) rfl ?_
              refine hk_cne (ix := v5.toInt) (iy := (-12)) rfl rfl rfl (fun z63 => ?_) (fun z63 => ?_)
              · refine qm_Ru.go 2 (c' := (117, [.ref w, .ref 29, .int s, .int tp, .int i, .int v5], [.int 1, .int tp], (h.1, I, J, h.2.2.2))) rfl ?_
                refine hk_cle (ix := tp.toInt) (iy := 1) rfl rfl rfl (fun z64 => by exfalso; omega) (fun z64 => ?_)
                refine qm_Ru.go 1 (c' := (123, [.ref w, .ref 29, .int s, .int (tp + (-1)), .int i, .int v5], [], (h.1, I, J, h.2.2.2))) rfl ?_
                obtain ⟨v65, q_v65, e_v65⟩ := hk_add (x := tp) (y := (-1)) (a := tp.toInt) (b := (-1)) rfl rfl (by omega) (by omega)
                rw [q_v65]
                refine qm_Ru.go 4 (c' := (128, [.ref w, .ref 29, .int s, .int v65, .int i, .int v5], [.int (v5 ^^^ (-1)), .ref w], (h.1, I, J, h.2.2.2))) rfl ?_
                rw [q_v23]
                refine qm_Ru.go 1 (c' := (129, [.ref w, .ref 29, .int s, .int v65, .int i, .int v5], [.ref w, .int v23, .ref w], (h.1, I, J, h.2.2.2))) rfl ?_
                refine hk_getr rfl hD.1 rfl hD.2.2.1 ?_
                refine qm_Ru.go 3 (c' := (135, [.ref w, .ref 29, .int s, .int v65, .int i, .int v5], [.int (v65 - 1), .ref (w + 1), .int v23, .ref w], (h.1, I, J, h.2.2.2))) rfl ?_
                obtain ⟨v67, q_v67, e_v67⟩ := hk_sub (x := v65) (y := 1) (a := v65.toInt) (b := 1) rfl rfl (by omega) (by omega)
                rw [q_v67]
                refine hk_aal rfl hD.2.1 (by omega) (by omega) (hD.2.2.2.2.1 _ (by omega)) ?_
                refine qm_Ru.go 1 (c' := (137, [.ref w, .ref 29, .int s, .int v65, .int i, .int v5], [.ref w, .ref (w + 2 + v67.toInt.toNat), .int v23, .ref w], (h.1, I, J, h.2.2.2))) rfl ?_
                refine hk_getr rfl hD.1 rfl hD.2.2.1 ?_
                refine qm_Ru.go 1 (c' := (141, [.ref w, .ref 29, .int s, .int v65, .int i, .int v5], [.int v65, .ref (w + 1), .ref (w + 2 + v67.toInt.toNat), .int v23, .ref w], (h.1, I, J, h.2.2.2))) rfl ?_
                refine hk_aal rfl hD.2.1 (by omega) (by omega) (hD.2.2.2.2.1 _ (by omega)) ?_
                refine qm_Ru.go 0 (c' := (142, [.ref w, .ref 29, .int s, .int v65, .int i, .int v5], [.ref (w + 2 + v65.toInt.toNat), .ref (w + 2 + v67.toInt.toNat), .int v23, .ref w], (h.1, I, J, h.2.2.2))) rfl ?_
                refine hk_inv (o := w) (r := []) (as := [.ref w, .int v23, .ref (w + 2 + v67.toInt.toNat), .ref (w + 2 + v65.toInt.toNat)]) rfl rfl hD.1 rfl rfl rfl rfl (hs_wjoin (h := (h.1, I, J, h.2.2.2)) (w := w) (a := (w + 2 + v67.toInt.toNat)) (b := (w + 2 + v65.toInt.toNat)) hw (wd_same hD rfl rfl) (by show (I w 2).toInt ≤ 101; rw [show I w 2 = h.2.1 w 2 from (fun o ho i => (e o ho i)) w (Or.inl (by omega)) 2]; exact hl) (by omega) (by omega) (fun I68 J69 fe70 => ?_))
                have e70 : ∀ o, o < w + 2 ∨ w + 21 ≤ o → ∀ i, I68 o i = h.2.1 o i := fun o ho i => (fe70 o ho i).trans ((fun o ho i => (e o ho i)) o ho i)
                refine qm_Ru.go 1 (c' := (148, [.ref w, .ref 29, .int s, .int v65, .int (i + 1), .int v5], [], (h.1, I68, J69, h.2.2.2))) rfl ?_
                obtain ⟨v71, q_v71, e_v71⟩ := hk_add (x := i) (y := 1) (a := i.toInt) (b := 1) rfl rfl (by omega) (by omega)
                rw [q_v71]
                refine qm_Ru.go 1 (c' := (20, [.ref w, .ref 29, .int s, .int v65, .int v71, .int v5], [], (h.1, I68, J69, h.2.2.2))) rfl ?_
                exact ih _ (by omega) (I68) (J69) v65 v71 (.int v5) (fun o ho i => (e70 o ho i)) (by omega) (by omega) rfl
              · refine qm_Ru.go 1 (c' := (87, [.ref w, .ref 29, .int s, .int tp, .int i, .int v5], [.int tp], (h.1, I, J, h.2.2.2))) rfl ?_
                refine hk_zle (ix := tp.toInt) rfl rfl (fun z72 => by exfalso; omega) (fun z72 => ?_)
                refine qm_Ru.go 1 (c' := (91, [.ref w, .ref 29, .int s, .int tp, .int i, .int v5], [.ref w], (h.1, I, J, h.2.2.2))) rfl ?_
                refine hk_getr rfl hD.1 rfl hD.2.2.1 ?_
                refine qm_Ru.go 3 (c' := (97, [.ref w, .ref 29, .int s, .int tp, .int i, .int v5], [.int (tp - 1), .ref (w + 1)], (h.1, I, J, h.2.2.2))) rfl ?_
                obtain ⟨v73, q_v73, e_v73⟩ := hk_sub (x := tp) (y := 1) (a := tp.toInt) (b := 1) rfl rfl (by omega) (by omega)
                rw [q_v73]
                refine hk_aal rfl hD.2.1 (by omega) (by omega) (hD.2.2.2.2.1 _ (by omega)) ?_
                refine qm_Ru.go 3 (c' := (101, [.ref w, .ref 29, .int s, .int tp, .int i, .int v5], [.ref w, .int 1, .int 0, .ref (w + 2 + v73.toInt.toNat)], (h.1, I, J, h.2.2.2))) rfl ?_
                refine hk_getr rfl hD.1 rfl hD.2.2.1 ?_
                refine qm_Ru.go 3 (c' := (107, [.ref w, .ref 29, .int s, .int tp, .int i, .int v5], [.int (tp - 1), .ref (w + 1), .int 1, .int 0, .ref (w + 2 + v73.toInt.toNat)], (h.1, I, J, h.2.2.2))) rfl ?_
                rw [q_v73]
                refine hk_aal rfl hD.2.1 (by omega) (by omega) (hD.2.2.2.2.1 _ (by omega)) ?_
                refine qm_Ru.go 1 (c' := (109, [.ref w, .ref 29, .int s, .int tp, .int i, .int v5], [.int 0, .ref (w + 2 + v73.toInt.toNat), .int 1, .int 0, .ref (w + 2 + v73.toInt.toNat)], (h.1, I, J, h.2.2.2))) rfl ?_
                obtain ⟨v75, q_v75⟩ : ∃ v, (I) (w + 2 + v73.toInt.toNat) 0 = v := ⟨_, rfl⟩
                refine hk_ial (v := v75) rfl (hD.2.2.2.2.2 _ (by omega) (by omega)) (by decide) (by decide) q_v75 ?_
                refine qm_Ru.go 1 (c' := (111, [.ref w, .ref 29, .int s, .int tp, .int i, .int v5], [.int (1 - v75), .int 0, .ref (w + 2 + v73.toInt.toNat)], (h.1, I, J, h.2.2.2))) rfl ?_
                obtain ⟨v76, q_v76⟩ : ∃ v, (1 - v75) = v := ⟨_, rfl⟩
                rw [q_v76]
                refine hk_ias rfl (hD.2.2.2.2.2 _ (by omega) (by omega)) (by decide) (by decide) ?_
                refine qm_Ru.go 2 (c' := (148, [.ref w, .ref 29, .int s, .int tp, .int (i + 1), .int v5], [], (h.1, qm_up I (w + 2 + v73.toInt.toNat) 0 v76, J, h.2.2.2))) rfl ?_
                obtain ⟨v77, q_v77, e_v77⟩ := hk_add (x := i) (y := 1) (a := i.toInt) (b := 1) rfl rfl (by omega) (by omega)
                rw [q_v77]
                refine qm_Ru.go 1 (c' := (20, [.ref w, .ref 29, .int s, .int tp, .int v77, .int v5], [], (h.1, qm_up I (w + 2 + v73.toInt.toNat) 0 v76, J, h.2.2.2))) rfl ?_
                exact ih _ (by omega) (qm_up I (w + 2 + v73.toInt.toNat) 0 v76) (J) tp v77 (.int v5) (fun o ho i => ((hk_on (by omega)).trans (e o ho i))) (by omega) (by omega) rfl
            · refine qm_Ru.go 2 (c' := (59, [.ref w, .ref 29, .int s, .int tp, .int i, .int v5], [.ref w, .ref w], (h.1, I, J, h.2.2.2))) rfl ?_
              refine hk_getr rfl hD.1 rfl hD.2.2.1 ?_
              refine qm_Ru.go 1 (c' := (63, [.ref w, .ref 29, .int s, .int tp, .int i, .int v5], [.int tp, .ref (w + 1), .ref w], (h.1, I, J, h.2.2.2))) rfl ?_
              refine hk_aal rfl hD.2.1 (by omega) (by omega) (hD.2.2.2.2.1 _ (by omega)) ?_
              refine qm_Ru.go 2 (c' := (67, [.ref w, .ref 29, .int s, .int tp, .int i, .int v5], [.int v5, .ref 29, .ref (w + 2 + tp.toInt.toNat), .ref w], (h.1, I, J, h.2.2.2))) rfl ?_
              refine hk_inv (o := 29) (r := [.ref (w + 2 + tp.toInt.toNat), .ref w]) (as := [.ref 29, .int v5]) rfl rfl (hH.1 29 (11, 16) rfl) rfl rfl rfl rfl ?_
              refine qm_Ru.go 1 (c' := (1, [.ref 29, .int v5], [.int v5], (h.1, I, J, h.2.2.2))) rfl ?_
              refine hk_zlt (ix := v5.toInt) rfl rfl (fun z78 => ?_) (fun z78 => by exfalso; omega)
              refine qm_Ru.go 1 (c' := (9, [.ref 29, .int v5], [.ref 29], (h.1, I, J, h.2.2.2))) rfl ?_
              refine hk_getr rfl (hH.1 29 (11, 16) rfl) rfl (hH.2 29 12 (some 34) rfl) ?_
              refine qm_Ru.go 3 (c' := (15, [.ref 29, .int v5], [.int (v5 ^^^ (-1)), .ref 34], (h.1, I, J, h.2.2.2))) rfl ?_
              rw [q_v23]
              refine qm_Ru.go 2 (c' := (18, [.ref 29, .int v5], [.int (v23 - 12), .ref 34], (h.1, I, J, h.2.2.2))) rfl ?_
              obtain ⟨v80, q_v80, e_v80⟩ := hk_sub (x := v23) (y := 12) (a := v23.toInt) (b := 12) rfl rfl (by omega) (by omega)
              rw [q_v80]
              obtain ⟨v81, q_v81⟩ : ∃ v, h.2.1 34 (v80.toInt.toNat) = v := ⟨_, rfl⟩
              refine hk_ial (v := v81) rfl (hH.1 34 (0, 13) rfl) (by omega) (by omega) (show (I) 34 (v80.toInt.toNat) = _ from ((e 34 (Or.inl (by omega)) (v80.toInt.toNat)).trans q_v81)) ?_
              refine qm_Ru.go 0 (c' := (19, [.ref 29, .int v5], [.int v81], (h.1, I, J, h.2.2.2))) rfl ?_
              refine qm_Ru.rt (v := (some (.int v81))) (h' := (h.1, I, J, h.2.2.2)) rfl ?_
              refine qm_Ru.go 0 (c' := (70, [.ref w, .ref 29, .int s, .int tp, .int i, .int v5], [.int v81, .ref (w + 2 + tp.toInt.toNat), .ref w], (h.1, I, J, h.2.2.2))) rfl ?_
              refine hk_inv (o := w) (r := []) (as := [.ref w, .ref (w + 2 + tp.toInt.toNat), .int v81]) rfl rfl hD.1 rfl rfl rfl rfl (hs_wwr (h := (h.1, I, J, h.2.2.2)) (w := w) (a := (w + 2 + tp.toInt.toNat)) hw (wd_same hD rfl rfl) (by show (I w 2).toInt ≤ 101; rw [show I w 2 = h.2.1 w 2 from (fun o ho i => (e o ho i)) w (Or.inl (by omega)) 2]; exact hl) (by omega) (fun I82 J83 fe84 => ?_))
              have e84 : ∀ o, o < w + 2 ∨ w + 21 ≤ o → ∀ i, I82 o i = h.2.1 o i := fun o ho i => (fe84 o ho i).trans ((fun o ho i => (e o ho i)) o ho i)
              refine qm_Ru.go 1 (c' := (76, [.ref w, .ref 29, .int s, .int (tp + 1), .int i, .int v5], [], (h.1, I82, J83, h.2.2.2))) rfl ?_
              obtain ⟨v85, q_v85, e_v85⟩ := hk_add (x := tp) (y := 1) (a := tp.toInt) (b := 1) rfl rfl (by omega) (by omega)
              rw [q_v85]
              refine qm_Ru.go 2 (c' := (148, [.ref w, .ref 29, .int s, .int v85, .int (i + 1), .int v5], [], (h.1, I82, J83, h.2.2.2))) rfl ?_
              obtain ⟨v86, q_v86, e_v86⟩ := hk_add (x := i) (y := 1) (a := i.toInt) (b := 1) rfl rfl (by omega) (by omega)
              rw [q_v86]
              refine qm_Ru.go 1 (c' := (20, [.ref w, .ref 29, .int s, .int v85, .int v86, .int v5], [], (h.1, I82, J83, h.2.2.2))) rfl ?_
              exact ih _ (by omega) (I82) (J83) v85 v86 (.int v5) (fun o ho i => (e84 o ho i)) (by omega) (by omega) rfl
theorem hs_whold29 {L : Nat} {xs : Nat → Int32} {d : Nat} {Z : Option Value → qm_H → Prop} {h : qm_H} {w : Nat} (hH : hk_H h) (hB : hk_B h.2.1) (hw : 192 ≤ w) (hD : wd h w) {s : Int32} (hs : (0 : Int) ≤ s.toInt ∧ s.toInt ≤ 15) (k : ∀ (v : Int32) (I : Nat → Nat → Int32) (J : Nat → Nat → Int64), (0 : Int) ≤ v.toInt ∧ v.toInt ≤ 1 → (∀ o, o < w ∨ w + 21 ≤ o → ∀ i, I o i = h.2.1 o i) → Z (some (.int v)) (h.1, I, J, h.2.2.2)) : qm_Ru (some (L, xs)) (d + 3) cd_123 (qm_ent 6 [.ref w, .ref 29, .int s] h) Z := by
  show qm_Ru (some (L, xs)) (d + 3) cd_123 (0, [.ref w, .ref 29, .int s, .float 0, .float 0, .float 0], [], h) Z
  refine qm_Ru.go 2 (c' := (2, [.ref w, .ref 29, .int s, .float 0, .float 0, .float 0], [.ref 29, .ref w], h)) rfl ?_
  refine hk_getr rfl (hH.1 29 (11, 16) rfl) rfl (hH.2 29 11 (some 33) rfl) ?_
  refine qm_Ru.go 1 (c' := (6, [.ref w, .ref 29, .int s, .float 0, .float 0, .float 0], [.int s, .ref 33, .ref w], h)) rfl ?_
  obtain ⟨v1, q_v1⟩ : ∃ v, h.2.1 33 (s.toInt.toNat) = v := ⟨_, rfl⟩
  have b_v1 : (0 : Int) ≤ v1.toInt ∧ v1.toInt ≤ 101 := by rw [← q_v1]; exact hB 33 (s.toInt.toNat)
  refine hk_ial (v := v1) rfl (hH.1 33 (0, 16) rfl) (by omega) (by omega) q_v1 ?_
  refine qm_Ru.go 0 (c' := (7, [.ref w, .ref 29, .int s, .float 0, .float 0, .float 0], [.int v1, .ref w], h)) rfl ?_
  refine hk_puti rfl hD.1 rfl ?_
  refine qm_Ru.go 3 (c' := (13, [.ref w, .ref 29, .int s, .int 0, .float 0, .float 0], [.ref 29], (h.1, qm_up h.2.1 w 2 v1, h.2.2.1, h.2.2.2))) rfl ?_
  refine hk_getr rfl (hH.1 29 (11, 16) rfl) rfl (hH.2 29 9 (some 31) rfl) ?_
  refine qm_Ru.go 1 (c' := (17, [.ref w, .ref 29, .int s, .int 0, .float 0, .float 0], [.int s, .ref 31], (h.1, qm_up h.2.1 w 2 v1, h.2.2.1, h.2.2.2))) rfl ?_
  obtain ⟨v2, q_v2⟩ : ∃ v, h.2.1 31 (s.toInt.toNat) = v := ⟨_, rfl⟩
  have b_v2 : (0 : Int) ≤ v2.toInt ∧ v2.toInt ≤ 400 := by rw [← q_v2]; exact hB 31 (s.toInt.toNat)
  refine hk_ial (v := v2) rfl (hH.1 31 (0, 16) rfl) (by omega) (by omega) (show (qm_up h.2.1 w 2 v1) 31 (s.toInt.toNat) = _ from ((hk_on (by omega)).trans q_v2)) ?_
  refine qm_Ru.go 1 (c' := (20, [.ref w, .ref 29, .int s, .int 0, .int v2, .float 0], [], (h.1, qm_up h.2.1 w 2 v1, h.2.2.1, h.2.2.2))) rfl ?_
  refine hl_whold29 (h := (h.1, qm_up h.2.1 w 2 v1, h.2.2.1, h.2.2.2)) (w := w) ⟨hH.1, hH.2⟩ (hb_up hB (hb_hi hw)) hw (wd_same hD rfl rfl) (by show (qm_up h.2.1 w 2 v1 w 2).toInt ≤ 101; rw [hk_same]; omega) hs ?_ _ (qm_up h.2.1 w 2 v1) h.2.2.1 0 v2 _ (fun _ _ _ => rfl) (by decide) (by omega) rfl
  exact fun v I J hv e => k v I J hv (fun o ho i => (e o (by omega) i).trans (hk_on (by omega)))
theorem hl_whold111 {L : Nat} {xs : Nat → Int32} {d : Nat} {Z : Option Value → qm_H → Prop} {h : qm_H} {w : Nat} (hH : hk_H h) (hB : hk_B h.2.1) (hw : 192 ≤ w) (hD : wd h w) (hl : (h.2.1 w 2).toInt ≤ 101) {s : Int32} (hs : (0 : Int) ≤ s.toInt ∧ s.toInt ≤ 15) (k : ∀ (v : Int32) (I : Nat → Nat → Int32) (J : Nat → Nat → Int64), (0 : Int) ≤ v.toInt ∧ v.toInt ≤ 1 → (∀ o, o < w + 2 ∨ w + 21 ≤ o → ∀ i, I o i = h.2.1 o i) → Z (some (.int v)) (h.1, I, J, h.2.2.2)) : ∀ (m : Nat) (I : Nat → Nat → Int32) (J : Nat → Nat → Int64) (tp i : Int32) (l5 : Value), (∀ o, o < w + 2 ∨ w + 21 ≤ o → ∀ i, I o i = h.2.1 o i) → (0 ≤ tp.toInt ∧ tp.toInt ≤ 18) → (0 ≤ i.toInt ∧ i.toInt ≤ 400) → (400 - i.toInt).toNat = m → qm_Ru (some (L, xs)) (d + 3) cd_123 (20, [.ref w, .ref 111, .int s, .int tp, .int i, l5], [], (h.1, I, J, h.2.2.2)) Z := by
  intro m
  induction m using Nat.strongRecOn with
  | ind m ih =>
    intro I J tp i l5 e ht hi hm
    refine qm_Ru.go 2 (c' := (23, [.ref w, .ref 111, .int s, .int tp, .int i, l5], [.ref 111, .int i], (h.1, I, J, h.2.2.2))) rfl ?_
    refine hk_getr rfl (hH.1 111 (11, 16) rfl) rfl (hH.2 111 10 (some 114) rfl) ?_
    refine qm_Ru.go 1 (c' := (27, [.ref w, .ref 111, .int s, .int tp, .int i, l5], [.int s, .ref 114, .int i], (h.1, I, J, h.2.2.2))) rfl ?_
    obtain ⟨v1, q_v1⟩ : ∃ v, h.2.1 114 (s.toInt.toNat) = v := ⟨_, rfl⟩
    have b_v1 : (0 : Int) ≤ v1.toInt ∧ v1.toInt ≤ 400 := by rw [← q_v1]; exact hB 114 (s.toInt.toNat)
    refine hk_ial (v := v1) rfl (hH.1 114 (0, 16) rfl) (by omega) (by omega) (show (I) 114 (s.toInt.toNat) = _ from ((e 114 (Or.inl (by omega)) (s.toInt.toNat)).trans q_v1)) ?_
    refine qm_Ru.go 0 (c' := (28, [.ref w, .ref 111, .int s, .int tp, .int i, l5], [.int v1, .int i], (h.1, I, J, h.2.2.2))) rfl ?_
    refine hk_cge (ix := i.toInt) (iy := v1.toInt) rfl rfl rfl (fun z2 => ?_) (fun z2 => ?_)
    · refine qm_Ru.go 1 (c' := (152, [.ref w, .ref 111, .int s, .int tp, .int i, l5], [.ref w], (h.1, I, J, h.2.2.2))) rfl ?_
      refine hk_getr rfl hD.1 rfl hD.2.2.1 ?_
      refine qm_Ru.go 1 (c' := (156, [.ref w, .ref 111, .int s, .int tp, .int i, l5], [.int 0, .ref (w + 1)], (h.1, I, J, h.2.2.2))) rfl ?_
      refine hk_aal rfl hD.2.1 (by decide) (by decide) (hD.2.2.2.2.1 0 (by decide)) ?_
      refine qm_Ru.go 1 (c' := (158, [.ref w, .ref 111, .int s, .int tp, .int i, l5], [.int 0, .ref (w + 2 + 0)], (h.1, I, J, h.2.2.2))) rfl ?_
      obtain ⟨v3, q_v3⟩ : ∃ v, (I) (w + 2 + 0) 0 = v := ⟨_, rfl⟩
      refine hk_ial (v := v3) rfl (hD.2.2.2.2.2 _ (by omega) (by omega)) (by decide) (by decide) q_v3 ?_
      refine qm_Ru.go 1 (c' := (160, [.ref w, .ref 111, .int s, .int tp, .int i, l5], [.int 1, .int v3], (h.1, I, J, h.2.2.2))) rfl ?_
      refine hk_cne (ix := v3.toInt) (iy := 1) rfl rfl rfl (fun z4 => ?_) (fun z4 => ?_)
      · refine qm_Ru.go 1 (c' := (168, [.ref w, .ref 111, .int s, .int tp, .int i, l5], [.int 0], (h.1, I, J, h.2.2.2))) rfl ?_
        refine qm_Ru.rt (v := (some (.int 0))) (h' := (h.1, I, J, h.2.2.2)) rfl ?_
        exact k 0 (I) (J) (by decide) (fun o ho i => (e o ho i))
      · refine qm_Ru.go 2 (c' := (168, [.ref w, .ref 111, .int s, .int tp, .int i, l5], [.int 1], (h.1, I, J, h.2.2.2))) rfl ?_
        refine qm_Ru.rt (v := (some (.int 1))) (h' := (h.1, I, J, h.2.2.2)) rfl ?_
        exact k 1 (I) (J) (by decide) (fun o ho i => (e o ho i))
    · refine qm_Ru.go 1 (c' := (32, [.ref w, .ref 111, .int s, .int tp, .int i, l5], [.ref 111], (h.1, I, J, h.2.2.2))) rfl ?_
      refine hk_getr rfl (hH.1 111 (11, 16) rfl) rfl (hH.2 111 8 (some 112) rfl) ?_
      refine qm_Ru.go 1 (c' := (37, [.ref w, .ref 111, .int s, .int tp, .int i, l5], [.int i, .ref 112], (h.1, I, J, h.2.2.2))) rfl ?_
      obtain ⟨v5, q_v5⟩ : ∃ v, h.2.1 112 (i.toInt.toNat) = v := ⟨_, rfl⟩
      refine hk_ial (v := v5) rfl (hH.1 112 (0, 400) rfl) (by omega) (by omega) (show (I) 112 (i.toInt.toNat) = _ from ((e 112 (Or.inl (by omega)) (i.toInt.toNat)).trans q_v5)) ?_
      refine qm_Ru.go 2 (c' := (42, [.ref w, .ref 111, .int s, .int tp, .int i, .int v5], [.int v5], (h.1, I, J, h.2.2.2))) rfl ?_
      refine qm_Ru.call (j := 58) (as := [.int v5]) (c' := (45, [.ref w, .ref 111, .int s, .int tp, .int i, .int v5], [], (h.1, I, J, h.2.2.2))) rfl rfl rfl ?_
      refine qm_Ru.go 1 (c' := (1, [.int v5], [.int v5], (h.1, I, J, h.2.2.2))) rfl ?_
      refine hk_zge (ix := v5.toInt) rfl rfl (fun z6 => ?_) (fun z6 => ?_)
      · refine qm_Ru.go 2 (c' := (18, [.int v5], [.int 1], (h.1, I, J, h.2.2.2))) rfl ?_
        refine qm_Ru.rt (v := (some (.int 1))) (h' := (h.1, I, J, h.2.2.2)) rfl ?_
        refine qm_Ru.go 3 (c' := (50, [.ref w, .ref 111, .int s, .int tp, .int i, .int v5], [.ref w, .int tp], (h.1, I, J, h.2.2.2))) rfl ?_
        refine hk_getr rfl hD.1 rfl hD.2.2.1 ?_
        refine qm_Ru.go 0 (c' := (53, [.ref w, .ref 111, .int s, .int tp, .int i, .int v5], [.ref (w + 1), .int tp], (h.1, I, J, h.2.2.2))) rfl ?_
        refine hk_len rfl hD.2.1 rfl ?_
        refine qm_Ru.go 0 (c' := (54, [.ref w, .ref 111, .int s, .int tp, .int i, .int v5], [.int 18, .int tp], (h.1, I, J, h.2.2.2))) rfl ?_
        refine hk_cge (ix := tp.toInt) (iy := 18) rfl rfl rfl (fun z7 => ?_) (fun z7 => ?_)
        · refine qm_Ru.go 2 (c' := (83, [.ref w, .ref 111, .int s, .int tp, .int i, .int v5], [.int (-12), .int v5], (h.1, I, J, h.2.2.2))) rfl ?_
          refine hk_cne (ix := v5.toInt) (iy := (-12)) rfl rfl rfl (fun z8 => ?_) (fun z8 => by exfalso; omega)
          refine qm_Ru.go 2 (c' := (117, [.ref w, .ref 111, .int s, .int tp, .int i, .int v5], [.int 1, .int tp], (h.1, I, J, h.2.2.2))) rfl ?_
          refine hk_cle (ix := tp.toInt) (iy := 1) rfl rfl rfl (fun z9 => by exfalso; omega) (fun z9 => ?_)
          refine qm_Ru.go 1 (c' := (123, [.ref w, .ref 111, .int s, .int (tp + (-1)), .int i, .int v5], [], (h.1, I, J, h.2.2.2))) rfl ?_
          obtain ⟨v10, q_v10, e_v10⟩ := hk_add (x := tp) (y := (-1)) (a := tp.toInt) (b := (-1)) rfl rfl (by omega) (by omega)
          rw [q_v10]
          refine qm_Ru.go 4 (c' := (128, [.ref w, .ref 111, .int s, .int v10, .int i, .int v5], [.int (v5 ^^^ (-1)), .ref w], (h.1, I, J, h.2.2.2))) rfl ?_
          obtain ⟨v11, q_v11⟩ : ∃ v, (v5 ^^^ (-1)) = v := ⟨_, rfl⟩
          rw [q_v11]
          refine qm_Ru.go 1 (c' := (129, [.ref w, .ref 111, .int s, .int v10, .int i, .int v5], [.ref w, .int v11, .ref w], (h.1, I, J, h.2.2.2))) rfl ?_
          refine hk_getr rfl hD.1 rfl hD.2.2.1 ?_
          refine qm_Ru.go 3 (c' := (135, [.ref w, .ref 111, .int s, .int v10, .int i, .int v5], [.int (v10 - 1), .ref (w + 1), .int v11, .ref w], (h.1, I, J, h.2.2.2))) rfl ?_
          obtain ⟨v12, q_v12, e_v12⟩ := hk_sub (x := v10) (y := 1) (a := v10.toInt) (b := 1) rfl rfl (by omega) (by omega)
          rw [q_v12]
          refine hk_aal rfl hD.2.1 (by omega) (by omega) (hD.2.2.2.2.1 _ (by omega)) ?_
          refine qm_Ru.go 1 (c' := (137, [.ref w, .ref 111, .int s, .int v10, .int i, .int v5], [.ref w, .ref (w + 2 + v12.toInt.toNat), .int v11, .ref w], (h.1, I, J, h.2.2.2))) rfl ?_
          refine hk_getr rfl hD.1 rfl hD.2.2.1 ?_
          refine qm_Ru.go 1 (c' := (141, [.ref w, .ref 111, .int s, .int v10, .int i, .int v5], [.int v10, .ref (w + 1), .ref (w + 2 + v12.toInt.toNat), .int v11, .ref w], (h.1, I, J, h.2.2.2))) rfl ?_
          refine hk_aal rfl hD.2.1 (by omega) (by omega) (hD.2.2.2.2.1 _ (by omega)) ?_
          refine qm_Ru.go 0 (c' := (142, [.ref w, .ref 111, .int s, .int v10, .int i, .int v5], [.ref (w + 2 + v10.toInt.toNat), .ref (w + 2 + v12.toInt.toNat), .int v11, .ref w], (h.1, I, J, h.2.2.2))) rfl ?_
          refine hk_inv (o := w) (r := []) (as := [.ref w, .int v11, .ref (w + 2 + v12.toInt.toNat), .ref (w + 2 + v10.toInt.toNat)]) rfl rfl hD.1 rfl rfl rfl rfl (hs_wjoin (h := (h.1, I, J, h.2.2.2)) (w := w) (a := (w + 2 + v12.toInt.toNat)) (b := (w + 2 + v10.toInt.toNat)) hw (wd_same hD rfl rfl) (by show (I w 2).toInt ≤ 101; rw [show I w 2 = h.2.1 w 2 from (fun o ho i => (e o ho i)) w (Or.inl (by omega)) 2]; exact hl) (by omega) (by omega) (fun I13 J14 fe15 => ?_))
          have e15 : ∀ o, o < w + 2 ∨ w + 21 ≤ o → ∀ i, I13 o i = h.2.1 o i := fun o ho i => (fe15 o ho i).trans ((fun o ho i => (e o ho i)) o ho i)
          refine qm_Ru.go 1 (c' := (148, [.ref w, .ref 111, .int s, .int v10, .int (i + 1), .int v5], [], (h.1, I13, J14, h.2.2.2))) rfl ?_
          obtain ⟨v16, q_v16, e_v16⟩ := hk_add (x := i) (y := 1) (a := i.toInt) (b := 1) rfl rfl (by omega) (by omega)
          rw [q_v16]
          refine qm_Ru.go 1 (c' := (20, [.ref w, .ref 111, .int s, .int v10, .int v16, .int v5], [], (h.1, I13, J14, h.2.2.2))) rfl ?_
          exact ih _ (by omega) (I13) (J14) v10 v16 (.int v5) (fun o ho i => (e15 o ho i)) (by omega) (by omega) rfl
        · refine qm_Ru.go 2 (c' := (59, [.ref w, .ref 111, .int s, .int tp, .int i, .int v5], [.ref w, .ref w], (h.1, I, J, h.2.2.2))) rfl ?_
          refine hk_getr rfl hD.1 rfl hD.2.2.1 ?_
          refine qm_Ru.go 1 (c' := (63, [.ref w, .ref 111, .int s, .int tp, .int i, .int v5], [.int tp, .ref (w + 1), .ref w], (h.1, I, J, h.2.2.2))) rfl ?_
          refine hk_aal rfl hD.2.1 (by omega) (by omega) (hD.2.2.2.2.1 _ (by omega)) ?_
          refine qm_Ru.go 2 (c' := (67, [.ref w, .ref 111, .int s, .int tp, .int i, .int v5], [.int v5, .ref 111, .ref (w + 2 + tp.toInt.toNat), .ref w], (h.1, I, J, h.2.2.2))) rfl ?_
          refine hk_inv (o := 111) (r := [.ref (w + 2 + tp.toInt.toNat), .ref w]) (as := [.ref 111, .int v5]) rfl rfl (hH.1 111 (11, 16) rfl) rfl rfl rfl rfl ?_
          refine qm_Ru.go 1 (c' := (1, [.ref 111, .int v5], [.int v5], (h.1, I, J, h.2.2.2))) rfl ?_
          refine hk_zlt (ix := v5.toInt) rfl rfl (fun z17 => by exfalso; omega) (fun z17 => ?_)
          refine qm_Ru.go 2 (c' := (19, [.ref 111, .int v5], [.int v5], (h.1, I, J, h.2.2.2))) rfl ?_
          refine qm_Ru.rt (v := (some (.int v5))) (h' := (h.1, I, J, h.2.2.2)) rfl ?_
          refine qm_Ru.go 0 (c' := (70, [.ref w, .ref 111, .int s, .int tp, .int i, .int v5], [.int v5, .ref (w + 2 + tp.toInt.toNat), .ref w], (h.1, I, J, h.2.2.2))) rfl ?_
          refine hk_inv (o := w) (r := []) (as := [.ref w, .ref (w + 2 + tp.toInt.toNat), .int v5]) rfl rfl hD.1 rfl rfl rfl rfl (hs_wwr (h := (h.1, I, J, h.2.2.2)) (w := w) (a := (w + 2 + tp.toInt.toNat)) hw (wd_same hD rfl rfl) (by show (I w 2).toInt ≤ 101; rw [show I w 2 = h.2.1 w 2 from (fun o ho i => (e o ho i)) w (Or.inl (by omega)) 2]; exact hl) (by omega) (fun I18 J19 fe20 => ?_))
          have e20 : ∀ o, o < w + 2 ∨ w + 21 ≤ o → ∀ i, I18 o i = h.2.1 o i := fun o ho i => (fe20 o ho i).trans ((fun o ho i => (e o ho i)) o ho i)
          refine qm_Ru.go 1 (c' := (76, [.ref w, .ref 111, .int s, .int (tp + 1), .int i, .int v5], [], (h.1, I18, J19, h.2.2.2))) rfl ?_
          obtain ⟨v21, q_v21, e_v21⟩ := hk_add (x := tp) (y := 1) (a := tp.toInt) (b := 1) rfl rfl (by omega) (by omega)
          rw [q_v21]
          refine qm_Ru.go 2 (c' := (148, [.ref w, .ref 111, .int s, .int v21, .int (i + 1), .int v5], [], (h.1, I18, J19, h.2.2.2))) rfl ?_
          obtain ⟨v22, q_v22, e_v22⟩ := hk_add (x := i) (y := 1) (a := i.toInt) (b := 1) rfl rfl (by omega) (by omega)
          rw [q_v22]
          refine qm_Ru.go 1 (c' := (20, [.ref w, .ref 111, .int s, .int v21, .int v22, .int v5], [], (h.1, I18, J19, h.2.2.2))) rfl ?_
          exact ih _ (by omega) (I18) (J19) v21 v22 (.int v5) (fun o ho i => (e20 o ho i)) (by omega) (by omega) rfl
      · refine qm_Ru.go 3 (c' := (7, [.int v5], [.int (v5 ^^^ (-1))], (h.1, I, J, h.2.2.2))) rfl ?_
        obtain ⟨v23, q_v23⟩ : ∃ v, (v5 ^^^ (-1)) = v := ⟨_, rfl⟩
        rw [q_v23]
        refine qm_Ru.call (j := 33) (as := [.int v23]) (c' := (10, [.int v5], [], (h.1, I, J, h.2.2.2))) rfl rfl rfl ?_
        refine qm_Ru.go 2 (c' := (3, [.int v23], [.int 12, .int v23], (h.1, I, J, h.2.2.2))) rfl ?_
        refine hk_clt (ix := v23.toInt) (iy := 12) rfl rfl rfl (fun z24 => ?_) (fun z24 => ?_)
        · refine qm_Ru.go 1 (c' := (17, [.int v23], [.int 0], (h.1, I, J, h.2.2.2))) rfl ?_
          refine qm_Ru.rt (v := (some (.int 0))) (h' := (h.1, I, J, h.2.2.2)) rfl ?_
          refine qm_Ru.go 2 (c' := (18, [.int v5], [.int 0], (h.1, I, J, h.2.2.2))) rfl ?_
          refine qm_Ru.rt (v := (some (.int 0))) (h' := (h.1, I, J, h.2.2.2)) rfl ?_
          refine qm_Ru.go 3 (c' := (83, [.ref w, .ref 111, .int s, .int tp, .int i, .int v5], [.int (-12), .int v5], (h.1, I, J, h.2.2.2))) rfl ?_
          refine hk_cne (ix := v5.toInt) (iy := (-12)) rfl rfl rfl (fun z25 => ?_) (fun z25 => ?_)
          · refine qm_Ru.go 2 (c' := (117, [.ref w, .ref 111, .int s, .int tp, .int i, .int v5], [.int 1, .int tp], (h.1, I, J, h.2.2.2))) rfl ?_
            refine hk_cle (ix := tp.toInt) (iy := 1) rfl rfl rfl (fun z26 => ?_) (fun z26 => ?_)
            · refine qm_Ru.go 1 (c' := (148, [.ref w, .ref 111, .int s, .int tp, .int (i + 1), .int v5], [], (h.1, I, J, h.2.2.2))) rfl ?_
              obtain ⟨v27, q_v27, e_v27⟩ := hk_add (x := i) (y := 1) (a := i.toInt) (b := 1) rfl rfl (by omega) (by omega)
              rw [q_v27]
              refine qm_Ru.go 1 (c' := (20, [.ref w, .ref 111, .int s, .int tp, .int v27, .int v5], [], (h.1, I, J, h.2.2.2))) rfl ?_
              exact ih _ (by omega) (I) (J) tp v27 (.int v5) (fun o ho i => (e o ho i)) (by omega) (by omega) rfl
            · refine qm_Ru.go 1 (c' := (123, [.ref w, .ref 111, .int s, .int (tp + (-1)), .int i, .int v5], [], (h.1, I, J, h.2.2.2))) rfl ?_
              obtain ⟨v28, q_v28, e_v28⟩ := hk_add (x := tp) (y := (-1)) (a := tp.toInt) (b := (-1)) rfl rfl (by omega) (by omega)
              rw [q_v28]
              refine qm_Ru.go 4 (c' := (128, [.ref w, .ref 111, .int s, .int v28, .int i, .int v5], [.int (v5 ^^^ (-1)), .ref w], (h.1, I, J, h.2.2.2))) rfl ?_
              rw [q_v23]
              refine qm_Ru.go 1 (c' := (129, [.ref w, .ref 111, .int s, .int v28, .int i, .int v5], [.ref w, .int v23, .ref w], (h.1, I, J, h.2.2.2))) rfl ?_
              refine hk_getr rfl hD.1 rfl hD.2.2.1 ?_
              refine qm_Ru.go 3 (c' := (135, [.ref w, .ref 111, .int s, .int v28, .int i, .int v5], [.int (v28 - 1), .ref (w + 1), .int v23, .ref w], (h.1, I, J, h.2.2.2))) rfl ?_
              obtain ⟨v30, q_v30, e_v30⟩ := hk_sub (x := v28) (y := 1) (a := v28.toInt) (b := 1) rfl rfl (by omega) (by omega)
              rw [q_v30]
              refine hk_aal rfl hD.2.1 (by omega) (by omega) (hD.2.2.2.2.1 _ (by omega)) ?_
              refine qm_Ru.go 1 (c' := (137, [.ref w, .ref 111, .int s, .int v28, .int i, .int v5], [.ref w, .ref (w + 2 + v30.toInt.toNat), .int v23, .ref w], (h.1, I, J, h.2.2.2))) rfl ?_
              refine hk_getr rfl hD.1 rfl hD.2.2.1 ?_
              refine qm_Ru.go 1 (c' := (141, [.ref w, .ref 111, .int s, .int v28, .int i, .int v5], [.int v28, .ref (w + 1), .ref (w + 2 + v30.toInt.toNat), .int v23, .ref w], (h.1, I, J, h.2.2.2))) rfl ?_
              refine hk_aal rfl hD.2.1 (by omega) (by omega) (hD.2.2.2.2.1 _ (by omega)) ?_
              refine qm_Ru.go 0 (c' := (142, [.ref w, .ref 111, .int s, .int v28, .int i, .int v5], [.ref (w + 2 + v28.toInt.toNat), .ref (w + 2 + v30.toInt.toNat), .int v23, .ref w], (h.1, I, J, h.2.2.2))) rfl ?_
              refine hk_inv (o := w) (r := []) (as := [.ref w, .int v23, .ref (w + 2 + v30.toInt.toNat), .ref (w + 2 + v28.toInt.toNat)]) rfl rfl hD.1 rfl rfl rfl rfl (hs_wjoin (h := (h.1, I, J, h.2.2.2)) (w := w) (a := (w + 2 + v30.toInt.toNat)) (b := (w + 2 + v28.toInt.toNat)) hw (wd_same hD rfl rfl) (by show (I w 2).toInt ≤ 101; rw [show I w 2 = h.2.1 w 2 from (fun o ho i => (e o ho i)) w (Or.inl (by omega)) 2]; exact hl) (by omega) (by omega) (fun I31 J32 fe33 => ?_))
              have e33 : ∀ o, o < w + 2 ∨ w + 21 ≤ o → ∀ i, I31 o i = h.2.1 o i := fun o ho i => (fe33 o ho i).trans ((fun o ho i => (e o ho i)) o ho i)
              refine qm_Ru.go 1 (c' := (148, [.ref w, .ref 111, .int s, .int v28, .int (i + 1), .int v5], [], (h.1, I31, J32, h.2.2.2))) rfl ?_
              obtain ⟨v34, q_v34, e_v34⟩ := hk_add (x := i) (y := 1) (a := i.toInt) (b := 1) rfl rfl (by omega) (by omega)
              rw [q_v34]
              refine qm_Ru.go 1 (c' := (20, [.ref w, .ref 111, .int s, .int v28, .int v34, .int v5], [], (h.1, I31, J32, h.2.2.2))) rfl ?_
              exact ih _ (by omega) (I31) (J32) v28 v34 (.int v5) (fun o ho i => (e33 o ho i)) (by omega) (by omega) rfl
          · refine qm_Ru.go 1 (c' := (87, [.ref w, .ref 111, .int s, .int tp, .int i, .int v5], [.int tp], (h.1, I, J, h.2.2.2))) rfl ?_
            refine hk_zle (ix := tp.toInt) rfl rfl (fun z35 => ?_) (fun z35 => ?_)
            · refine qm_Ru.go 2 (c' := (117, [.ref w, .ref 111, .int s, .int tp, .int i, .int v5], [.int 1, .int tp], (h.1, I, J, h.2.2.2))) rfl ?_
              refine hk_cle (ix := tp.toInt) (iy := 1) rfl rfl rfl (fun z36 => ?_) (fun z36 => by exfalso; omega)
              refine qm_Ru.go 1 (c' := (148, [.ref w, .ref 111, .int s, .int tp, .int (i + 1), .int v5], [], (h.1, I, J, h.2.2.2))) rfl ?_
              obtain ⟨v37, q_v37, e_v37⟩ := hk_add (x := i) (y := 1) (a := i.toInt) (b := 1) rfl rfl (by omega) (by omega)
              rw [q_v37]
              refine qm_Ru.go 1 (c' := (20, [.ref w, .ref 111, .int s, .int tp, .int v37, .int v5], [], (h.1, I, J, h.2.2.2))) rfl ?_
              exact ih _ (by omega) (I) (J) tp v37 (.int v5) (fun o ho i => (e o ho i)) (by omega) (by omega) rfl
            · refine qm_Ru.go 1 (c' := (91, [.ref w, .ref 111, .int s, .int tp, .int i, .int v5], [.ref w], (h.1, I, J, h.2.2.2))) rfl ?_
              refine hk_getr rfl hD.1 rfl hD.2.2.1 ?_
              refine qm_Ru.go 3 (c' := (97, [.ref w, .ref 111, .int s, .int tp, .int i, .int v5], [.int (tp - 1), .ref (w + 1)], (h.1, I, J, h.2.2.2))) rfl ?_
              obtain ⟨v38, q_v38, e_v38⟩ := hk_sub (x := tp) (y := 1) (a := tp.toInt) (b := 1) rfl rfl (by omega) (by omega)
              rw [q_v38]
              refine hk_aal rfl hD.2.1 (by omega) (by omega) (hD.2.2.2.2.1 _ (by omega)) ?_
              refine qm_Ru.go 3 (c' := (101, [.ref w, .ref 111, .int s, .int tp, .int i, .int v5], [.ref w, .int 1, .int 0, .ref (w + 2 + v38.toInt.toNat)], (h.1, I, J, h.2.2.2))) rfl ?_
              refine hk_getr rfl hD.1 rfl hD.2.2.1 ?_
              refine qm_Ru.go 3 (c' := (107, [.ref w, .ref 111, .int s, .int tp, .int i, .int v5], [.int (tp - 1), .ref (w + 1), .int 1, .int 0, .ref (w + 2 + v38.toInt.toNat)], (h.1, I, J, h.2.2.2))) rfl ?_
              rw [q_v38]
              refine hk_aal rfl hD.2.1 (by omega) (by omega) (hD.2.2.2.2.1 _ (by omega)) ?_
              refine qm_Ru.go 1 (c' := (109, [.ref w, .ref 111, .int s, .int tp, .int i, .int v5], [.int 0, .ref (w + 2 + v38.toInt.toNat), .int 1, .int 0, .ref (w + 2 + v38.toInt.toNat)], (h.1, I, J, h.2.2.2))) rfl ?_
              obtain ⟨v40, q_v40⟩ : ∃ v, (I) (w + 2 + v38.toInt.toNat) 0 = v := ⟨_, rfl⟩
              refine hk_ial (v := v40) rfl (hD.2.2.2.2.2 _ (by omega) (by omega)) (by decide) (by decide) q_v40 ?_
              refine qm_Ru.go 1 (c' := (111, [.ref w, .ref 111, .int s, .int tp, .int i, .int v5], [.int (1 - v40), .int 0, .ref (w + 2 + v38.toInt.toNat)], (h.1, I, J, h.2.2.2))) rfl ?_
              obtain ⟨v41, q_v41⟩ : ∃ v, (1 - v40) = v := ⟨_, rfl⟩
              rw [q_v41]
              refine hk_ias rfl (hD.2.2.2.2.2 _ (by omega) (by omega)) (by decide) (by decide) ?_
              refine qm_Ru.go 2 (c' := (148, [.ref w, .ref 111, .int s, .int tp, .int (i + 1), .int v5], [], (h.1, qm_up I (w + 2 + v38.toInt.toNat) 0 v41, J, h.2.2.2))) rfl ?_
              obtain ⟨v42, q_v42, e_v42⟩ := hk_add (x := i) (y := 1) (a := i.toInt) (b := 1) rfl rfl (by omega) (by omega)
              rw [q_v42]
              refine qm_Ru.go 1 (c' := (20, [.ref w, .ref 111, .int s, .int tp, .int v42, .int v5], [], (h.1, qm_up I (w + 2 + v38.toInt.toNat) 0 v41, J, h.2.2.2))) rfl ?_
              exact ih _ (by omega) (qm_up I (w + 2 + v38.toInt.toNat) 0 v41) (J) tp v42 (.int v5) (fun o ho i => ((hk_on (by omega)).trans (e o ho i))) (by omega) (by omega) rfl
        · refine qm_Ru.go 2 (c' := (9, [.int v23], [.int 24, .int v23], (h.1, I, J, h.2.2.2))) rfl ?_
          refine hk_cgt (ix := v23.toInt) (iy := 24) rfl rfl rfl (fun z43 => ?_) (fun z43 => ?_)
          · refine qm_Ru.go 1 (c' := (17, [.int v23], [.int 0], (h.1, I, J, h.2.2.2))) rfl ?_
            refine qm_Ru.rt (v := (some (.int 0))) (h' := (h.1, I, J, h.2.2.2)) rfl ?_
            refine qm_Ru.go 2 (c' := (18, [.int v5], [.int 0], (h.1, I, J, h.2.2.2))) rfl ?_
            refine qm_Ru.rt (v := (some (.int 0))) (h' := (h.1, I, J, h.2.2.2)) rfl ?_
            refine qm_Ru.go 3 (c' := (83, [.ref w, .ref 111, .int s, .int tp, .int i, .int v5], [.int (-12), .int v5], (h.1, I, J, h.2.2.2))) rfl ?_
            refine hk_cne (ix := v5.toInt) (iy := (-12)) rfl rfl rfl (fun z44 => ?_) (fun z44 => ?_)
            · refine qm_Ru.go 2 (c' := (117, [.ref w, .ref 111, .int s, .int tp, .int i, .int v5], [.int 1, .int tp], (h.1, I, J, h.2.2.2))) rfl ?_
              refine hk_cle (ix := tp.toInt) (iy := 1) rfl rfl rfl (fun z45 => ?_) (fun z45 => ?_)
              · refine qm_Ru.go 1 (c' := (148, [.ref w, .ref 111, .int s, .int tp, .int (i + 1), .int v5], [], (h.1, I, J, h.2.2.2))) rfl ?_
                obtain ⟨v46, q_v46, e_v46⟩ := hk_add (x := i) (y := 1) (a := i.toInt) (b := 1) rfl rfl (by omega) (by omega)
                rw [q_v46]
                refine qm_Ru.go 1 (c' := (20, [.ref w, .ref 111, .int s, .int tp, .int v46, .int v5], [], (h.1, I, J, h.2.2.2))) rfl ?_
                exact ih _ (by omega) (I) (J) tp v46 (.int v5) (fun o ho i => (e o ho i)) (by omega) (by omega) rfl
              · refine qm_Ru.go 1 (c' := (123, [.ref w, .ref 111, .int s, .int (tp + (-1)), .int i, .int v5], [], (h.1, I, J, h.2.2.2))) rfl ?_
                obtain ⟨v47, q_v47, e_v47⟩ := hk_add (x := tp) (y := (-1)) (a := tp.toInt) (b := (-1)) rfl rfl (by omega) (by omega)
                rw [q_v47]
                refine qm_Ru.go 4 (c' := (128, [.ref w, .ref 111, .int s, .int v47, .int i, .int v5], [.int (v5 ^^^ (-1)), .ref w], (h.1, I, J, h.2.2.2))) rfl ?_
                rw [q_v23]
                refine qm_Ru.go 1 (c' := (129, [.ref w, .ref 111, .int s, .int v47, .int i, .int v5], [.ref w, .int v23, .ref w], (h.1, I, J, h.2.2.2))) rfl ?_
                refine hk_getr rfl hD.1 rfl hD.2.2.1 ?_
                refine qm_Ru.go 3 (c' := (135, [.ref w, .ref 111, .int s, .int v47, .int i, .int v5], [.int (v47 - 1), .ref (w + 1), .int v23, .ref w], (h.1, I, J, h.2.2.2))) rfl ?_
                obtain ⟨v49, q_v49, e_v49⟩ := hk_sub (x := v47) (y := 1) (a := v47.toInt) (b := 1) rfl rfl (by omega) (by omega)
                rw [q_v49]
                refine hk_aal rfl hD.2.1 (by omega) (by omega) (hD.2.2.2.2.1 _ (by omega)) ?_
                refine qm_Ru.go 1 (c' := (137, [.ref w, .ref 111, .int s, .int v47, .int i, .int v5], [.ref w, .ref (w + 2 + v49.toInt.toNat), .int v23, .ref w], (h.1, I, J, h.2.2.2))) rfl ?_
                refine hk_getr rfl hD.1 rfl hD.2.2.1 ?_
                refine qm_Ru.go 1 (c' := (141, [.ref w, .ref 111, .int s, .int v47, .int i, .int v5], [.int v47, .ref (w + 1), .ref (w + 2 + v49.toInt.toNat), .int v23, .ref w], (h.1, I, J, h.2.2.2))) rfl ?_
                refine hk_aal rfl hD.2.1 (by omega) (by omega) (hD.2.2.2.2.1 _ (by omega)) ?_
                refine qm_Ru.go 0 (c' := (142, [.ref w, .ref 111, .int s, .int v47, .int i, .int v5], [.ref (w + 2 + v47.toInt.toNat), .ref (w + 2 + v49.toInt.toNat), .int v23, .ref w], (h.1, I, J, h.2.2.2))) rfl ?_
                refine hk_inv (o := w) (r := []) (as := [.ref w, .int v23, .ref (w + 2 + v49.toInt.toNat), .ref (w + 2 + v47.toInt.toNat)]) rfl rfl hD.1 rfl rfl rfl rfl (hs_wjoin (h := (h.1, I, J, h.2.2.2)) (w := w) (a := (w + 2 + v49.toInt.toNat)) (b := (w + 2 + v47.toInt.toNat)) hw (wd_same hD rfl rfl) (by show (I w 2).toInt ≤ 101; rw [show I w 2 = h.2.1 w 2 from (fun o ho i => (e o ho i)) w (Or.inl (by omega)) 2]; exact hl) (by omega) (by omega) (fun I50 J51 fe52 => ?_))
                have e52 : ∀ o, o < w + 2 ∨ w + 21 ≤ o → ∀ i, I50 o i = h.2.1 o i := fun o ho i => (fe52 o ho i).trans ((fun o ho i => (e o ho i)) o ho i)
                refine qm_Ru.go 1 (c' := (148, [.ref w, .ref 111, .int s, .int v47, .int (i + 1), .int v5], [], (h.1, I50, J51, h.2.2.2))) rfl ?_
                obtain ⟨v53, q_v53, e_v53⟩ := hk_add (x := i) (y := 1) (a := i.toInt) (b := 1) rfl rfl (by omega) (by omega)
                rw [q_v53]
                refine qm_Ru.go 1 (c' := (20, [.ref w, .ref 111, .int s, .int v47, .int v53, .int v5], [], (h.1, I50, J51, h.2.2.2))) rfl ?_
                exact ih _ (by omega) (I50) (J51) v47 v53 (.int v5) (fun o ho i => (e52 o ho i)) (by omega) (by omega) rfl
            · refine qm_Ru.go 1 (c' := (87, [.ref w, .ref 111, .int s, .int tp, .int i, .int v5], [.int tp], (h.1, I, J, h.2.2.2))) rfl ?_
              refine hk_zle (ix := tp.toInt) rfl rfl (fun z54 => ?_) (fun z54 => ?_)
              · refine qm_Ru.go 2 (c' := (117, [.ref w, .ref 111, .int s, .int tp, .int i, .int v5], [.int 1, .int tp], (h.1, I, J, h.2.2.2))) rfl ?_
                refine hk_cle (ix := tp.toInt) (iy := 1) rfl rfl rfl (fun z55 => ?_) (fun z55 => by exfalso; omega)
                refine qm_Ru.go 1 (c' := (148, [.ref w, .ref 111, .int s, .int tp, .int (i + 1), .int v5], [], (h.1, I, J, h.2.2.2))) rfl ?_
                obtain ⟨v56, q_v56, e_v56⟩ := hk_add (x := i) (y := 1) (a := i.toInt) (b := 1) rfl rfl (by omega) (by omega)
                rw [q_v56]
                refine qm_Ru.go 1 (c' := (20, [.ref w, .ref 111, .int s, .int tp, .int v56, .int v5], [], (h.1, I, J, h.2.2.2))) rfl ?_
                exact ih _ (by omega) (I) (J) tp v56 (.int v5) (fun o ho i => (e o ho i)) (by omega) (by omega) rfl
              · refine qm_Ru.go 1 (c' := (91, [.ref w, .ref 111, .int s, .int tp, .int i, .int v5], [.ref w], (h.1, I, J, h.2.2.2))) rfl ?_
                refine hk_getr rfl hD.1 rfl hD.2.2.1 ?_
                refine qm_Ru.go 3 (c' := (97, [.ref w, .ref 111, .int s, .int tp, .int i, .int v5], [.int (tp - 1), .ref (w + 1)], (h.1, I, J, h.2.2.2))) rfl ?_
                obtain ⟨v57, q_v57, e_v57⟩ := hk_sub (x := tp) (y := 1) (a := tp.toInt) (b := 1) rfl rfl (by omega) (by omega)
                rw [q_v57]
                refine hk_aal rfl hD.2.1 (by omega) (by omega) (hD.2.2.2.2.1 _ (by omega)) ?_
                refine qm_Ru.go 3 (c' := (101, [.ref w, .ref 111, .int s, .int tp, .int i, .int v5], [.ref w, .int 1, .int 0, .ref (w + 2 + v57.toInt.toNat)], (h.1, I, J, h.2.2.2))) rfl ?_
                refine hk_getr rfl hD.1 rfl hD.2.2.1 ?_
                refine qm_Ru.go 3 (c' := (107, [.ref w, .ref 111, .int s, .int tp, .int i, .int v5], [.int (tp - 1), .ref (w + 1), .int 1, .int 0, .ref (w + 2 + v57.toInt.toNat)], (h.1, I, J, h.2.2.2))) rfl ?_
                rw [q_v57]
                refine hk_aal rfl hD.2.1 (by omega) (by omega) (hD.2.2.2.2.1 _ (by omega)) ?_
                refine qm_Ru.go 1 (c' := (109, [.ref w, .ref 111, .int s, .int tp, .int i, .int v5], [.int 0, .ref (w + 2 + v57.toInt.toNat), .int 1, .int 0, .ref (w + 2 + v57.toInt.toNat)], (h.1, I, J, h.2.2.2))) rfl ?_
                obtain ⟨v59, q_v59⟩ : ∃ v, (I) (w + 2 + v57.toInt.toNat) 0 = v := ⟨_, rfl⟩
                refine hk_ial (v := v59) rfl (hD.2.2.2.2.2 _ (by omega) (by omega)) (by decide) (by decide) q_v59 ?_
                refine qm_Ru.go 1 (c' := (111, [.ref w, .ref 111, .int s, .int tp, .int i, .int v5], [.int (1 - v59), .int 0, .ref (w + 2 + v57.toInt.toNat)], (h.1, I, J, h.2.2.2))) rfl ?_
                obtain ⟨v60, q_v60⟩ : ∃ v, (1 - v59) = v := ⟨_, rfl⟩
                rw [q_v60]
                refine hk_ias rfl (hD.2.2.2.2.2 _ (by omega) (by omega)) (by decide) (by decide) ?_
                refine qm_Ru.go 2 (c' := (148, [.ref w, .ref 111, .int s, .int tp, .int (i + 1), .int v5], [], (h.1, qm_up I (w + 2 + v57.toInt.toNat) 0 v60, J, h.2.2.2))) rfl ?_
                obtain ⟨v61, q_v61, e_v61⟩ := hk_add (x := i) (y := 1) (a := i.toInt) (b := 1) rfl rfl (by omega) (by omega)
                rw [q_v61]
                refine qm_Ru.go 1 (c' := (20, [.ref w, .ref 111, .int s, .int tp, .int v61, .int v5], [], (h.1, qm_up I (w + 2 + v57.toInt.toNat) 0 v60, J, h.2.2.2))) rfl ?_
                exact ih _ (by omega) (qm_up I (w + 2 + v57.toInt.toNat) 0 v60) (J) tp v61 (.int v5) (fun o ho i => ((hk_on (by omega)).trans (e o ho i))) (by omega) (by omega) rfl
          · refine qm_Ru.go 2 (c' := (17, [.int v23], [.int 1], (h.1, I, J, h.2.2.2))) rfl ?_
            refine qm_Ru.rt (v := (some (.int 1))) (h' := (h.1, I, J, h.2.2.2)) rfl ?_
            refine qm_Ru.go 3 (c' := (18, [.int v5], [.int 1], (h.1, I, J, h.2.2.2))) rfl ?_
            refine qm_Ru.rt (v := (some (.int 1))) (h' := (h.1, I, J, h.2.2.2)) rfl ?_
            refine qm_Ru.go 3 (c' := (50, [.ref w, .ref 111, .int s, .int tp, .int i, .int v5], [.ref w, .int tp], (h.1, I, J, h.2.2.2))) rfl ?_
            refine hk_getr rfl hD.1 rfl hD.2.2.1 ?_
            refine qm_Ru.go 0 (c' := (53, [.ref w, .ref 111, .int s, .int tp, .int i, .int v5], [.ref (w + 1), .int tp], (h.1, I, J, h.2.2.2))) rfl ?_
            refine hk_len rfl hD.2.1 rfl ?_
            refine qm_Ru.go 0 (c' := (54, [.ref w, .ref 111, .int s, .int tp, .int i, .int v5], [.int 18, .int tp], (h.1, I, J, h.2.2.2))) rfl ?_
            refine hk_cge (ix := tp.toInt) (iy := 18) rfl rfl rfl (fun z62 => ?_) (fun z62 => ?_)
            · refine qm_Ru.go 2 (c' := (83, [.ref w, .ref 111, .int s, .int tp, .int i, .int v5], [.int (-12), .int v5], (h.1, I, J, h.2.2.2))) rfl ?_
              refine hk_cne (ix := v5.toInt) (iy := (-12)) rfl rfl rfl (fun z63 => ?_) (fun z63 => ?_)
              · refine qm_Ru.go 2 (c' := (117, [.ref w, .ref 111, .int s, .int tp, .int i, .int v5], [.int 1, .int tp], (h.1, I, J, h.2.2.2))) rfl ?_
                refine hk_cle (ix := tp.toInt) (iy := 1) rfl rfl rfl (fun z64 => by exfalso; omega) (fun z64 => ?_)
                refine qm_Ru.go 1 (c' := (123, [.ref w, .ref 111, .int s, .int (tp + (-1)), .int i, .int v5], [], (h.1, I, J, h.2.2.2))) rfl ?_
                obtain ⟨v65, q_v65, e_v65⟩ := hk_add (x := tp) (y := (-1)) (a := tp.toInt) (b := (-1)) rfl rfl (by omega) (by omega)
                rw [q_v65]
                refine qm_Ru.go 4 (c' := (128, [.ref w, .ref 111, .int s, .int v65, .int i, .int v5], [.int (v5 ^^^ (-1)), .ref w], (h.1, I, J, h.2.2.2))) rfl ?_
                rw [q_v23]
                refine qm_Ru.go 1 (c' := (129, [.ref w, .ref 111, .int s, .int v65, .int i, .int v5], [.ref w, .int v23, .ref w], (h.1, I, J, h.2.2.2))) rfl ?_
                refine hk_getr rfl hD.1 rfl hD.2.2.1 ?_
                refine qm_Ru.go 3 (c' := (135, [.ref w, .ref 111, .int s, .int v65, .int i, .int v5], [.int (v65 - 1), .ref (w + 1), .int v23, .ref w], (h.1, I, J, h.2.2.2))) rfl ?_
                obtain ⟨v67, q_v67, e_v67⟩ := hk_sub (x := v65) (y := 1) (a := v65.toInt) (b := 1) rfl rfl (by omega) (by omega)
                rw [q_v67]
                refine hk_aal rfl hD.2.1 (by omega) (by omega) (hD.2.2.2.2.1 _ (by omega)) ?_
                refine qm_Ru.go 1 (c' := (137, [.ref w, .ref 111, .int s, .int v65, .int i, .int v5], [.ref w, .ref (w + 2 + v67.toInt.toNat), .int v23, .ref w], (h.1, I, J, h.2.2.2))) rfl ?_
                refine hk_getr rfl hD.1 rfl hD.2.2.1 ?_
                refine qm_Ru.go 1 (c' := (141, [.ref w, .ref 111, .int s, .int v65, .int i, .int v5], [.int v65, .ref (w + 1), .ref (w + 2 + v67.toInt.toNat), .int v23, .ref w], (h.1, I, J, h.2.2.2))) rfl ?_
                refine hk_aal rfl hD.2.1 (by omega) (by omega) (hD.2.2.2.2.1 _ (by omega)) ?_
                refine qm_Ru.go 0 (c' := (142, [.ref w, .ref 111, .int s, .int v65, .int i, .int v5], [.ref (w + 2 + v65.toInt.toNat), .ref (w + 2 + v67.toInt.toNat), .int v23, .ref w], (h.1, I, J, h.2.2.2))) rfl ?_
                refine hk_inv (o := w) (r := []) (as := [.ref w, .int v23, .ref (w + 2 + v67.toInt.toNat), .ref (w + 2 + v65.toInt.toNat)]) rfl rfl hD.1 rfl rfl rfl rfl (hs_wjoin (h := (h.1, I, J, h.2.2.2)) (w := w) (a := (w + 2 + v67.toInt.toNat)) (b := (w + 2 + v65.toInt.toNat)) hw (wd_same hD rfl rfl) (by show (I w 2).toInt ≤ 101; rw [show I w 2 = h.2.1 w 2 from (fun o ho i => (e o ho i)) w (Or.inl (by omega)) 2]; exact hl) (by omega) (by omega) (fun I68 J69 fe70 => ?_))
                have e70 : ∀ o, o < w + 2 ∨ w + 21 ≤ o → ∀ i, I68 o i = h.2.1 o i := fun o ho i => (fe70 o ho i).trans ((fun o ho i => (e o ho i)) o ho i)
                refine qm_Ru.go 1 (c' := (148, [.ref w, .ref 111, .int s, .int v65, .int (i + 1), .int v5], [], (h.1, I68, J69, h.2.2.2))) rfl ?_
                obtain ⟨v71, q_v71, e_v71⟩ := hk_add (x := i) (y := 1) (a := i.toInt) (b := 1) rfl rfl (by omega) (by omega)
                rw [q_v71]
                refine qm_Ru.go 1 (c' := (20, [.ref w, .ref 111, .int s, .int v65, .int v71, .int v5], [], (h.1, I68, J69, h.2.2.2))) rfl ?_
                exact ih _ (by omega) (I68) (J69) v65 v71 (.int v5) (fun o ho i => (e70 o ho i)) (by omega) (by omega) rfl
              · refine qm_Ru.go 1 (c' := (87, [.ref w, .ref 111, .int s, .int tp, .int i, .int v5], [.int tp], (h.1, I, J, h.2.2.2))) rfl ?_
                refine hk_zle (ix := tp.toInt) rfl rfl (fun z72 => by exfalso; omega) (fun z72 => ?_)
                refine qm_Ru.go 1 (c' := (91, [.ref w, .ref 111, .int s, .int tp, .int i, .int v5], [.ref w], (h.1, I, J, h.2.2.2))) rfl ?_
                refine hk_getr rfl hD.1 rfl hD.2.2.1 ?_
                refine qm_Ru.go 3 (c' := (97, [.ref w, .ref 111, .int s, .int tp, .int i, .int v5], [.int (tp - 1), .ref (w + 1)], (h.1, I, J, h.2.2.2))) rfl ?_
                obtain ⟨v73, q_v73, e_v73⟩ := hk_sub (x := tp) (y := 1) (a := tp.toInt) (b := 1) rfl rfl (by omega) (by omega)
                rw [q_v73]
                refine hk_aal rfl hD.2.1 (by omega) (by omega) (hD.2.2.2.2.1 _ (by omega)) ?_
                refine qm_Ru.go 3 (c' := (101, [.ref w, .ref 111, .int s, .int tp, .int i, .int v5], [.ref w, .int 1, .int 0, .ref (w + 2 + v73.toInt.toNat)], (h.1, I, J, h.2.2.2))) rfl ?_
                refine hk_getr rfl hD.1 rfl hD.2.2.1 ?_
                refine qm_Ru.go 3 (c' := (107, [.ref w, .ref 111, .int s, .int tp, .int i, .int v5], [.int (tp - 1), .ref (w + 1), .int 1, .int 0, .ref (w + 2 + v73.toInt.toNat)], (h.1, I, J, h.2.2.2))) rfl ?_
                rw [q_v73]
                refine hk_aal rfl hD.2.1 (by omega) (by omega) (hD.2.2.2.2.1 _ (by omega)) ?_
                refine qm_Ru.go 1 (c' := (109, [.ref w, .ref 111, .int s, .int tp, .int i, .int v5], [.int 0, .ref (w + 2 + v73.toInt.toNat), .int 1, .int 0, .ref (w + 2 + v73.toInt.toNat)], (h.1, I, J, h.2.2.2))) rfl ?_
                obtain ⟨v75, q_v75⟩ : ∃ v, (I) (w + 2 + v73.toInt.toNat) 0 = v := ⟨_, rfl⟩
                refine hk_ial (v := v75) rfl (hD.2.2.2.2.2 _ (by omega) (by omega)) (by decide) (by decide) q_v75 ?_
                refine qm_Ru.go 1 (c' := (111, [.ref w, .ref 111, .int s, .int tp, .int i, .int v5], [.int (1 - v75), .int 0, .ref (w + 2 + v73.toInt.toNat)], (h.1, I, J, h.2.2.2))) rfl ?_
                obtain ⟨v76, q_v76⟩ : ∃ v, (1 - v75) = v := ⟨_, rfl⟩
                rw [q_v76]
                refine hk_ias rfl (hD.2.2.2.2.2 _ (by omega) (by omega)) (by decide) (by decide) ?_
                refine qm_Ru.go 2 (c' := (148, [.ref w, .ref 111, .int s, .int tp, .int (i + 1), .int v5], [], (h.1, qm_up I (w + 2 + v73.toInt.toNat) 0 v76, J, h.2.2.2))) rfl ?_
                obtain ⟨v77, q_v77, e_v77⟩ := hk_add (x := i) (y := 1) (a := i.toInt) (b := 1) rfl rfl (by omega) (by omega)
                rw [q_v77]
                refine qm_Ru.go 1 (c' := (20, [.ref w, .ref 111, .int s, .int tp, .int v77, .int v5], [], (h.1, qm_up I (w + 2 + v73.toInt.toNat) 0 v76, J, h.2.2.2))) rfl ?_
                exact ih _ (by omega) (qm_up I (w + 2 + v73.toInt.toNat) 0 v76) (J) tp v77 (.int v5) (fun o ho i => ((hk_on (by omega)).trans (e o ho i))) (by omega) (by omega) rfl
            · refine qm_Ru.go 2 (c' := (59, [.ref w, .ref 111, .int s, .int tp, .int i, .int v5], [.ref w, .ref w], (h.1, I, J, h.2.2.2))) rfl ?_
              refine hk_getr rfl hD.1 rfl hD.2.2.1 ?_
              refine qm_Ru.go 1 (c' := (63, [.ref w, .ref 111, .int s, .int tp, .int i, .int v5], [.int tp, .ref (w + 1), .ref w], (h.1, I, J, h.2.2.2))) rfl ?_
              refine hk_aal rfl hD.2.1 (by omega) (by omega) (hD.2.2.2.2.1 _ (by omega)) ?_
              refine qm_Ru.go 2 (c' := (67, [.ref w, .ref 111, .int s, .int tp, .int i, .int v5], [.int v5, .ref 111, .ref (w + 2 + tp.toInt.toNat), .ref w], (h.1, I, J, h.2.2.2))) rfl ?_
              refine hk_inv (o := 111) (r := [.ref (w + 2 + tp.toInt.toNat), .ref w]) (as := [.ref 111, .int v5]) rfl rfl (hH.1 111 (11, 16) rfl) rfl rfl rfl rfl ?_
              refine qm_Ru.go 1 (c' := (1, [.ref 111, .int v5], [.int v5], (h.1, I, J, h.2.2.2))) rfl ?_
              refine hk_zlt (ix := v5.toInt) rfl rfl (fun z78 => ?_) (fun z78 => by exfalso; omega)
              refine qm_Ru.go 1 (c' := (9, [.ref 111, .int v5], [.ref 111], (h.1, I, J, h.2.2.2))) rfl ?_
              refine hk_getr rfl (hH.1 111 (11, 16) rfl) rfl (hH.2 111 12 (some 116) rfl) ?_
              refine qm_Ru.go 3 (c' := (15, [.ref 111, .int v5], [.int (v5 ^^^ (-1)), .ref 116], (h.1, I, J, h.2.2.2))) rfl ?_
              rw [q_v23]
              refine qm_Ru.go 2 (c' := (18, [.ref 111, .int v5], [.int (v23 - 12), .ref 116], (h.1, I, J, h.2.2.2))) rfl ?_
              obtain ⟨v80, q_v80, e_v80⟩ := hk_sub (x := v23) (y := 12) (a := v23.toInt) (b := 12) rfl rfl (by omega) (by omega)
              rw [q_v80]
              obtain ⟨v81, q_v81⟩ : ∃ v, h.2.1 116 (v80.toInt.toNat) = v := ⟨_, rfl⟩
              refine hk_ial (v := v81) rfl (hH.1 116 (0, 13) rfl) (by omega) (by omega) (show (I) 116 (v80.toInt.toNat) = _ from ((e 116 (Or.inl (by omega)) (v80.toInt.toNat)).trans q_v81)) ?_
              refine qm_Ru.go 0 (c' := (19, [.ref 111, .int v5], [.int v81], (h.1, I, J, h.2.2.2))) rfl ?_
              refine qm_Ru.rt (v := (some (.int v81))) (h' := (h.1, I, J, h.2.2.2)) rfl ?_
              refine qm_Ru.go 0 (c' := (70, [.ref w, .ref 111, .int s, .int tp, .int i, .int v5], [.int v81, .ref (w + 2 + tp.toInt.toNat), .ref w], (h.1, I, J, h.2.2.2))) rfl ?_
              refine hk_inv (o := w) (r := []) (as := [.ref w, .ref (w + 2 + tp.toInt.toNat), .int v81]) rfl rfl hD.1 rfl rfl rfl rfl (hs_wwr (h := (h.1, I, J, h.2.2.2)) (w := w) (a := (w + 2 + tp.toInt.toNat)) hw (wd_same hD rfl rfl) (by show (I w 2).toInt ≤ 101; rw [show I w 2 = h.2.1 w 2 from (fun o ho i => (e o ho i)) w (Or.inl (by omega)) 2]; exact hl) (by omega) (fun I82 J83 fe84 => ?_))
              have e84 : ∀ o, o < w + 2 ∨ w + 21 ≤ o → ∀ i, I82 o i = h.2.1 o i := fun o ho i => (fe84 o ho i).trans ((fun o ho i => (e o ho i)) o ho i)
              refine qm_Ru.go 1 (c' := (76, [.ref w, .ref 111, .int s, .int (tp + 1), .int i, .int v5], [], (h.1, I82, J83, h.2.2.2))) rfl ?_
              obtain ⟨v85, q_v85, e_v85⟩ := hk_add (x := tp) (y := 1) (a := tp.toInt) (b := 1) rfl rfl (by omega) (by omega)
              rw [q_v85]
              refine qm_Ru.go 2 (c' := (148, [.ref w, .ref 111, .int s, .int v85, .int (i + 1), .int v5], [], (h.1, I82, J83, h.2.2.2))) rfl ?_
              obtain ⟨v86, q_v86, e_v86⟩ := hk_add (x := i) (y := 1) (a := i.toInt) (b := 1) rfl rfl (by omega) (by omega)
              rw [q_v86]
              refine qm_Ru.go 1 (c' := (20, [.ref w, .ref 111, .int s, .int v85, .int v86, .int v5], [], (h.1, I82, J83, h.2.2.2))) rfl ?_
              exact ih _ (by omega) (I82) (J83) v85 v86 (.int v5) (fun o ho i => (e84 o ho i)) (by omega) (by omega) rfl
theorem hs_whold111 {L : Nat} {xs : Nat → Int32} {d : Nat} {Z : Option Value → qm_H → Prop} {h : qm_H} {w : Nat} (hH : hk_H h) (hB : hk_B h.2.1) (hw : 192 ≤ w) (hD : wd h w) {s : Int32} (hs : (0 : Int) ≤ s.toInt ∧ s.toInt ≤ 15) (k : ∀ (v : Int32) (I : Nat → Nat → Int32) (J : Nat → Nat → Int64), (0 : Int) ≤ v.toInt ∧ v.toInt ≤ 1 → (∀ o, o < w ∨ w + 21 ≤ o → ∀ i, I o i = h.2.1 o i) → Z (some (.int v)) (h.1, I, J, h.2.2.2)) : qm_Ru (some (L, xs)) (d + 3) cd_123 (qm_ent 6 [.ref w, .ref 111, .int s] h) Z := by
  show qm_Ru (some (L, xs)) (d + 3) cd_123 (0, [.ref w, .ref 111, .int s, .float 0, .float 0, .float 0], [], h) Z
  refine qm_Ru.go 2 (c' := (2, [.ref w, .ref 111, .int s, .float 0, .float 0, .float 0], [.ref 111, .ref w], h)) rfl ?_
  refine hk_getr rfl (hH.1 111 (11, 16) rfl) rfl (hH.2 111 11 (some 115) rfl) ?_
  refine qm_Ru.go 1 (c' := (6, [.ref w, .ref 111, .int s, .float 0, .float 0, .float 0], [.int s, .ref 115, .ref w], h)) rfl ?_
  obtain ⟨v1, q_v1⟩ : ∃ v, h.2.1 115 (s.toInt.toNat) = v := ⟨_, rfl⟩
  have b_v1 : (0 : Int) ≤ v1.toInt ∧ v1.toInt ≤ 101 := by rw [← q_v1]; exact hB 115 (s.toInt.toNat)
  refine hk_ial (v := v1) rfl (hH.1 115 (0, 16) rfl) (by omega) (by omega) q_v1 ?_
  refine qm_Ru.go 0 (c' := (7, [.ref w, .ref 111, .int s, .float 0, .float 0, .float 0], [.int v1, .ref w], h)) rfl ?_
  refine hk_puti rfl hD.1 rfl ?_
  refine qm_Ru.go 3 (c' := (13, [.ref w, .ref 111, .int s, .int 0, .float 0, .float 0], [.ref 111], (h.1, qm_up h.2.1 w 2 v1, h.2.2.1, h.2.2.2))) rfl ?_
  refine hk_getr rfl (hH.1 111 (11, 16) rfl) rfl (hH.2 111 9 (some 113) rfl) ?_
  refine qm_Ru.go 1 (c' := (17, [.ref w, .ref 111, .int s, .int 0, .float 0, .float 0], [.int s, .ref 113], (h.1, qm_up h.2.1 w 2 v1, h.2.2.1, h.2.2.2))) rfl ?_
  obtain ⟨v2, q_v2⟩ : ∃ v, h.2.1 113 (s.toInt.toNat) = v := ⟨_, rfl⟩
  have b_v2 : (0 : Int) ≤ v2.toInt ∧ v2.toInt ≤ 400 := by rw [← q_v2]; exact hB 113 (s.toInt.toNat)
  refine hk_ial (v := v2) rfl (hH.1 113 (0, 16) rfl) (by omega) (by omega) (show (qm_up h.2.1 w 2 v1) 113 (s.toInt.toNat) = _ from ((hk_on (by omega)).trans q_v2)) ?_
  refine qm_Ru.go 1 (c' := (20, [.ref w, .ref 111, .int s, .int 0, .int v2, .float 0], [], (h.1, qm_up h.2.1 w 2 v1, h.2.2.1, h.2.2.2))) rfl ?_
  refine hl_whold111 (h := (h.1, qm_up h.2.1 w 2 v1, h.2.2.1, h.2.2.2)) (w := w) ⟨hH.1, hH.2⟩ (hb_up hB (hb_hi hw)) hw (wd_same hD rfl rfl) (by show (qm_up h.2.1 w 2 v1 w 2).toInt ≤ 101; rw [hk_same]; omega) hs ?_ _ (qm_up h.2.1 w 2 v1) h.2.2.1 0 v2 _ (fun _ _ _ => rfl) (by decide) (by omega) rfl
  exact fun v I J hv e => k v I J hv (fun o ho i => (e o (by omega) i).trans (hk_on (by omega)))
