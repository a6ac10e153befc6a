/-! contracts of the reference by hand -/
theorem hl_sfd {L : Nat} {xs : Nat → Int32} {d : Nat} {Z : Option Value → qm_H → Prop} {h : qm_H} (h6 : 6 ≤ L) (hH : hk_H h) (hB : hk_B h.2.1) (ht : tw (pI h.2.1 22)) {fr : Int32} (k : ∀ (v : Int32) (I : Nat → Nat → Int32) (J : Nat → Nat → Int64), (v.toInt = -1 ∨ (((0 : Int) ≤ v.toInt ∧ v.toInt ≤ 3) ∧ v.toInt ≠ fr.toInt ∧ (pI h.2.1 22) (16 + v.toInt.toNat) ≤ 3)) → hk_B I → (∀ o, [].contains o = false → ∀ i, I o i = h.2.1 o i) → Z (some (.int v)) (h.1, I, J, h.2.2.2)) : ∀ (m : Nat) (I : Nat → Nat → Int32) (J : Nat → Nat → Int64) (be : Int32) (la : Int32) (s : Int32), hk_B I → (∀ o, [].contains o = false → ∀ i, I o i = h.2.1 o i) → ((0 : Int) ≤ s.toInt ∧ s.toInt ≤ 4) → (be.toInt = -1 ∨ (((0 : Int) ≤ be.toInt ∧ be.toInt ≤ 3) ∧ be.toInt ≠ fr.toInt ∧ (pI h.2.1 22) (16 + be.toInt.toNat) ≤ 3)) → (4 - s.toInt).toNat = m → qm_Ru (some (L, xs)) (d + 40) cd_165 (7, [.ref 22, .int fr, .int be, .int la, .int s], [], (h.1, I, J, h.2.2.2)) Z := by
  intro m
  induction m using Nat.strongRecOn with
  | ind m ih =>
    intro I J be la s hBI e b_s hbe hm
    refine qm_Ru.go 2 (c' := (10, [.ref 22, .int fr, .int be, .int la, .int s], [.int 4, .int s], (h.1, I, J, h.2.2.2))) rfl ?_
    refine hk_cge (ix := s.toInt) (iy := 4) rfl rfl rfl (fun z1 => ?_) (fun z1 => ?_)
    · refine qm_Ru.go 1 (c' := (57, [.ref 22, .int fr, .int be, .int la, .int s], [.int be], (h.1, I, J, h.2.2.2))) rfl ?_
      refine qm_Ru.rt (v := (some (.int be))) (h' := (h.1, I, J, h.2.2.2)) rfl ?_
      exact k be (I) (J) hbe hBI (fun o ho i => (e o ho i))
    · refine qm_Ru.go 2 (c' := (16, [.ref 22, .int fr, .int be, .int la, .int s], [.int fr, .int s], (h.1, I, J, h.2.2.2))) rfl ?_
      refine hk_ceq (ix := s.toInt) (iy := fr.toInt) rfl rfl rfl (fun z2 => ?_) (fun z2 => ?_)
      · refine qm_Ru.go 1 (c' := (53, [.ref 22, .int fr, .int be, .int la, .int (s + 1)], [], (h.1, I, J, h.2.2.2))) rfl ?_
        obtain ⟨v3, q_v3, e_v3⟩ := hk_add (x := s) (y := 1) (a := s.toInt) (b := 1) rfl rfl (by omega) (by omega)
        rw [q_v3]
        refine qm_Ru.go 1 (c' := (7, [.ref 22, .int fr, .int be, .int la, .int v3], [], (h.1, I, J, h.2.2.2))) rfl ?_
        exact ih _ (by omega) (I) (J) be la v3 hBI (fun o ho i => (e o ho i)) (by omega) hbe rfl
      · refine qm_Ru.go 4 (c' := (25, [.ref 22, .int fr, .int be, .int la, .int s], [.int (16 + s), .ref 22], (h.1, I, J, h.2.2.2))) rfl ?_
        obtain ⟨v4, q_v4, e_v4⟩ := hk_add (x := 16) (y := s) (a := 16) (b := s.toInt) rfl rfl (by omega) (by omega)
        rw [q_v4]
        obtain ⟨v5, q_v5⟩ : ∃ v, h.2.1 22 (v4.toInt.toNat) = v := ⟨_, rfl⟩
        have b_v5 : (0 : Int) ≤ v5.toInt ∧ v5.toInt ≤ 12 := by rw [← q_v5]; exact hB 22 (v4.toInt.toNat)
        refine hk_ial (v := v5) rfl (hH.1 22 (0, 21) rfl) (by omega) (by omega) (show (I) 22 (v4.toInt.toNat) = _ from ((e 22 rfl (v4.toInt.toNat)).trans q_v5)) ?_
        refine qm_Ru.go 0 (c' := (26, [.ref 22, .int fr, .int be, .int la, .int s], [.int v5], (h.1, I, J, h.2.2.2))) rfl ?_
        have r_v5 : (0 : Int) ≤ v5.toInt ∧ v5.toInt ≤ 4 := by rw [← q_v5, show v4.toInt.toNat = 16 + s.toInt.toNat from by omega]; exact ht _ (by omega)
        have l_v5 : (pI h.2.1 22) (16 + s.toInt.toNat) = v5.toInt := (congrArg (pI h.2.1 22) (show 16 + s.toInt.toNat = v4.toInt.toNat from by omega)).trans (congrArg Int32.toInt q_v5)
        refine qm_Ru.go 1 (c' := (27, [.ref 22, .int fr, .int be, .int la, .int s], [.int 4, .int v5], (h.1, I, J, h.2.2.2))) rfl ?_
        refine hk_cge (ix := v5.toInt) (iy := 4) rfl rfl rfl (fun z6 => ?_) (fun z6 => ?_)
        · refine qm_Ru.go 1 (c' := (53, [.ref 22, .int fr, .int be, .int la, .int (s + 1)], [], (h.1, I, J, h.2.2.2))) rfl ?_
          obtain ⟨v7, q_v7, e_v7⟩ := hk_add (x := s) (y := 1) (a := s.toInt) (b := 1) rfl rfl (by omega) (by omega)
          rw [q_v7]
          refine qm_Ru.go 1 (c' := (7, [.ref 22, .int fr, .int be, .int la, .int v7], [], (h.1, I, J, h.2.2.2))) rfl ?_
          exact ih _ (by omega) (I) (J) be la v7 hBI (fun o ho i => (e o ho i)) (by omega) hbe rfl
        · refine qm_Ru.go 2 (c' := (33, [.ref 22, .int fr, .int be, .int la, .int s], [.int s, .ref 22], (h.1, I, J, h.2.2.2))) rfl ?_
          refine qm_Ru.call (j := 163) (as := [.ref 22, .int s]) (c' := (36, [.ref 22, .int fr, .int be, .int la, .int s], [], (h.1, I, J, h.2.2.2))) rfl rfl rfl (hs_soon_22 (h := (h.1, I, J, h.2.2.2)) h6 hH hBI (by show tw (pI I 22); rw [(show pI I 22 = pI h.2.1 22 from funext fun i => congrArg Int32.toInt (e 22 rfl i))]; exact ht) (s := s) (by omega) (fun v10 I8 J9 b_v10 k_v10 _ e_I8 => ?_))
          have e_I8 : I = I8 := funext fun o => funext fun i => (e_I8 o rfl i).symm
          subst e_I8
          refine qm_Ru.go 1 (c' := (37, [.ref 22, .int fr, .int be, .int la, .int s], [.int la, .int v10], (h.1, I, J9, h.2.2.2))) rfl ?_
          refine hk_cle (ix := v10.toInt) (iy := la.toInt) rfl rfl rfl (fun z11 => ?_) (fun z11 => ?_)
          · refine qm_Ru.go 1 (c' := (53, [.ref 22, .int fr, .int be, .int la, .int (s + 1)], [], (h.1, I, J9, h.2.2.2))) rfl ?_
            obtain ⟨v12, q_v12, e_v12⟩ := hk_add (x := s) (y := 1) (a := s.toInt) (b := 1) rfl rfl (by omega) (by omega)
            rw [q_v12]
            refine qm_Ru.go 1 (c' := (7, [.ref 22, .int fr, .int be, .int la, .int v12], [], (h.1, I, J9, h.2.2.2))) rfl ?_
            exact ih _ (by omega) (I) (J9) be la v12 hBI (fun o ho i => (e o ho i)) (by omega) hbe rfl
          · refine qm_Ru.go 2 (c' := (43, [.ref 22, .int fr, .int be, .int la, .int s], [.int s, .ref 22], (h.1, I, J9, h.2.2.2))) rfl ?_
            refine qm_Ru.call (j := 163) (as := [.ref 22, .int s]) (c' := (46, [.ref 22, .int fr, .int be, .int la, .int s], [], (h.1, I, J9, h.2.2.2))) rfl rfl rfl (hs_soon_22 (h := (h.1, I, J9, h.2.2.2)) h6 hH hBI (by show tw (pI I 22); rw [(show pI I 22 = pI h.2.1 22 from funext fun i => congrArg Int32.toInt (e 22 rfl i))]; exact ht) (s := s) (by omega) (fun v15 I13 J14 b_v15 k_v15 _ e_I13 => ?_))
            have e_I13 : I = I13 := funext fun o => funext fun i => (e_I13 o rfl i).symm
            subst e_I13
            refine qm_Ru.go 4 (c' := (53, [.ref 22, .int fr, .int s, .int v15, .int (s + 1)], [], (h.1, I, J14, h.2.2.2))) rfl ?_
            obtain ⟨v16, q_v16, e_v16⟩ := hk_add (x := s) (y := 1) (a := s.toInt) (b := 1) rfl rfl (by omega) (by omega)
            rw [q_v16]
            refine qm_Ru.go 1 (c' := (7, [.ref 22, .int fr, .int s, .int v15, .int v16], [], (h.1, I, J14, h.2.2.2))) rfl ?_
            exact ih _ (by omega) (I) (J14) s v15 v16 hBI (fun o ho i => (e o ho i)) (by omega) (Or.inr ⟨by omega, by omega, by rw [l_v5]; omega⟩) rfl
theorem hs_sfd {L : Nat} {xs : Nat → Int32} {d : Nat} {Z : Option Value → qm_H → Prop} {h : qm_H} (h6 : 6 ≤ L) (hH : hk_H h) (hB : hk_B h.2.1) (ht : tw (pI h.2.1 22)) {fr : Int32} (k : ∀ (v : Int32) (I : Nat → Nat → Int32) (J : Nat → Nat → Int64), (v.toInt = -1 ∨ (((0 : Int) ≤ v.toInt ∧ v.toInt ≤ 3) ∧ v.toInt ≠ fr.toInt ∧ (pI h.2.1 22) (16 + v.toInt.toNat) ≤ 3)) → hk_B I → (∀ o, [].contains o = false → ∀ i, I o i = h.2.1 o i) → Z (some (.int v)) (h.1, I, J, h.2.2.2)) : qm_Ru (some (L, xs)) (d + 40) cd_165 (qm_ent 5 [.ref 22, .int fr] h) Z := by
  refine qm_Ru.go 6 (c' := (7, [.ref 22, .int fr, .int (-1), .int (-1), .int 0], [], h)) rfl ?_
  exact hl_sfd h6 hH hB ht k _ h.2.1 h.2.2.1 (-1) (-1) 0 hB (fun _ _ _ => rfl) (by decide) (Or.inl rfl) rfl
theorem hl_dr1 {L : Nat} {xs : Nat → Int32} {d : Nat} {Z : Option Value → qm_H → Prop} {h : qm_H} (h6 : 6 ≤ L) (hH : hk_H h) (hB : hk_B h.2.1) {al : Int32} (b_al : (0 : Int) ≤ al.toInt ∧ al.toInt ≤ 12) {tu fr : Int32} (b_tu : (0 : Int) ≤ tu.toInt ∧ tu.toInt ≤ 11) (b_fr : (-1 : Int) ≤ fr.toInt ∧ fr.toInt ≤ 3) (k : ∀ (v : Int32) (I : Nat → Nat → Int32) (J : Nat → Nat → Int64), (-2 : Int) ≤ v.toInt ∧ v.toInt ≤ 36 → hk_B I → (∀ o, [19, 22].contains o = false → ∀ i, I o i = h.2.1 o i) → Z (some (.int v)) (h.1, I, J, h.2.2.2)) (ko : ∀ (I : Nat → Nat → Int32) (J : Nat → Nat → Int64) (md2 tu2 : Int32) (l5 l6 : Value), hk_B I → (∀ o, [19, 22].contains o = false → ∀ i, I o i = h.2.1 o i) → tu2.toInt = tu.toInt + 1 → ((0 : Int) ≤ md2.toInt ∧ md2.toInt ≤ 36) → tw (pI I 22) → qm_Ru (some (L, xs)) (d + 80) cd_160 (17, [.ref 15, .int al, .ref 22, .int md2, .int tu2, l5, l6], [], (h.1, I, J, h.2.2.2)) Z) : ∀ (m : Nat) (I : Nat → Nat → Int32) (J : Nat → Nat → Int64) (md : Int32) (l6 : Value), hk_B I → (∀ o, [19, 22].contains o = false → ∀ i, I o i = h.2.1 o i) → ((0 : Int) ≤ md.toInt ∧ md.toInt ≤ 36) → (tw (pI I 22)) → (fr.toInt = -1 ∨ (((0 : Int) ≤ fr.toInt ∧ fr.toInt ≤ 3) ∧ con (pI I 22) fr.toInt.toNat tu.toInt)) → (36 - md.toInt).toNat = m → qm_Ru (some (L, xs)) (d + 80) cd_160 (31, [.ref 15, .int al, .ref 22, .int md, .int tu, .int fr, l6], [], (h.1, I, J, h.2.2.2)) Z := by
  intro m
  induction m using Nat.strongRecOn with
  | ind m ih =>
    intro I J md l6 hBI e h_md htw hcon hm
    refine qm_Ru.go 2 (c' := (34, [.ref 15, .int al, .ref 22, .int md, .int tu, .int fr, l6], [.int (-1), .int fr], (h.1, I, J, h.2.2.2))) rfl ?_
    refine hk_ceq (ix := fr.toInt) (iy := (-1)) rfl rfl rfl (fun z1 => ?_) (fun z1 => ?_)
    · refine qm_Ru.go 2 (c' := (105, [.ref 15, .int al, .ref 22, .int md, .int tu, .int fr, l6], [.int (-1), .int fr], (h.1, I, J, h.2.2.2))) rfl ?_
      refine hk_ceq (ix := fr.toInt) (iy := (-1)) rfl rfl rfl (fun z2 => ?_) (fun z2 => by exfalso; omega)
      refine qm_Ru.go 1 (c' := (122, [.ref 15, .int al, .ref 22, .int md, .int (tu + 1), .int fr, l6], [], (h.1, I, J, h.2.2.2))) rfl ?_
      obtain ⟨v3, q_v3, e_v3⟩ := hk_add (x := tu) (y := 1) (a := tu.toInt) (b := 1) rfl rfl (by omega) (by omega)
      rw [q_v3]
      refine qm_Ru.go 1 (c' := (17, [.ref 15, .int al, .ref 22, .int md, .int v3, .int fr, l6], [], (h.1, I, J, h.2.2.2))) rfl ?_
      exact ko (I) (J) md v3 (.int fr) l6 hBI (fun o ho i => (e o ho i)) (by omega) (by omega) htw
    · refine qm_Ru.go 2 (c' := (40, [.ref 15, .int al, .ref 22, .int md, .int tu, .int fr, l6], [.int fr, .ref 22], (h.1, I, J, h.2.2.2))) rfl ?_
      refine qm_Ru.call (j := 164) (as := [.ref 22, .int fr]) (c' := (43, [.ref 15, .int al, .ref 22, .int md, .int tu, .int fr, l6], [], (h.1, I, J, h.2.2.2))) rfl rfl rfl ?_
      refine qm_Ru.go 4 (c' := (5, [.ref 22, .int fr, .float 0], [.int (16 + fr), .ref 22], (h.1, I, J, h.2.2.2))) rfl ?_
      obtain ⟨v4, q_v4, e_v4⟩ := hk_add (x := 16) (y := fr) (a := 16) (b := fr.toInt) rfl rfl (by omega) (by omega)
      rw [q_v4]
      obtain ⟨v5, q_v5⟩ : ∃ v, I 22 (v4.toInt.toNat) = v := ⟨_, rfl⟩
      have b_v5 : (0 : Int) ≤ v5.toInt ∧ v5.toInt ≤ 12 := by rw [← q_v5]; exact hBI 22 (v4.toInt.toNat)
      refine hk_ial (v := v5) rfl (hH.1 22 (0, 21) rfl) (by omega) (by omega) q_v5 ?_
      refine qm_Ru.go 0 (c' := (6, [.ref 22, .int fr, .float 0], [.int v5], (h.1, I, J, h.2.2.2))) rfl ?_
      have r_v5 : (0 : Int) ≤ v5.toInt ∧ v5.toInt ≤ 4 := by rw [← q_v5, show v4.toInt.toNat = 16 + fr.toInt.toNat from by omega]; exact htw _ (by omega)
      have l_v5 : (pI I 22) (16 + fr.toInt.toNat) = v5.toInt := ((congrArg (pI I 22) (show 16 + fr.toInt.toNat = v4.toInt.toNat from by omega)).trans (congrArg Int32.toInt q_v5))
      obtain ⟨_, hc⟩ := hcon.resolve_left (by omega)
      have o_v5 := con_h hc l_v5
      refine qm_Ru.go 2 (c' := (8, [.ref 22, .int fr, .int v5], [.int v5], (h.1, I, J, h.2.2.2))) rfl ?_
      refine hk_zne (ix := v5.toInt) rfl rfl (fun z6 => ?_) (fun z6 => by exfalso; omega)
      refine qm_Ru.go 4 (c' := (20, [.ref 22, .int fr, .int v5], [.int (fr * 4), .ref 22], (h.1, I, J, h.2.2.2))) rfl ?_
      obtain ⟨v7, q_v7, e_v7⟩ := hk_mul (x := fr) (y := 4) (a := fr.toInt) (b := 4) rfl rfl (by omega) (by omega)
      rw [q_v7]
      refine qm_Ru.go 2 (c' := (22, [.ref 22, .int fr, .int v5], [.int (v7 + v5), .ref 22], (h.1, I, J, h.2.2.2))) rfl ?_
      obtain ⟨v8, q_v8, e_v8⟩ := hk_add (x := v7) (y := v5) (a := v7.toInt) (b := v5.toInt) rfl rfl (by omega) (by omega)
      rw [q_v8]
      refine qm_Ru.go 2 (c' := (24, [.ref 22, .int fr, .int v5], [.int (v8 - 1), .ref 22], (h.1, I, J, h.2.2.2))) rfl ?_
      obtain ⟨v9, q_v9, e_v9⟩ := hk_sub (x := v8) (y := 1) (a := v8.toInt) (b := 1) rfl rfl (by omega) (by omega)
      rw [q_v9]
      obtain ⟨v10, q_v10⟩ : ∃ v, I 22 (v9.toInt.toNat) = v := ⟨_, rfl⟩
      have b_v10 : (0 : Int) ≤ v10.toInt ∧ v10.toInt ≤ 12 := by rw [← q_v10]; exact hBI 22 (v9.toInt.toNat)
      refine hk_ial (v := v10) rfl (hH.1 22 (0, 21) rfl) (by omega) (by omega) q_v10 ?_
      refine qm_Ru.go 0 (c' := (25, [.ref 22, .int fr, .int v5], [.int v10], (h.1, I, J, h.2.2.2))) rfl ?_
      have l_v10 : (pI I 22) (4 * fr.toInt.toNat + (v5.toInt - 1).toNat) = v10.toInt := ((congrArg (pI I 22) (show 4 * fr.toInt.toNat + (v5.toInt - 1).toNat = v9.toInt.toNat from by omega)).trans (congrArg Int32.toInt q_v10))
      refine qm_Ru.rt (v := (some (.int v10))) (h' := (h.1, I, J, h.2.2.2)) rfl ?_
      refine qm_Ru.go 1 (c' := (45, [.ref 15, .int al, .ref 22, .int md, .int tu, .int fr, l6], [.int tu, .int v10], (h.1, I, J, h.2.2.2))) rfl ?_
      refine hk_ceq (ix := v10.toInt) (iy := tu.toInt) rfl rfl rfl (fun z11 => ?_) (fun z11 => ?_)
      · refine qm_Ru.go 2 (c' := (105, [.ref 15, .int al, .ref 22, .int md, .int tu, .int fr, l6], [.int (-1), .int fr], (h.1, I, J, h.2.2.2))) rfl ?_
        refine hk_ceq (ix := fr.toInt) (iy := (-1)) rfl rfl rfl (fun z12 => by exfalso; omega) (fun z12 => ?_)
        refine qm_Ru.go 4 (c' := (114, [.ref 15, .int al, .ref 22, .int md, .int tu, .int fr, l6], [.int (16 + fr), .ref 22], (h.1, I, J, h.2.2.2))) rfl ?_
        rw [q_v4]
        refine qm_Ru.go 1 (c' := (115, [.ref 15, .int al, .ref 22, .int md, .int tu, .int fr, l6], [.int v4, .ref 22, .int v4, .ref 22], (h.1, I, J, h.2.2.2))) rfl ?_
        refine hk_ial (v := v5) rfl (hH.1 22 (0, 21) rfl) (by omega) (by omega) q_v5 ?_
        refine qm_Ru.go 2 (c' := (118, [.ref 15, .int al, .ref 22, .int md, .int tu, .int fr, l6], [.int (v5 - 1), .int v4, .ref 22], (h.1, I, J, h.2.2.2))) rfl ?_
        obtain ⟨v14, q_v14, e_v14⟩ := hk_sub (x := v5) (y := 1) (a := v5.toInt) (b := 1) rfl rfl (by omega) (by omega)
        rw [q_v14]
        refine hk_ias rfl (hH.1 22 (0, 21) rfl) (by omega) (by omega) ?_
        refine qm_Ru.go 1 (c' := (122, [.ref 15, .int al, .ref 22, .int md, .int (tu + 1), .int fr, l6], [], (h.1, qm_up I 22 (v4.toInt.toNat) v14, J, h.2.2.2))) rfl ?_
        obtain ⟨v15, q_v15, e_v15⟩ := hk_add (x := tu) (y := 1) (a := tu.toInt) (b := 1) rfl rfl (by omega) (by omega)
        rw [q_v15]
        refine qm_Ru.go 1 (c' := (17, [.ref 15, .int al, .ref 22, .int md, .int v15, .int fr, l6], [], (h.1, qm_up I 22 (v4.toInt.toNat) v14, J, h.2.2.2))) rfl ?_
        exact ko (qm_up I 22 (v4.toInt.toNat) v14) (J) md v15 (.int fr) l6 (hb_up (o := 22) (k := v4.toInt.toNat) (x := v14) hBI ⟨by show (0 : Int) ≤ v14.toInt; omega, by show v14.toInt ≤ (12 : Int); omega⟩) (fun o ho i => ((hk_mod ho rfl).trans (e o ho i))) (by omega) (by omega) (fun s hs => by show 0 ≤ ((qm_up I 22 (v4.toInt.toNat) v14) 22 (16 + s)).toInt ∧ ((qm_up I 22 (v4.toInt.toNat) v14) 22 (16 + s)).toInt ≤ 4; exact if c : s = fr.toInt.toNat then (by subst c; rw [hk_equ (by omega)]; omega) else (by rw [hk_neq (by omega)]; exact htw s hs))
      · refine qm_Ru.go 2 (c' := (50, [.ref 15, .int al, .ref 22, .int md, .int tu, .int fr, l6], [.ref 15, .int md], (h.1, I, J, h.2.2.2))) rfl ?_
        refine hk_getr rfl (hH.1 15 (15, 8) rfl) rfl (hH.2 15 5 (some 19) rfl) ?_
        refine qm_Ru.go 0 (c' := (53, [.ref 15, .int al, .ref 22, .int md, .int tu, .int fr, l6], [.ref 19, .int md], (h.1, I, J, h.2.2.2))) rfl ?_
        refine hk_len rfl (hH.1 19 (0, 36) rfl) rfl ?_
        refine qm_Ru.go 0 (c' := (54, [.ref 15, .int al, .ref 22, .int md, .int tu, .int fr, l6], [.int 36, .int md], (h.1, I, J, h.2.2.2))) rfl ?_
        refine hk_cge (ix := md.toInt) (iy := 36) rfl rfl rfl (fun z16 => ?_) (fun z16 => ?_)
        · refine qm_Ru.go 2 (c' := (105, [.ref 15, .int al, .ref 22, .int md, .int tu, .int fr, l6], [.int (-1), .int fr], (h.1, I, J, h.2.2.2))) rfl ?_
          refine hk_ceq (ix := fr.toInt) (iy := (-1)) rfl rfl rfl (fun z17 => by exfalso; omega) (fun z17 => ?_)
          refine qm_Ru.go 4 (c' := (114, [.ref 15, .int al, .ref 22, .int md, .int tu, .int fr, l6], [.int (16 + fr), .ref 22], (h.1, I, J, h.2.2.2))) rfl ?_
          rw [q_v4]
          refine qm_Ru.go 1 (c' := (115, [.ref 15, .int al, .ref 22, .int md, .int tu, .int fr, l6], [.int v4, .ref 22, .int v4, .ref 22], (h.1, I, J, h.2.2.2))) rfl ?_
          refine hk_ial (v := v5) rfl (hH.1 22 (0, 21) rfl) (by omega) (by omega) q_v5 ?_
          refine qm_Ru.go 2 (c' := (118, [.ref 15, .int al, .ref 22, .int md, .int tu, .int fr, l6], [.int (v5 - 1), .int v4, .ref 22], (h.1, I, J, h.2.2.2))) rfl ?_
          obtain ⟨v19, q_v19, e_v19⟩ := hk_sub (x := v5) (y := 1) (a := v5.toInt) (b := 1) rfl rfl (by omega) (by omega)
          rw [q_v19]
          refine hk_ias rfl (hH.1 22 (0, 21) rfl) (by omega) (by omega) ?_
          refine qm_Ru.go 1 (c' := (122, [.ref 15, .int al, .ref 22, .int md, .int (tu + 1), .int fr, l6], [], (h.1, qm_up I 22 (v4.toInt.toNat) v19, J, h.2.2.2))) rfl ?_
          obtain ⟨v20, q_v20, e_v20⟩ := hk_add (x := tu) (y := 1) (a := tu.toInt) (b := 1) rfl rfl (by omega) (by omega)
          rw [q_v20]
          refine qm_Ru.go 1 (c' := (17, [.ref 15, .int al, .ref 22, .int md, .int v20, .int fr, l6], [], (h.1, qm_up I 22 (v4.toInt.toNat) v19, J, h.2.2.2))) rfl ?_
          exact ko (qm_up I 22 (v4.toInt.toNat) v19) (J) md v20 (.int fr) l6 (hb_up (o := 22) (k := v4.toInt.toNat) (x := v19) hBI ⟨by show (0 : Int) ≤ v19.toInt; omega, by show v19.toInt ≤ (12 : Int); omega⟩) (fun o ho i => ((hk_mod ho rfl).trans (e o ho i))) (by omega) (by omega) (fun s hs => by show 0 ≤ ((qm_up I 22 (v4.toInt.toNat) v19) 22 (16 + s)).toInt ∧ ((qm_up I 22 (v4.toInt.toNat) v19) 22 (16 + s)).toInt ≤ 4; exact if c : s = fr.toInt.toNat then (by subst c; rw [hk_equ (by omega)]; omega) else (by rw [hk_neq (by omega)]; exact htw s hs))
        · refine qm_Ru.go 2 (c' := (60, [.ref 15, .int al, .ref 22, .int md, .int tu, .int fr, l6], [.int fr, .ref 22], (h.1, I, J, h.2.2.2))) rfl ?_
          refine qm_Ru.call (j := 165) (as := [.ref 22, .int fr]) (c' := (63, [.ref 15, .int al, .ref 22, .int md, .int tu, .int fr, l6], [], (h.1, I, J, h.2.2.2))) rfl rfl rfl (hs_sfd (h := (h.1, I, J, h.2.2.2)) h6 hH hBI htw (fr := fr) (fun v23 I21 J22 k_v23 _ e_I21 => ?_))
          have e_I21 : I = I21 := funext fun o => funext fun i => (e_I21 o rfl i).symm
          subst e_I21
          have b_v23 : (-1 : Int) ≤ v23.toInt ∧ v23.toInt ≤ 3 := by rcases k_v23 with c | ⟨c, _⟩ <;> omega
          refine qm_Ru.go 3 (c' := (68, [.ref 15, .int al, .ref 22, .int md, .int tu, .int fr, .int v23], [.int (-1), .int v23], (h.1, I, J22, h.2.2.2))) rfl ?_
          refine hk_cne (ix := v23.toInt) (iy := (-1)) rfl rfl rfl (fun z24 => ?_) (fun z24 => ?_)
          · refine qm_Ru.go 3 (c' := (79, [.ref 15, .int al, .ref 22, .int md, .int tu, .int fr, .int v23], [.int v23, .int fr, .ref 22], (h.1, I, J22, h.2.2.2))) rfl ?_
            obtain ⟨g1_v23, g2_v23, g3_v23⟩ := k_v23.resolve_left (by omega)
            have g0_v23 := (htw v23.toInt.toNat (by omega)).1
            refine qm_Ru.call (j := 166) (as := [.ref 22, .int fr, .int v23]) (c' := (82, [.ref 15, .int al, .ref 22, .int md, .int tu, .int fr, .int v23], [], (h.1, I, J22, h.2.2.2))) rfl rfl rfl (hs_mv_22 (h := (h.1, I, J22, h.2.2.2)) hH hBI (a := fr) (t := v23) (by omega) (by omega) (by omega) l_v5 rfl (by omega) (by omega) g0_v23 g3_v23 (fun I25 hB_I25 e_I25 d_I25 => ?_))
            have tw_I25 : tw (pI I25 22) := by rw [d_I25]; exact (lev_dig (qd := fun _ => 0) (sv := 0) (qn := 0) ⟨htw, fun q h1 h2 => absurd h2 (by omega)⟩ (by omega) (by omega) (by omega) l_v5 rfl (by omega) g3_v23 rfl).1
            have cn_I25 : con (pI I25 22) fr.toInt.toNat tu.toInt := by rw [d_I25]; exact (con_dig (f := pI I 22) (by omega) (by omega) (by omega) l_v5 rfl g0_v23 g3_v23 (by omega) l_v10 (by omega) hc).elim (fun g => (congrArg (fun m => con (dg (pI I 22) fr.toInt.toNat v23.toInt.toNat v5.toInt (pI I 22 (16 + v23.toInt.toNat)) m) fr.toInt.toNat tu.toInt) l_v10).mpr g) (fun g => absurd g.1 (by omega))
            refine qm_Ru.go 1 (c' := (83, [.ref 15, .int al, .ref 22, .int md, .int tu, .int fr, .int v23], [.ref 15], (h.1, I25, J22, h.2.2.2))) rfl ?_
            refine hk_getr rfl (hH.1 15 (15, 8) rfl) rfl (hH.2 15 5 (some 19) rfl) ?_
            refine qm_Ru.go 4 (c' := (92, [.ref 15, .int al, .ref 22, .int md, .int tu, .int fr, .int v23], [.int (10 * fr), .int md, .ref 19], (h.1, I25, J22, h.2.2.2))) rfl ?_
            obtain ⟨v26, q_v26, e_v26⟩ := hk_mul (x := 10) (y := fr) (a := 10) (b := fr.toInt) rfl rfl (by omega) (by omega)
            rw [q_v26]
            refine qm_Ru.go 2 (c' := (95, [.ref 15, .int al, .ref 22, .int md, .int tu, .int fr, .int v23], [.int (v26 + v23), .int md, .ref 19], (h.1, I25, J22, h.2.2.2))) rfl ?_
            obtain ⟨v27, q_v27, e_v27⟩ := hk_add (x := v26) (y := v23) (a := v26.toInt) (b := v23.toInt) rfl rfl (by omega) (by omega)
            rw [q_v27]
            refine hk_ias rfl (hH.1 19 (0, 36) rfl) (by omega) (by omega) ?_
            refine qm_Ru.go 1 (c' := (99, [.ref 15, .int al, .ref 22, .int (md + 1), .int tu, .int fr, .int v23], [], (h.1, qm_up I25 19 (md.toInt.toNat) v27, J22, h.2.2.2))) rfl ?_
            obtain ⟨v28, q_v28, e_v28⟩ := hk_add (x := md) (y := 1) (a := md.toInt) (b := 1) rfl rfl (by omega) (by omega)
            rw [q_v28]
            refine qm_Ru.go 1 (c' := (31, [.ref 15, .int al, .ref 22, .int v28, .int tu, .int fr, .int v23], [], (h.1, qm_up I25 19 (md.toInt.toNat) v27, J22, h.2.2.2))) rfl ?_
            exact ih _ (by omega) (qm_up I25 19 (md.toInt.toNat) v27) (J22) v28 (.int v23) (hb_up (o := 19) (k := md.toInt.toNat) (x := v27) hB_I25 (qa_in_full _)) (fun o ho i => ((hk_mod ho rfl).trans ((e_I25 o (hk_ms rfl ho) i).trans (e o ho i)))) (by omega) (by show tw (pI (qm_up I25 19 (md.toInt.toNat) v27) 22); rw [pI_sk rfl]; exact tw_I25) (Or.inr ⟨by omega, by show con (pI (qm_up I25 19 (md.toInt.toNat) v27) 22) _ _; rw [pI_sk rfl]; exact cn_I25⟩) rfl
          · refine qm_Ru.go 1 (c' := (73, [.ref 15, .int al, .ref 22, .int md, .int tu, .int fr, .int v23], [.int (-2)], (h.1, I, J22, h.2.2.2))) rfl ?_
            refine qm_Ru.rt (v := (some (.int (-2)))) (h' := (h.1, I, J22, h.2.2.2)) rfl ?_
            exact k ((-2)) (I) (J22) (by decide) hBI (fun o ho i => (e o ho i))
theorem hl_dr2 {L : Nat} {xs : Nat → Int32} {d : Nat} {Z : Option Value → qm_H → Prop} {h : qm_H} (h6 : 6 ≤ L) (hH : hk_H h) (hB : hk_B h.2.1) {al : Int32} (b_al : (0 : Int) ≤ al.toInt ∧ al.toInt ≤ 12) (k : ∀ (v : Int32) (I : Nat → Nat → Int32) (J : Nat → Nat → Int64), (-2 : Int) ≤ v.toInt ∧ v.toInt ≤ 36 → hk_B I → (∀ o, [19, 22].contains o = false → ∀ i, I o i = h.2.1 o i) → Z (some (.int v)) (h.1, I, J, h.2.2.2)) : ∀ (m : Nat) (I : Nat → Nat → Int32) (J : Nat → Nat → Int64) (md : Int32) (tu : Int32) (l5 l6 : Value), hk_B I → (∀ o, [19, 22].contains o = false → ∀ i, I o i = h.2.1 o i) → ((0 : Int) ≤ tu.toInt ∧ tu.toInt ≤ 12) → ((0 : Int) ≤ md.toInt ∧ md.toInt ≤ 36) → (tw (pI I 22)) → (12 - tu.toInt).toNat = m → qm_Ru (some (L, xs)) (d + 80) cd_160 (17, [.ref 15, .int al, .ref 22, .int md, .int tu, l5, l6], [], (h.1, I, J, h.2.2.2)) Z := by
  intro m
  induction m using Nat.strongRecOn with
  | ind m ih =>
    intro I J md tu l5 l6 hBI e h_tu h_md htw hm
    refine qm_Ru.go 2 (c' := (20, [.ref 15, .int al, .ref 22, .int md, .int tu, l5, l6], [.int al, .int tu], (h.1, I, J, h.2.2.2))) rfl ?_
    refine hk_cge (ix := tu.toInt) (iy := al.toInt) rfl rfl rfl (fun z1 => ?_) (fun z1 => ?_)
    · refine qm_Ru.go 1 (c' := (126, [.ref 15, .int al, .ref 22, .int md, .int tu, l5, l6], [.int md], (h.1, I, J, h.2.2.2))) rfl ?_
      refine qm_Ru.rt (v := (some (.int md))) (h' := (h.1, I, J, h.2.2.2)) rfl ?_
      exact k md (I) (J) (by omega) hBI (fun o ho i => (e o ho i))
    · refine qm_Ru.go 2 (c' := (26, [.ref 15, .int al, .ref 22, .int md, .int tu, l5, l6], [.int tu, .ref 22], (h.1, I, J, h.2.2.2))) rfl ?_
      refine qm_Ru.call (j := 162) (as := [.ref 22, .int tu]) (c' := (29, [.ref 15, .int al, .ref 22, .int md, .int tu, l5, l6], [], (h.1, I, J, h.2.2.2))) rfl rfl rfl (hs_stk_22 (h := (h.1, I, J, h.2.2.2)) h6 hH hBI htw (x := tu) (fun v4 I2 J3 k_v4 _ e_I2 => ?_))
      have e_I2 : I = I2 := funext fun o => funext fun i => (e_I2 o rfl i).symm
      subst e_I2
      have b_v4 : (-1 : Int) ≤ v4.toInt ∧ v4.toInt ≤ 3 := by rcases k_v4 with c | ⟨c, _⟩ <;> omega
      refine qm_Ru.go 1 (c' := (31, [.ref 15, .int al, .ref 22, .int md, .int tu, .int v4, l6], [], (h.1, I, J3, h.2.2.2))) rfl ?_
      exact hl_dr1 h6 hH hB b_al (tu := tu) (fr := v4) (by omega) b_v4 k (fun I J md2 tu2 l5 l6 hBI e h1 h2 htw => ih _ (by omega) I J md2 tu2 l5 l6 hBI e (by omega) (by omega) htw rfl) _ (I) (J3) md l6 hBI (fun o ho i => (e o ho i)) (by omega) htw (k_v4.imp id (fun g => ⟨g.1, g.2 (by omega)⟩)) rfl
theorem hc_yrule : hk_ct v_C (fun _ => True) (fun as I => as = [.ref 15]) 160 (some (-2, 36)) [15, 19, 20, 22, 23, 24, 25, 26, 27] 100 := by
  intro L xs d Z h as h6 hH hT hB hV hp hd k
  subst hp
  obtain ⟨d, rfl⟩ : ∃ e, d = e + 100 := ⟨d - 100, by omega⟩
  have hC : hk_rc h.2.1 := hV.1.1.2.2.2
  show qm_Ru (some (L, xs)) (d + 100) cd_160 (qm_ent 7 [.ref 15] h) Z
  refine qm_Ru.go 1 (c' := (1, [.ref 15, .float 0, .float 0, .float 0, .float 0, .float 0, .float 0], [.ref 15], h)) rfl ?_
  have rc_I1 : hk_rc (h.2.1) := by show sf_R (pI (h.2.1) 11) (pI (h.2.1) 12) (pI (h.2.1) 13) (pI (h.2.1) 14); rw [show pI (h.2.1) 11 = pI h.2.1 11 from rfl, show pI (h.2.1) 12 = pI h.2.1 12 from rfl, show pI (h.2.1) 13 = pI h.2.1 13 from rfl, show pI (h.2.1) 14 = pI h.2.1 14 from rfl]; exact hC
  refine hk_inv (o := 15) (r := []) (as := [.ref 15]) rfl rfl (hH.1 15 (15, 8) rfl) rfl rfl rfl rfl (hs_lay (h := h) h6 hH hB rc_I1 (fun v3 I1 J2 b_v3 hB_I1 e_I1 tw_I1 z_I1 => ?_))
  refine qm_Ru.go 2 (c' := (6, [.ref 15, .int v3, .float 0, .float 0, .float 0, .float 0, .float 0], [.ref 15], (h.1, I1, J2, h.2.2.2))) rfl ?_
  refine hk_getr rfl (hH.1 15 (15, 8) rfl) rfl (hH.2 15 7 (some 21) rfl) ?_
  refine qm_Ru.go 1 (c' := (10, [.ref 15, .int v3, .float 0, .float 0, .float 0, .float 0, .float 0], [.int 0, .ref 21], (h.1, I1, J2, h.2.2.2))) rfl ?_
  refine hk_aal rfl (hH.1 21 (4, 6) rfl) (by decide) (by decide) (hH.2 21 0 (some 22) rfl) ?_
  refine qm_Ru.go 5 (c' := (17, [.ref 15, .int v3, .ref 22, .int 0, .int 0, .float 0, .float 0], [], (h.1, I1, J2, h.2.2.2))) rfl ?_
  refine hl_dr2 (h := (h.1, I1, J2, h.2.2.2)) h6 hH hB_I1 (al := v3) (by omega) (fun v I J bv hBI e => ?_) _ I1 (J2) 0 0 _ _ hB_I1 (fun _ _ _ => rfl) (by decide) (by decide) tw_I1 rfl
  have eF : ∀ o, [19, 22].contains o = false → ∀ i, I o i = h.2.1 o i := fun o ho i => (e o ho i).trans (e_I1 o (hk_ms rfl ho) i)
  exact k (some (.int v)) I J ⟨_, rfl, bv⟩ hBI (v_C_cg hV eF rfl) (fun o ho i => eF o (hk_ms rfl ho) i)
