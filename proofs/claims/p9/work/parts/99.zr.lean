/-! by hand -/
theorem hk_getn {X : Option (Nat × (Nat → Int32))} {d : Nat} {cd : qm_Cd} {pc np a b k o : Nat} {q : Nat × Nat} {ls r : List Value} {h : qm_H} {Z : Option Value → qm_H → Prop} (hf : qm_fetch cd pc = some (pc, np, .getfield k, a, b, .null)) (hs : h.1[o]? = some q) (hq : Nat.beq q.1 (a + 5) = true) (hv : h.2.2.2 o b = none) (kk : qm_Ru X d cd (np, ls, .null :: r, h) Z) : qm_Ru X d cd (pc, ls, .ref o :: r, h) Z := by
  refine qm_Ru.nx ?_ kk
  rw [hk_st (it := (pc, np, .getfield k, a, b, .null)) hf]
  simp only [qm_x, hs, hq, cond_true, qm_nx, qm_tv, hv]
  rfl
theorem hk_ru_same {I I' : Nat → Nat → Int32} (h : hk_ru I) (e : ∀ o, o < 192 → ∀ i, I' o i = I o i) : hk_ru I' := by
  intro r hr i
  have key : ∀ r ∈ qa_rules, r.1 < 192 ∧ r.2.2.1 < 192 := by decide +kernel
  obtain ⟨k1, k2⟩ := key r hr
  rw [e _ k1, e _ k2]
  exact h r hr i
theorem hl_held29n {L : Nat} {xs : Nat → Int32} {d : Nat} {Z : Option Value → qm_H → Prop} {h : qm_H} (h6 : 6 ≤ L) (hH : hk_H h) (hB : hk_B h.2.1) (hr : hk_ru h.2.1) (hwr : h.2.2.2 29 15 = none) {x y : Int32} (hx : (0 : Int) ≤ x.toInt ∧ x.toInt ≤ 16) (hy : (0 : Int) ≤ y.toInt ∧ y.toInt ≤ 16) (k : ∀ (v : Int32) (I : Nat → Nat → Int32) (J : Nat → Nat → Int64), hk_B I → (∀ o i, I o i = h.2.1 o i) → Z (some (.int v)) (h.1, I, J, h.2.2.2)) : ∀ (m : Nat) (I : Nat → Nat → Int32) (J : Nat → Nat → Int64) (n i : Int32) (l5 : Value), (∀ o i, I o i = h.2.1 o i) → hk_B I → (0 ≤ i.toInt ∧ i.toInt ≤ 16) → (16 - i.toInt).toNat = m → qm_Ru (some (L, xs)) (d + 22) cd_122 (5, [.ref 29, .int x, .int y, .int n, .int i, l5], [], (h.1, I, J, h.2.2.2)) Z := by
  intro m
  induction m using Nat.strongRecOn with
  | ind m ih =>
    intro I J n i l5 e be hi hm
    refine qm_Ru.go 2 (c' := (8, [.ref 29, .int x, .int y, .int n, .int i, l5], [.int y, .int i], (h.1, I, J, h.2.2.2))) rfl ?_
    refine hk_cge (ix := i.toInt) (iy := y.toInt) rfl rfl rfl (fun z1 => ?_) (fun z1 => ?_)
    · refine qm_Ru.go 1 (c' := (69, [.ref 29, .int x, .int y, .int n, .int i, l5], [.int n], (h.1, I, J, h.2.2.2))) rfl ?_
      refine qm_Ru.rt (v := (some (.int n))) (h' := (h.1, I, J, h.2.2.2)) rfl ?_
      exact k n (I) (J) be (fun o i => (e o i))
    · refine qm_Ru.go 1 (c' := (12, [.ref 29, .int x, .int y, .int n, .int i, l5], [.ref 29], (h.1, I, J, h.2.2.2))) rfl ?_
      refine hk_getr rfl (hH.1 29 (11, 16) rfl) rfl (hH.2 29 11 (some 33) rfl) ?_
      refine qm_Ru.go 1 (c' := (17, [.ref 29, .int x, .int y, .int n, .int i, l5], [.int i, .ref 33], (h.1, I, J, h.2.2.2))) rfl ?_
      obtain ⟨v2, q_v2⟩ : ∃ v, h.2.1 33 (i.toInt.toNat) = v := ⟨_, rfl⟩
      have b_v2 : (0 : Int) ≤ v2.toInt ∧ v2.toInt ≤ 101 := by rw [← q_v2]; exact hB 33 (i.toInt.toNat)
      refine hk_ial (v := v2) rfl (hH.1 33 (0, 16) rfl) (by omega) (by omega) (show (I) 33 (i.toInt.toNat) = _ from ((e 33 (i.toInt.toNat)).trans q_v2)) ?_
      refine qm_Ru.go 0 (c' := (18, [.ref 29, .int x, .int y, .int n, .int i, l5], [.int v2], (h.1, I, J, h.2.2.2))) rfl ?_
      refine hk_zle (ix := v2.toInt) rfl rfl (fun z3 => ?_) (fun z3 => ?_)
      · refine qm_Ru.go 2 (c' := (44, [.ref 29, .int x, .int y, .int n, .int i, l5], [.int i, .ref 29], (h.1, I, J, h.2.2.2))) rfl ?_
        have rue : hk_ru I := hk_ru_same hr (fun o ho i => e o i)
        refine hk_inv (o := 29) (r := []) (as := [.ref 29, .int i]) rfl rfl (hH.1 29 (11, 16) rfl) rfl rfl rfl rfl (hs_thold29 h6 ⟨hH.1, hH.2⟩ be rue ⟨by show (0 : Int) ≤ _; omega, by show _ ≤ (15 : Int); omega⟩ (by omega) (fun v7 I4 J5 b_v7 _ fe6 => ?_))
        have b_v7 : (0 : Int) ≤ v7.toInt ∧ v7.toInt ≤ 1 := b_v7
        have e6 : ∀ o i, I4 o i = h.2.1 o i := fun o i => (fe6 o rfl i).trans (e o i)
        have be6 : hk_B I4 := fun o i => by rw [e6 o i]; exact hB o i
        refine qm_Ru.go 3 (c' := (52, [.ref 29, .int x, .int y, .int n, .int i, .int v7], [.int v7, .int n], (h.1, I4, J5, h.2.2.2))) rfl ?_
        refine hk_zeq (ix := v7.toInt) rfl rfl (fun z8 => ?_) (fun z8 => ?_)
        · refine qm_Ru.go 2 (c' := (61, [.ref 29, .int x, .int y, .int n, .int i, .int v7], [.int (n + 0)], (h.1, I4, J5, h.2.2.2))) rfl ?_
          have := hk_rng n
          obtain ⟨v9, q_v9, e_v9⟩ := hk_add (x := n) (y := 0) (a := n.toInt) (b := 0) rfl rfl (by omega) (by omega)
          rw [q_v9]
          refine qm_Ru.go 2 (c' := (65, [.ref 29, .int x, .int y, .int v9, .int (i + 1), .int v7], [], (h.1, I4, J5, h.2.2.2))) rfl ?_
          obtain ⟨v10, q_v10, e_v10⟩ := hk_add (x := i) (y := 1) (a := i.toInt) (b := 1) rfl rfl (by omega) (by omega)
          rw [q_v10]
          refine qm_Ru.go 1 (c' := (5, [.ref 29, .int x, .int y, .int v9, .int v10, .int v7], [], (h.1, I4, J5, h.2.2.2))) rfl ?_
          exact ih _ (by omega) (I4) (J5) v9 v10 (.int v7) (fun o i => (e6 o i)) be6 (by omega) rfl
        · refine qm_Ru.go 3 (c' := (61, [.ref 29, .int x, .int y, .int n, .int i, .int v7], [.int (n + 1)], (h.1, I4, J5, h.2.2.2))) rfl ?_
          obtain ⟨v11, q_v11⟩ : ∃ v, (n + 1) = v := ⟨_, rfl⟩
          rw [q_v11]
          refine qm_Ru.go 2 (c' := (65, [.ref 29, .int x, .int y, .int v11, .int (i + 1), .int v7], [], (h.1, I4, J5, h.2.2.2))) rfl ?_
          obtain ⟨v12, q_v12, e_v12⟩ := hk_add (x := i) (y := 1) (a := i.toInt) (b := 1) rfl rfl (by omega) (by omega)
          rw [q_v12]
          refine qm_Ru.go 1 (c' := (5, [.ref 29, .int x, .int y, .int v11, .int v12, .int v7], [], (h.1, I4, J5, h.2.2.2))) rfl ?_
          exact ih _ (by omega) (I4) (J5) v11 v12 (.int v7) (fun o i => (e6 o i)) be6 (by omega) rfl
      · refine qm_Ru.go 1 (c' := (22, [.ref 29, .int x, .int y, .int n, .int i, l5], [.ref 29], (h.1, I, J, h.2.2.2))) rfl ?_
        refine hk_getn rfl (hH.1 29 (11, 16) rfl) rfl hwr ?_
        refine qm_Ru.go 3 (c' := (44, [.ref 29, .int x, .int y, .int n, .int i, l5], [.int i, .ref 29], (h.1, I, J, h.2.2.2))) rfl ?_
        have rue : hk_ru I := hk_ru_same hr (fun o ho i => e o i)
        refine hk_inv (o := 29) (r := []) (as := [.ref 29, .int i]) rfl rfl (hH.1 29 (11, 16) rfl) rfl rfl rfl rfl (hs_thold29 h6 ⟨hH.1, hH.2⟩ be rue ⟨by show (0 : Int) ≤ _; omega, by show _ ≤ (15 : Int); omega⟩ (by omega) (fun v16 I13 J14 b_v16 _ fe15 => ?_))
        have b_v16 : (0 : Int) ≤ v16.toInt ∧ v16.toInt ≤ 1 := b_v16
        have e15 : ∀ o i, I13 o i = h.2.1 o i := fun o i => (fe15 o rfl i).trans (e o i)
        have be15 : hk_B I13 := fun o i => by rw [e15 o i]; exact hB o i
        refine qm_Ru.go 3 (c' := (52, [.ref 29, .int x, .int y, .int n, .int i, .int v16], [.int v16, .int n], (h.1, I13, J14, h.2.2.2))) rfl ?_
        refine hk_zeq (ix := v16.toInt) rfl rfl (fun z17 => ?_) (fun z17 => ?_)
        · refine qm_Ru.go 2 (c' := (61, [.ref 29, .int x, .int y, .int n, .int i, .int v16], [.int (n + 0)], (h.1, I13, J14, h.2.2.2))) rfl ?_
          have := hk_rng n
          obtain ⟨v18, q_v18, e_v18⟩ := hk_add (x := n) (y := 0) (a := n.toInt) (b := 0) rfl rfl (by omega) (by omega)
          rw [q_v18]
          refine qm_Ru.go 2 (c' := (65, [.ref 29, .int x, .int y, .int v18, .int (i + 1), .int v16], [], (h.1, I13, J14, h.2.2.2))) rfl ?_
          obtain ⟨v19, q_v19, e_v19⟩ := hk_add (x := i) (y := 1) (a := i.toInt) (b := 1) rfl rfl (by omega) (by omega)
          rw [q_v19]
          refine qm_Ru.go 1 (c' := (5, [.ref 29, .int x, .int y, .int v18, .int v19, .int v16], [], (h.1, I13, J14, h.2.2.2))) rfl ?_
          exact ih _ (by omega) (I13) (J14) v18 v19 (.int v16) (fun o i => (e15 o i)) be15 (by omega) rfl
        · refine qm_Ru.go 3 (c' := (61, [.ref 29, .int x, .int y, .int n, .int i, .int v16], [.int (n + 1)], (h.1, I13, J14, h.2.2.2))) rfl ?_
          obtain ⟨v20, q_v20⟩ : ∃ v, (n + 1) = v := ⟨_, rfl⟩
          rw [q_v20]
          refine qm_Ru.go 2 (c' := (65, [.ref 29, .int x, .int y, .int v20, .int (i + 1), .int v16], [], (h.1, I13, J14, h.2.2.2))) rfl ?_
          obtain ⟨v21, q_v21, e_v21⟩ := hk_add (x := i) (y := 1) (a := i.toInt) (b := 1) rfl rfl (by omega) (by omega)
          rw [q_v21]
          refine qm_Ru.go 1 (c' := (5, [.ref 29, .int x, .int y, .int v20, .int v21, .int v16], [], (h.1, I13, J14, h.2.2.2))) rfl ?_
          exact ih _ (by omega) (I13) (J14) v20 v21 (.int v16) (fun o i => (e15 o i)) be15 (by omega) rfl
theorem hs_held29n {L : Nat} {xs : Nat → Int32} {d : Nat} {Z : Option Value → qm_H → Prop} {h : qm_H} (h6 : 6 ≤ L) (hH : hk_H h) (hB : hk_B h.2.1) (hr : hk_ru h.2.1) (hwr : h.2.2.2 29 15 = none) {x y : Int32} (hx : (0 : Int) ≤ x.toInt ∧ x.toInt ≤ 16) (hy : (0 : Int) ≤ y.toInt ∧ y.toInt ≤ 16) (k : ∀ (v : Int32) (I : Nat → Nat → Int32) (J : Nat → Nat → Int64), hk_B I → (∀ o i, I o i = h.2.1 o i) → Z (some (.int v)) (h.1, I, J, h.2.2.2)) : qm_Ru (some (L, xs)) (d + 22) cd_122 (qm_ent 6 [.ref 29, .int x, .int y] h) Z := by
  refine qm_Ru.go 4 (c' := (5, [.ref 29, .int x, .int y, .int 0, .int x, .float 0], [], h)) rfl ?_
  exact hl_held29n h6 hH hB hr hwr hx hy k _ h.2.1 h.2.2.1 0 x _ (fun _ _ => rfl) hB (by omega) rfl
theorem hl_held29w {L : Nat} {xs : Nat → Int32} {d : Nat} {Z : Option Value → qm_H → Prop} {h : qm_H} (h6 : 6 ≤ L) (hH : hk_H h) (hB : hk_B h.2.1) (hr : hk_ru h.2.1) {w : Nat} (hw : 192 ≤ w) (hD : wd h w) (hwr : h.2.2.2 29 15 = some w) {x y : Int32} (hx : (0 : Int) ≤ x.toInt ∧ x.toInt ≤ 16) (hy : (0 : Int) ≤ y.toInt ∧ y.toInt ≤ 16) (k : ∀ (v : Int32) (I : Nat → Nat → Int32) (J : Nat → Nat → Int64), hk_B I → (∀ o, o < w ∨ w + 21 ≤ o → ∀ i, I o i = h.2.1 o i) → Z (some (.int v)) (h.1, I, J, h.2.2.2)) : ∀ (m : Nat) (I : Nat → Nat → Int32) (J : Nat → Nat → Int64) (n i : Int32) (l5 : Value), (∀ o, o < w ∨ w + 21 ≤ o → ∀ i, I o i = h.2.1 o i) → hk_B I → (0 ≤ i.toInt ∧ i.toInt ≤ 16) → (16 - i.toInt).toNat = m → qm_Ru (some (L, xs)) (d + 22) cd_122 (5, [.ref 29, .int x, .int y, .int n, .int i, l5], [], (h.1, I, J, h.2.2.2)) Z := by
  intro m
  induction m using Nat.strongRecOn with
  | ind m ih =>
    intro I J n i l5 e be hi hm
    refine qm_Ru.go 2 (c' := (8, [.ref 29, .int x, .int y, .int n, .int i, l5], [.int y, .int i], (h.1, I, J, h.2.2.2))) rfl ?_
    refine hk_cge (ix := i.toInt) (iy := y.toInt) rfl rfl rfl (fun z1 => ?_) (fun z1 => ?_)
    · refine qm_Ru.go 1 (c' := (69, [.ref 29, .int x, .int y, .int n, .int i, l5], [.int n], (h.1, I, J, h.2.2.2))) rfl ?_
      refine qm_Ru.rt (v := (some (.int n))) (h' := (h.1, I, J, h.2.2.2)) rfl ?_
      exact k n (I) (J) be (fun o ho i => (e o ho i))
    · refine qm_Ru.go 1 (c' := (12, [.ref 29, .int x, .int y, .int n, .int i, l5], [.ref 29], (h.1, I, J, h.2.2.2))) rfl ?_
      refine hk_getr rfl (hH.1 29 (11, 16) rfl) rfl (hH.2 29 11 (some 33) rfl) ?_
      refine qm_Ru.go 1 (c' := (17, [.ref 29, .int x, .int y, .int n, .int i, l5], [.int i, .ref 33], (h.1, I, J, h.2.2.2))) rfl ?_
      obtain ⟨v2, q_v2⟩ : ∃ v, h.2.1 33 (i.toInt.toNat) = v := ⟨_, rfl⟩
      have b_v2 : (0 : Int) ≤ v2.toInt ∧ v2.toInt ≤ 101 := by rw [← q_v2]; exact hB 33 (i.toInt.toNat)
      refine hk_ial (v := v2) rfl (hH.1 33 (0, 16) rfl) (by omega) (by omega) (show (I) 33 (i.toInt.toNat) = _ from ((e 33 (Or.inl (by omega)) (i.toInt.toNat)).trans q_v2)) ?_
      refine qm_Ru.go 0 (c' := (18, [.ref 29, .int x, .int y, .int n, .int i, l5], [.int v2], (h.1, I, J, h.2.2.2))) rfl ?_
      refine hk_zle (ix := v2.toInt) rfl rfl (fun z3 => ?_) (fun z3 => ?_)
      · refine qm_Ru.go 2 (c' := (44, [.ref 29, .int x, .int y, .int n, .int i, l5], [.int i, .ref 29], (h.1, I, J, h.2.2.2))) rfl ?_
        have rue : hk_ru I := hk_ru_same hr (fun o ho i => e o (Or.inl (by omega)) i)
        refine hk_inv (o := 29) (r := []) (as := [.ref 29, .int i]) rfl rfl (hH.1 29 (11, 16) rfl) rfl rfl rfl rfl (hs_thold29 h6 ⟨hH.1, hH.2⟩ be rue ⟨by show (0 : Int) ≤ _; omega, by show _ ≤ (15 : Int); omega⟩ (by omega) (fun v7 I4 J5 b_v7 _ fe6 => ?_))
        have b_v7 : (0 : Int) ≤ v7.toInt ∧ v7.toInt ≤ 1 := b_v7
        have e6 : ∀ o, o < w ∨ w + 21 ≤ o → ∀ i, I4 o i = h.2.1 o i := fun o ho i => (fe6 o rfl i).trans (e o ho i)
        have be6 : hk_B I4 := fun o i => by
          by_cases c : o < 192
          · rw [e6 o (Or.inl (by omega)) i]
            exact hB o i
          · exact hb_hi (by omega)
        refine qm_Ru.go 3 (c' := (52, [.ref 29, .int x, .int y, .int n, .int i, .int v7], [.int v7, .int n], (h.1, I4, J5, h.2.2.2))) rfl ?_
        refine hk_zeq (ix := v7.toInt) rfl rfl (fun z8 => ?_) (fun z8 => ?_)
        · refine qm_Ru.go 2 (c' := (61, [.ref 29, .int x, .int y, .int n, .int i, .int v7], [.int (n + 0)], (h.1, I4, J5, h.2.2.2))) rfl ?_
          have := hk_rng n
          obtain ⟨v9, q_v9, e_v9⟩ := hk_add (x := n) (y := 0) (a := n.toInt) (b := 0) rfl rfl (by omega) (by omega)
          rw [q_v9]
          refine qm_Ru.go 2 (c' := (65, [.ref 29, .int x, .int y, .int v9, .int (i + 1), .int v7], [], (h.1, I4, J5, h.2.2.2))) rfl ?_
          obtain ⟨v10, q_v10, e_v10⟩ := hk_add (x := i) (y := 1) (a := i.toInt) (b := 1) rfl rfl (by omega) (by omega)
          rw [q_v10]
          refine qm_Ru.go 1 (c' := (5, [.ref 29, .int x, .int y, .int v9, .int v10, .int v7], [], (h.1, I4, J5, h.2.2.2))) rfl ?_
          exact ih _ (by omega) (I4) (J5) v9 v10 (.int v7) (fun o ho i => (e6 o ho i)) be6 (by omega) rfl
        · refine qm_Ru.go 3 (c' := (61, [.ref 29, .int x, .int y, .int n, .int i, .int v7], [.int (n + 1)], (h.1, I4, J5, h.2.2.2))) rfl ?_
          obtain ⟨v11, q_v11⟩ : ∃ v, (n + 1) = v := ⟨_, rfl⟩
          rw [q_v11]
          refine qm_Ru.go 2 (c' := (65, [.ref 29, .int x, .int y, .int v11, .int (i + 1), .int v7], [], (h.1, I4, J5, h.2.2.2))) rfl ?_
          obtain ⟨v12, q_v12, e_v12⟩ := hk_add (x := i) (y := 1) (a := i.toInt) (b := 1) rfl rfl (by omega) (by omega)
          rw [q_v12]
          refine qm_Ru.go 1 (c' := (5, [.ref 29, .int x, .int y, .int v11, .int v12, .int v7], [], (h.1, I4, J5, h.2.2.2))) rfl ?_
          exact ih _ (by omega) (I4) (J5) v11 v12 (.int v7) (fun o ho i => (e6 o ho i)) be6 (by omega) rfl
      · refine qm_Ru.go 1 (c' := (22, [.ref 29, .int x, .int y, .int n, .int i, l5], [.ref 29], (h.1, I, J, h.2.2.2))) rfl ?_
        refine hk_getr rfl (hH.1 29 (11, 16) rfl) rfl hwr ?_
        refine qm_Ru.go 2 (c' := (29, [.ref 29, .int x, .int y, .int n, .int i, l5], [.ref 29], (h.1, I, J, h.2.2.2))) rfl ?_
        refine hk_getr rfl (hH.1 29 (11, 16) rfl) rfl hwr ?_
        refine qm_Ru.go 2 (c' := (35, [.ref 29, .int x, .int y, .int n, .int i, l5], [.int i, .ref 29, .ref w], (h.1, I, J, h.2.2.2))) rfl ?_
        refine hk_inv (o := w) (r := []) (as := [.ref w, .ref 29, .int i]) rfl rfl hD.1 rfl rfl rfl rfl (hs_whold29 (h := (h.1, I, J, h.2.2.2)) (w := w) (s := i) ⟨hH.1, hH.2⟩ be hw (wd_same hD rfl rfl) (by omega) (fun v16 I13 J14 b_v16 fe15 => ?_))
        have e15 : ∀ o, o < w ∨ w + 21 ≤ o → ∀ i, I13 o i = h.2.1 o i := fun o ho i => (fe15 o ho i).trans (e o ho i)
        have be15 : hk_B I13 := fun o i => by
          by_cases c : o < 192
          · rw [e15 o (Or.inl (by omega)) i]
            exact hB o i
          · exact hb_hi (by omega)
        refine qm_Ru.go 4 (c' := (52, [.ref 29, .int x, .int y, .int n, .int i, .int v16], [.int v16, .int n], (h.1, I13, J14, h.2.2.2))) rfl ?_
        refine hk_zeq (ix := v16.toInt) rfl rfl (fun z17 => ?_) (fun z17 => ?_)
        · refine qm_Ru.go 2 (c' := (61, [.ref 29, .int x, .int y, .int n, .int i, .int v16], [.int (n + 0)], (h.1, I13, J14, h.2.2.2))) rfl ?_
          have := hk_rng n
          obtain ⟨v18, q_v18, e_v18⟩ := hk_add (x := n) (y := 0) (a := n.toInt) (b := 0) rfl rfl (by omega) (by omega)
          rw [q_v18]
          refine qm_Ru.go 2 (c' := (65, [.ref 29, .int x, .int y, .int v18, .int (i + 1), .int v16], [], (h.1, I13, J14, h.2.2.2))) rfl ?_
          obtain ⟨v19, q_v19, e_v19⟩ := hk_add (x := i) (y := 1) (a := i.toInt) (b := 1) rfl rfl (by omega) (by omega)
          rw [q_v19]
          refine qm_Ru.go 1 (c' := (5, [.ref 29, .int x, .int y, .int v18, .int v19, .int v16], [], (h.1, I13, J14, h.2.2.2))) rfl ?_
          exact ih _ (by omega) (I13) (J14) v18 v19 (.int v16) (fun o ho i => (e15 o ho i)) be15 (by omega) rfl
        · refine qm_Ru.go 3 (c' := (61, [.ref 29, .int x, .int y, .int n, .int i, .int v16], [.int (n + 1)], (h.1, I13, J14, h.2.2.2))) rfl ?_
          obtain ⟨v20, q_v20⟩ : ∃ v, (n + 1) = v := ⟨_, rfl⟩
          rw [q_v20]
          refine qm_Ru.go 2 (c' := (65, [.ref 29, .int x, .int y, .int v20, .int (i + 1), .int v16], [], (h.1, I13, J14, h.2.2.2))) rfl ?_
          obtain ⟨v21, q_v21, e_v21⟩ := hk_add (x := i) (y := 1) (a := i.toInt) (b := 1) rfl rfl (by omega) (by omega)
          rw [q_v21]
          refine qm_Ru.go 1 (c' := (5, [.ref 29, .int x, .int y, .int v20, .int v21, .int v16], [], (h.1, I13, J14, h.2.2.2))) rfl ?_
          exact ih _ (by omega) (I13) (J14) v20 v21 (.int v16) (fun o ho i => (e15 o ho i)) be15 (by omega) rfl
theorem hs_held29w {L : Nat} {xs : Nat → Int32} {d : Nat} {Z : Option Value → qm_H → Prop} {h : qm_H} (h6 : 6 ≤ L) (hH : hk_H h) (hB : hk_B h.2.1) (hr : hk_ru h.2.1) {w : Nat} (hw : 192 ≤ w) (hD : wd h w) (hwr : h.2.2.2 29 15 = some w) {x y : Int32} (hx : (0 : Int) ≤ x.toInt ∧ x.toInt ≤ 16) (hy : (0 : Int) ≤ y.toInt ∧ y.toInt ≤ 16) (k : ∀ (v : Int32) (I : Nat → Nat → Int32) (J : Nat → Nat → Int64), hk_B I → (∀ o, o < w ∨ w + 21 ≤ o → ∀ i, I o i = h.2.1 o i) → Z (some (.int v)) (h.1, I, J, h.2.2.2)) : qm_Ru (some (L, xs)) (d + 22) cd_122 (qm_ent 6 [.ref 29, .int x, .int y] h) Z := by
  refine qm_Ru.go 4 (c' := (5, [.ref 29, .int x, .int y, .int 0, .int x, .float 0], [], h)) rfl ?_
  exact hl_held29w h6 hH hB hr hw hD hwr hx hy k _ h.2.1 h.2.2.1 0 x _ (fun _ _ _ => rfl) hB (by omega) rfl
theorem hl_held111n {L : Nat} {xs : Nat → Int32} {d : Nat} {Z : Option Value → qm_H → Prop} {h : qm_H} (h6 : 6 ≤ L) (hH : hk_H h) (hB : hk_B h.2.1) (hr : hk_ru h.2.1) (hwr : h.2.2.2 111 15 = none) {x y : Int32} (hx : (0 : Int) ≤ x.toInt ∧ x.toInt ≤ 16) (hy : (0 : Int) ≤ y.toInt ∧ y.toInt ≤ 16) (k : ∀ (v : Int32) (I : Nat → Nat → Int32) (J : Nat → Nat → Int64), hk_B I → (∀ o i, I o i = h.2.1 o i) → Z (some (.int v)) (h.1, I, J, h.2.2.2)) : ∀ (m : Nat) (I : Nat → Nat → Int32) (J : Nat → Nat → Int64) (n i : Int32) (l5 : Value), (∀ o i, I o i = h.2.1 o i) → hk_B I → (0 ≤ i.toInt ∧ i.toInt ≤ 16) → (16 - i.toInt).toNat = m → qm_Ru (some (L, xs)) (d + 22) cd_122 (5, [.ref 111, .int x, .int y, .int n, .int i, l5], [], (h.1, I, J, h.2.2.2)) Z := by
  intro m
  induction m using Nat.strongRecOn with
  | ind m ih =>
    intro I J n i l5 e be hi hm
    refine qm_Ru.go 2 (c' := (8, [.ref 111, .int x, .int y, .int n, .int i, l5], [.int y, .int i], (h.1, I, J, h.2.2.2))) rfl ?_
    refine hk_cge (ix := i.toInt) (iy := y.toInt) rfl rfl rfl (fun z1 => ?_) (fun z1 => ?_)
    · refine qm_Ru.go 1 (c' := (69, [.ref 111, .int x, .int y, .int n, .int i, l5], [.int n], (h.1, I, J, h.2.2.2))) rfl ?_
      refine qm_Ru.rt (v := (some (.int n))) (h' := (h.1, I, J, h.2.2.2)) rfl ?_
      exact k n (I) (J) be (fun o i => (e o i))
    · refine qm_Ru.go 1 (c' := (12, [.ref 111, .int x, .int y, .int n, .int i, l5], [.ref 111], (h.1, I, J, h.2.2.2))) rfl ?_
      refine hk_getr rfl (hH.1 111 (11, 16) rfl) rfl (hH.2 111 11 (some 115) rfl) ?_
      refine qm_Ru.go 1 (c' := (17, [.ref 111, .int x, .int y, .int n, .int i, l5], [.int i, .ref 115], (h.1, I, J, h.2.2.2))) rfl ?_
      obtain ⟨v2, q_v2⟩ : ∃ v, h.2.1 115 (i.toInt.toNat) = v := ⟨_, rfl⟩
      have b_v2 : (0 : Int) ≤ v2.toInt ∧ v2.toInt ≤ 101 := by rw [← q_v2]; exact hB 115 (i.toInt.toNat)
      refine hk_ial (v := v2) rfl (hH.1 115 (0, 16) rfl) (by omega) (by omega) (show (I) 115 (i.toInt.toNat) = _ from ((e 115 (i.toInt.toNat)).trans q_v2)) ?_
      refine qm_Ru.go 0 (c' := (18, [.ref 111, .int x, .int y, .int n, .int i, l5], [.int v2], (h.1, I, J, h.2.2.2))) rfl ?_
      refine hk_zle (ix := v2.toInt) rfl rfl (fun z3 => ?_) (fun z3 => ?_)
      · refine qm_Ru.go 2 (c' := (44, [.ref 111, .int x, .int y, .int n, .int i, l5], [.int i, .ref 111], (h.1, I, J, h.2.2.2))) rfl ?_
        have rue : hk_ru I := hk_ru_same hr (fun o ho i => e o i)
        refine hk_inv (o := 111) (r := []) (as := [.ref 111, .int i]) rfl rfl (hH.1 111 (11, 16) rfl) rfl rfl rfl rfl (hs_thold111 h6 ⟨hH.1, hH.2⟩ be rue ⟨by show (0 : Int) ≤ _; omega, by show _ ≤ (15 : Int); omega⟩ (by omega) (fun v7 I4 J5 b_v7 _ fe6 => ?_))
        have b_v7 : (0 : Int) ≤ v7.toInt ∧ v7.toInt ≤ 1 := b_v7
        have e6 : ∀ o i, I4 o i = h.2.1 o i := fun o i => (fe6 o rfl i).trans (e o i)
        have be6 : hk_B I4 := fun o i => by rw [e6 o i]; exact hB o i
        refine qm_Ru.go 3 (c' := (52, [.ref 111, .int x, .int y, .int n, .int i, .int v7], [.int v7, .int n], (h.1, I4, J5, h.2.2.2))) rfl ?_
        refine hk_zeq (ix := v7.toInt) rfl rfl (fun z8 => ?_) (fun z8 => ?_)
        · refine qm_Ru.go 2 (c' := (61, [.ref 111, .int x, .int y, .int n, .int i, .int v7], [.int (n + 0)], (h.1, I4, J5, h.2.2.2))) rfl ?_
          have := hk_rng n
          obtain ⟨v9, q_v9, e_v9⟩ := hk_add (x := n) (y := 0) (a := n.toInt) (b := 0) rfl rfl (by omega) (by omega)
          rw [q_v9]
          refine qm_Ru.go 2 (c' := (65, [.ref 111, .int x, .int y, .int v9, .int (i + 1), .int v7], [], (h.1, I4, J5, h.2.2.2))) rfl ?_
          obtain ⟨v10, q_v10, e_v10⟩ := hk_add (x := i) (y := 1) (a := i.toInt) (b := 1) rfl rfl (by omega) (by omega)
          rw [q_v10]
          refine qm_Ru.go 1 (c' := (5, [.ref 111, .int x, .int y, .int v9, .int v10, .int v7], [], (h.1, I4, J5, h.2.2.2))) rfl ?_
          exact ih _ (by omega) (I4) (J5) v9 v10 (.int v7) (fun o i => (e6 o i)) be6 (by omega) rfl
        · refine qm_Ru.go 3 (c' := (61, [.ref 111, .int x, .int y, .int n, .int i, .int v7], [.int (n + 1)], (h.1, I4, J5, h.2.2.2))) rfl ?_
          obtain ⟨v11, q_v11⟩ : ∃ v, (n + 1) = v := ⟨_, rfl⟩
          rw [q_v11]
          refine qm_Ru.go 2 (c' := (65, [.ref 111, .int x, .int y, .int v11, .int (i + 1), .int v7], [], (h.1, I4, J5, h.2.2.2))) rfl ?_
          obtain ⟨v12, q_v12, e_v12⟩ := hk_add (x := i) (y := 1) (a := i.toInt) (b := 1) rfl rfl (by omega) (by omega)
          rw [q_v12]
          refine qm_Ru.go 1 (c' := (5, [.ref 111, .int x, .int y, .int v11, .int v12, .int v7], [], (h.1, I4, J5, h.2.2.2))) rfl ?_
          exact ih _ (by omega) (I4) (J5) v11 v12 (.int v7) (fun o i => (e6 o i)) be6 (by omega) rfl
      · refine qm_Ru.go 1 (c' := (22, [.ref 111, .int x, .int y, .int n, .int i, l5], [.ref 111], (h.1, I, J, h.2.2.2))) rfl ?_
        refine hk_getn rfl (hH.1 111 (11, 16) rfl) rfl hwr ?_
        refine qm_Ru.go 3 (c' := (44, [.ref 111, .int x, .int y, .int n, .int i, l5], [.int i, .ref 111], (h.1, I, J, h.2.2.2))) rfl ?_
        have rue : hk_ru I := hk_ru_same hr (fun o ho i => e o i)
        refine hk_inv (o := 111) (r := []) (as := [.ref 111, .int i]) rfl rfl (hH.1 111 (11, 16) rfl) rfl rfl rfl rfl (hs_thold111 h6 ⟨hH.1, hH.2⟩ be rue ⟨by show (0 : Int) ≤ _; omega, by show _ ≤ (15 : Int); omega⟩ (by omega) (fun v16 I13 J14 b_v16 _ fe15 => ?_))
        have b_v16 : (0 : Int) ≤ v16.toInt ∧ v16.toInt ≤ 1 := b_v16
        have e15 : ∀ o i, I13 o i = h.2.1 o i := fun o i => (fe15 o rfl i).trans (e o i)
        have be15 : hk_B I13 := fun o i => by rw [e15 o i]; exact hB o i
        refine qm_Ru.go 3 (c' := (52, [.ref 111, .int x, .int y, .int n, .int i, .int v16], [.int v16, .int n], (h.1, I13, J14, h.2.2.2))) rfl ?_
        refine hk_zeq (ix := v16.toInt) rfl rfl (fun z17 => ?_) (fun z17 => ?_)
        · refine qm_Ru.go 2 (c' := (61, [.ref 111, .int x, .int y, .int n, .int i, .int v16], [.int (n + 0)], (h.1, I13, J14, h.2.2.2))) rfl ?_
          have := hk_rng n
          obtain ⟨v18, q_v18, e_v18⟩ := hk_add (x := n) (y := 0) (a := n.toInt) (b := 0) rfl rfl (by omega) (by omega)
          rw [q_v18]
          refine qm_Ru.go 2 (c' := (65, [.ref 111, .int x, .int y, .int v18, .int (i + 1), .int v16], [], (h.1, I13, J14, h.2.2.2))) rfl ?_
          obtain ⟨v19, q_v19, e_v19⟩ := hk_add (x := i) (y := 1) (a := i.toInt) (b := 1) rfl rfl (by omega) (by omega)
          rw [q_v19]
          refine qm_Ru.go 1 (c' := (5, [.ref 111, .int x, .int y, .int v18, .int v19, .int v16], [], (h.1, I13, J14, h.2.2.2))) rfl ?_
          exact ih _ (by omega) (I13) (J14) v18 v19 (.int v16) (fun o i => (e15 o i)) be15 (by omega) rfl
        · refine qm_Ru.go 3 (c' := (61, [.ref 111, .int x, .int y, .int n, .int i, .int v16], [.int (n + 1)], (h.1, I13, J14, h.2.2.2))) rfl ?_
          obtain ⟨v20, q_v20⟩ : ∃ v, (n + 1) = v := ⟨_, rfl⟩
          rw [q_v20]
          refine qm_Ru.go 2 (c' := (65, [.ref 111, .int x, .int y, .int v20, .int (i + 1), .int v16], [], (h.1, I13, J14, h.2.2.2))) rfl ?_
          obtain ⟨v21, q_v21, e_v21⟩ := hk_add (x := i) (y := 1) (a := i.toInt) (b := 1) rfl rfl (by omega) (by omega)
          rw [q_v21]
          refine qm_Ru.go 1 (c' := (5, [.ref 111, .int x, .int y, .int v20, .int v21, .int v16], [], (h.1, I13, J14, h.2.2.2))) rfl ?_
          exact ih _ (by omega) (I13) (J14) v20 v21 (.int v16) (fun o i => (e15 o i)) be15 (by omega) rfl
theorem hs_held111n {L : Nat} {xs : Nat → Int32} {d : Nat} {Z : Option Value → qm_H → Prop} {h : qm_H} (h6 : 6 ≤ L) (hH : hk_H h) (hB : hk_B h.2.1) (hr : hk_ru h.2.1) (hwr : h.2.2.2 111 15 = none) {x y : Int32} (hx : (0 : Int) ≤ x.toInt ∧ x.toInt ≤ 16) (hy : (0 : Int) ≤ y.toInt ∧ y.toInt ≤ 16) (k : ∀ (v : Int32) (I : Nat → Nat → Int32) (J : Nat → Nat → Int64), hk_B I → (∀ o i, I o i = h.2.1 o i) → Z (some (.int v)) (h.1, I, J, h.2.2.2)) : qm_Ru (some (L, xs)) (d + 22) cd_122 (qm_ent 6 [.ref 111, .int x, .int y] h) Z := by
  refine qm_Ru.go 4 (c' := (5, [.ref 111, .int x, .int y, .int 0, .int x, .float 0], [], h)) rfl ?_
  exact hl_held111n h6 hH hB hr hwr hx hy k _ h.2.1 h.2.2.1 0 x _ (fun _ _ => rfl) hB (by omega) rfl
theorem hl_held111w {L : Nat} {xs : Nat → Int32} {d : Nat} {Z : Option Value → qm_H → Prop} {h : qm_H} (h6 : 6 ≤ L) (hH : hk_H h) (hB : hk_B h.2.1) (hr : hk_ru h.2.1) {w : Nat} (hw : 192 ≤ w) (hD : wd h w) (hwr : h.2.2.2 111 15 = some w) {x y : Int32} (hx : (0 : Int) ≤ x.toInt ∧ x.toInt ≤ 16) (hy : (0 : Int) ≤ y.toInt ∧ y.toInt ≤ 16) (k : ∀ (v : Int32) (I : Nat → Nat → Int32) (J : Nat → Nat → Int64), hk_B I → (∀ o, o < w ∨ w + 21 ≤ o → ∀ i, I o i = h.2.1 o i) → Z (some (.int v)) (h.1, I, J, h.2.2.2)) : ∀ (m : Nat) (I : Nat → Nat → Int32) (J : Nat → Nat → Int64) (n i : Int32) (l5 : Value), (∀ o, o < w ∨ w + 21 ≤ o → ∀ i, I o i = h.2.1 o i) → hk_B I → (0 ≤ i.toInt ∧ i.toInt ≤ 16) → (16 - i.toInt).toNat = m → qm_Ru (some (L, xs)) (d + 22) cd_122 (5, [.ref 111, .int x, .int y, .int n, .int i, l5], [], (h.1, I, J, h.2.2.2)) Z := by
  intro m
  induction m using Nat.strongRecOn with
  | ind m ih =>
    intro I J n i l5 e be hi hm
    refine qm_Ru.go 2 (c' := (8, [.ref 111, .int x, .int y, .int n, .int i, l5], [.int y, .int i], (h.1, I, J, h.2.2.2))) rfl ?_
    refine hk_cge (ix := i.toInt) (iy := y.toInt) rfl rfl rfl (fun z1 => ?_) (fun z1 => ?_)
    · refine qm_Ru.go 1 (c' := (69, [.ref 111, .int x, .int y, .int n, .int i, l5], [.int n], (h.1, I, J, h.2.2.2))) rfl ?_
      refine qm_Ru.rt (v := (some (.int n))) (h' := (h.1, I, J, h.2.2.2)) rfl ?_
      exact k n (I) (J) be (fun o ho i => (e o ho i))
    · refine qm_Ru.go 1 (c' := (12, [.ref 111, .int x, .int y, .int n, .int i, l5], [.ref 111], (h.1, I, J, h.2.2.2))) rfl ?_
      refine hk_getr rfl (hH.1 111 (11, 16) rfl) rfl (hH.2 111 11 (some 115) rfl) ?_
      refine qm_Ru.go 1 (c' := (17, [.ref 111, .int x, .int y, .int n, .int i, l5], [.int i, .ref 115], (h.1, I, J, h.2.2.2))) rfl ?_
      obtain ⟨v2, q_v2⟩ : ∃ v, h.2.1 115 (i.toInt.toNat) = v := ⟨_, rfl⟩
      have b_v2 : (0 : Int) ≤ v2.toInt ∧ v2.toInt ≤ 101 := by rw [← q_v2]; exact hB 115 (i.toInt.toNat)
      refine hk_ial (v := v2) rfl (hH.1 115 (0, 16) rfl) (by omega) (by omega) (show (I) 115 (i.toInt.toNat) = _ from ((e 115 (Or.inl (by omega)) (i.toInt.toNat)).trans q_v2)) ?_
      refine qm_Ru.go 0 (c' := (18, [.ref 111, .int x, .int y, .int n, .int i, l5], [.int v2], (h.1, I, J, h.2.2.2))) rfl ?_
      refine hk_zle (ix := v2.toInt) rfl rfl (fun z3 => ?_) (fun z3 => ?_)
      · refine qm_Ru.go 2 (c' := (44, [.ref 111, .int x, .int y, .int n, .int i, l5], [.int i, .ref 111], (h.1, I, J, h.2.2.2))) rfl ?_
        have rue : hk_ru I := hk_ru_same hr (fun o ho i => e o (Or.inl (by omega)) i)
        refine hk_inv (o := 111) (r := []) (as := [.ref 111, .int i]) rfl rfl (hH.1 111 (11, 16) rfl) rfl rfl rfl rfl (hs_thold111 h6 ⟨hH.1, hH.2⟩ be rue ⟨by show (0 : Int) ≤ _; omega, by show _ ≤ (15 : Int); omega⟩ (by omega) (fun v7 I4 J5 b_v7 _ fe6 => ?_))
        have b_v7 : (0 : Int) ≤ v7.toInt ∧ v7.toInt ≤ 1 := b_v7
        have e6 : ∀ o, o < w ∨ w + 21 ≤ o → ∀ i, I4 o i = h.2.1 o i := fun o ho i => (fe6 o rfl i).trans (e o ho i)
        have be6 : hk_B I4 := fun o i => by
          by_cases c : o < 192
          · rw [e6 o (Or.inl (by omega)) i]
            exact hB o i
          · exact hb_hi (by omega)
        refine qm_Ru.go 3 (c' := (52, [.ref 111, .int x, .int y, .int n, .int i, .int v7], [.int v7, .int n], (h.1, I4, J5, h.2.2.2))) rfl ?_
        refine hk_zeq (ix := v7.toInt) rfl rfl (fun z8 => ?_) (fun z8 => ?_)
        · refine qm_Ru.go 2 (c' := (61, [.ref 111, .int x, .int y, .int n, .int i, .int v7], [.int (n + 0)], (h.1, I4, J5, h.2.2.2))) rfl ?_
          have := hk_rng n
          obtain ⟨v9, q_v9, e_v9⟩ := hk_add (x := n) (y := 0) (a := n.toInt) (b := 0) rfl rfl (by omega) (by omega)
          rw [q_v9]
          refine qm_Ru.go 2 (c' := (65, [.ref 111, .int x, .int y, .int v9, .int (i + 1), .int v7], [], (h.1, I4, J5, h.2.2.2))) rfl ?_
          obtain ⟨v10, q_v10, e_v10⟩ := hk_add (x := i) (y := 1) (a := i.toInt) (b := 1) rfl rfl (by omega) (by omega)
          rw [q_v10]
          refine qm_Ru.go 1 (c' := (5, [.ref 111, .int x, .int y, .int v9, .int v10, .int v7], [], (h.1, I4, J5, h.2.2.2))) rfl ?_
          exact ih _ (by omega) (I4) (J5) v9 v10 (.int v7) (fun o ho i => (e6 o ho i)) be6 (by omega) rfl
        · refine qm_Ru.go 3 (c' := (61, [.ref 111, .int x, .int y, .int n, .int i, .int v7], [.int (n + 1)], (h.1, I4, J5, h.2.2.2))) rfl ?_
          obtain ⟨v11, q_v11⟩ : ∃ v, (n + 1) = v := ⟨_, rfl⟩
          rw [q_v11]
          refine qm_Ru.go 2 (c' := (65, [.ref 111, .int x, .int y, .int v11, .int (i + 1), .int v7], [], (h.1, I4, J5, h.2.2.2))) rfl ?_
          obtain ⟨v12, q_v12, e_v12⟩ := hk_add (x := i) (y := 1) (a := i.toInt) (b := 1) rfl rfl (by omega) (by omega)
          rw [q_v12]
          refine qm_Ru.go 1 (c' := (5, [.ref 111, .int x, .int y, .int v11, .int v12, .int v7], [], (h.1, I4, J5, h.2.2.2))) rfl ?_
          exact ih _ (by omega) (I4) (J5) v11 v12 (.int v7) (fun o ho i => (e6 o ho i)) be6 (by omega) rfl
      · refine qm_Ru.go 1 (c' := (22, [.ref 111, .int x, .int y, .int n, .int i, l5], [.ref 111], (h.1, I, J, h.2.2.2))) rfl ?_
        refine hk_getr rfl (hH.1 111 (11, 16) rfl) rfl hwr ?_
        refine qm_Ru.go 2 (c' := (29, [.ref 111, .int x, .int y, .int n, .int i, l5], [.ref 111], (h.1, I, J, h.2.2.2))) rfl ?_
        refine hk_getr rfl (hH.1 111 (11, 16) rfl) rfl hwr ?_
        refine qm_Ru.go 2 (c' := (35, [.ref 111, .int x, .int y, .int n, .int i, l5], [.int i, .ref 111, .ref w], (h.1, I, J, h.2.2.2))) rfl ?_
        refine hk_inv (o := w) (r := []) (as := [.ref w, .ref 111, .int i]) rfl rfl hD.1 rfl rfl rfl rfl (hs_whold111 (h := (h.1, I, J, h.2.2.2)) (w := w) (s := i) ⟨hH.1, hH.2⟩ be hw (wd_same hD rfl rfl) (by omega) (fun v16 I13 J14 b_v16 fe15 => ?_))
        have e15 : ∀ o, o < w ∨ w + 21 ≤ o → ∀ i, I13 o i = h.2.1 o i := fun o ho i => (fe15 o ho i).trans (e o ho i)
        have be15 : hk_B I13 := fun o i => by
          by_cases c : o < 192
          · rw [e15 o (Or.inl (by omega)) i]
            exact hB o i
          · exact hb_hi (by omega)
        refine qm_Ru.go 4 (c' := (52, [.ref 111, .int x, .int y, .int n, .int i, .int v16], [.int v16, .int n], (h.1, I13, J14, h.2.2.2))) rfl ?_
        refine hk_zeq (ix := v16.toInt) rfl rfl (fun z17 => ?_) (fun z17 => ?_)
        · refine qm_Ru.go 2 (c' := (61, [.ref 111, .int x, .int y, .int n, .int i, .int v16], [.int (n + 0)], (h.1, I13, J14, h.2.2.2))) rfl ?_
          have := hk_rng n
          obtain ⟨v18, q_v18, e_v18⟩ := hk_add (x := n) (y := 0) (a := n.toInt) (b := 0) rfl rfl (by omega) (by omega)
          rw [q_v18]
          refine qm_Ru.go 2 (c' := (65, [.ref 111, .int x, .int y, .int v18, .int (i + 1), .int v16], [], (h.1, I13, J14, h.2.2.2))) rfl ?_
          obtain ⟨v19, q_v19, e_v19⟩ := hk_add (x := i) (y := 1) (a := i.toInt) (b := 1) rfl rfl (by omega) (by omega)
          rw [q_v19]
          refine qm_Ru.go 1 (c' := (5, [.ref 111, .int x, .int y, .int v18, .int v19, .int v16], [], (h.1, I13, J14, h.2.2.2))) rfl ?_
          exact ih _ (by omega) (I13) (J14) v18 v19 (.int v16) (fun o ho i => (e15 o ho i)) be15 (by omega) rfl
        · refine qm_Ru.go 3 (c' := (61, [.ref 111, .int x, .int y, .int n, .int i, .int v16], [.int (n + 1)], (h.1, I13, J14, h.2.2.2))) rfl ?_
          obtain ⟨v20, q_v20⟩ : ∃ v, (n + 1) = v := ⟨_, rfl⟩
          rw [q_v20]
          refine qm_Ru.go 2 (c' := (65, [.ref 111, .int x, .int y, .int v20, .int (i + 1), .int v16], [], (h.1, I13, J14, h.2.2.2))) rfl ?_
          obtain ⟨v21, q_v21, e_v21⟩ := hk_add (x := i) (y := 1) (a := i.toInt) (b := 1) rfl rfl (by omega) (by omega)
          rw [q_v21]
          refine qm_Ru.go 1 (c' := (5, [.ref 111, .int x, .int y, .int v20, .int v21, .int v16], [], (h.1, I13, J14, h.2.2.2))) rfl ?_
          exact ih _ (by omega) (I13) (J14) v20 v21 (.int v16) (fun o ho i => (e15 o ho i)) be15 (by omega) rfl
theorem hs_held111w {L : Nat} {xs : Nat → Int32} {d : Nat} {Z : Option Value → qm_H → Prop} {h : qm_H} (h6 : 6 ≤ L) (hH : hk_H h) (hB : hk_B h.2.1) (hr : hk_ru h.2.1) {w : Nat} (hw : 192 ≤ w) (hD : wd h w) (hwr : h.2.2.2 111 15 = some w) {x y : Int32} (hx : (0 : Int) ≤ x.toInt ∧ x.toInt ≤ 16) (hy : (0 : Int) ≤ y.toInt ∧ y.toInt ≤ 16) (k : ∀ (v : Int32) (I : Nat → Nat → Int32) (J : Nat → Nat → Int64), hk_B I → (∀ o, o < w ∨ w + 21 ≤ o → ∀ i, I o i = h.2.1 o i) → Z (some (.int v)) (h.1, I, J, h.2.2.2)) : qm_Ru (some (L, xs)) (d + 22) cd_122 (qm_ent 6 [.ref 111, .int x, .int y] h) Z := by
  refine qm_Ru.go 4 (c' := (5, [.ref 111, .int x, .int y, .int 0, .int x, .float 0], [], h)) rfl ?_
  exact hl_held111w h6 hH hB hr hw hD hwr hx hy k _ h.2.1 h.2.2.1 0 x _ (fun _ _ _ => rfl) hB (by omega) rfl
