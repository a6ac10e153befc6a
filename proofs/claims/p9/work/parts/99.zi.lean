/-! contracts of the reference by hand -/
theorem hl_bk1_22 {L : Nat} {xs : Nat → Int32} {d : Nat} {Z : Option Value → qm_H → Prop} {h : qm_H} (h6 : 6 ≤ L) (hH : hk_H h) (hB : hk_B h.2.1) (ht : tw (pI h.2.1 22)) {s : Int32} (b_s : (0 : Int) ≤ s.toInt ∧ s.toInt ≤ 3) (ko : ∀ (I : Nat → Nat → Int32) (J : Nat → Nat → Int64) (s2 n2 le i2 : Int32) (l5 : Value), hk_B I → (∀ o, [].contains o = false → ∀ i, I o i = h.2.1 o i) → s2.toInt = s.toInt + 1 → ((0 : Int) ≤ n2.toInt ∧ n2.toInt ≤ 4 * s.toInt + 4) → qm_Ru (some (L, xs)) (d + 20) cd_172 (4, [.ref 22, .int n2, .int s2, .int le, .int i2, l5], [], (h.1, I, J, h.2.2.2)) Z) : ∀ (m : Nat) (I : Nat → Nat → Int32) (J : Nat → Nat → Int64) (n : Int32) (le : Int32) (i : Int32) (l5 : Value), hk_B I → (∀ o, [].contains o = false → ∀ i, I o i = h.2.1 o i) → ((0 : Int) ≤ i.toInt ∧ i.toInt ≤ 4) → ((0 : Int) ≤ n.toInt ∧ n.toInt ≤ 4 * s.toInt + i.toInt) → (4 - i.toInt).toNat = m → qm_Ru (some (L, xs)) (d + 20) cd_172 (15, [.ref 22, .int n, .int s, .int le, .int i, l5], [], (h.1, I, J, h.2.2.2)) Z := by
  intro m
  induction m using Nat.strongRecOn with
  | ind m ih =>
    intro I J n le i l5 hBI e h_i h_n hm
    refine qm_Ru.go 5 (c' := (22, [.ref 22, .int n, .int s, .int le, .int i, l5], [.int (16 + s), .ref 22, .int i], (h.1, I, J, h.2.2.2))) rfl ?_
    obtain ⟨v1, q_v1, e_v1⟩ := hk_add (x := 16) (y := s) (a := 16) (b := s.toInt) rfl rfl (by omega) (by omega)
    rw [q_v1]
    obtain ⟨v2, q_v2⟩ : ∃ v, h.2.1 22 (v1.toInt.toNat) = v := ⟨_, rfl⟩
    have b_v2 : (0 : Int) ≤ v2.toInt ∧ v2.toInt ≤ 12 := by rw [← q_v2]; exact hB 22 (v1.toInt.toNat)
    refine hk_ial (v := v2) rfl (hH.1 22 (0, 21) rfl) (by omega) (by omega) (show (I) 22 (v1.toInt.toNat) = _ from ((e 22 rfl (v1.toInt.toNat)).trans q_v2)) ?_
    refine qm_Ru.go 0 (c' := (23, [.ref 22, .int n, .int s, .int le, .int i, l5], [.int v2, .int i], (h.1, I, J, h.2.2.2))) rfl ?_
    have r_v2 : (0 : Int) ≤ v2.toInt ∧ v2.toInt ≤ 4 := by rw [← q_v2, show v1.toInt.toNat = 16 + s.toInt.toNat from by omega]; exact ht _ (by omega)
    refine hk_cge (ix := i.toInt) (iy := v2.toInt) rfl rfl rfl (fun z3 => ?_) (fun z3 => ?_)
    · refine qm_Ru.go 1 (c' := (66, [.ref 22, .int n, .int (s + 1), .int le, .int i, l5], [], (h.1, I, J, h.2.2.2))) rfl ?_
      obtain ⟨v4, q_v4, e_v4⟩ := hk_add (x := s) (y := 1) (a := s.toInt) (b := 1) rfl rfl (by omega) (by omega)
      rw [q_v4]
      refine qm_Ru.go 1 (c' := (4, [.ref 22, .int n, .int v4, .int le, .int i, l5], [], (h.1, I, J, h.2.2.2))) rfl ?_
      exact ko (I) (J) v4 n le i l5 hBI (fun o ho i => (e o ho i)) (by omega) (by omega)
    · refine qm_Ru.go 4 (c' := (30, [.ref 22, .int n, .int s, .int le, .int i, l5], [.int (s * 4), .ref 22], (h.1, I, J, h.2.2.2))) rfl ?_
      obtain ⟨v5, q_v5, e_v5⟩ := hk_mul (x := s) (y := 4) (a := s.toInt) (b := 4) rfl rfl (by omega) (by omega)
      rw [q_v5]
      refine qm_Ru.go 2 (c' := (33, [.ref 22, .int n, .int s, .int le, .int i, l5], [.int (v5 + i), .ref 22], (h.1, I, J, h.2.2.2))) rfl ?_
      obtain ⟨v6, q_v6, e_v6⟩ := hk_add (x := v5) (y := i) (a := v5.toInt) (b := i.toInt) rfl rfl (by omega) (by omega)
      rw [q_v6]
      obtain ⟨v7, q_v7⟩ : ∃ v, h.2.1 22 (v6.toInt.toNat) = v := ⟨_, rfl⟩
      have b_v7 : (0 : Int) ≤ v7.toInt ∧ v7.toInt ≤ 12 := by rw [← q_v7]; exact hB 22 (v6.toInt.toNat)
      refine hk_ial (v := v7) rfl (hH.1 22 (0, 21) rfl) (by omega) (by omega) (show (I) 22 (v6.toInt.toNat) = _ from ((e 22 rfl (v6.toInt.toNat)).trans q_v7)) ?_
      refine qm_Ru.go 4 (c' := (40, [.ref 22, .int n, .int s, .int le, .int i, .int v7], [.int le, .int v7, .int n], (h.1, I, J, h.2.2.2))) rfl ?_
      refine hk_cle (ix := v7.toInt) (iy := le.toInt) rfl rfl rfl (fun z8 => ?_) (fun z8 => ?_)
      · refine qm_Ru.go 2 (c' := (49, [.ref 22, .int n, .int s, .int le, .int i, .int v7], [.int (n + 0)], (h.1, I, J, h.2.2.2))) rfl ?_
        obtain ⟨v9, q_v9, e_v9⟩ := hk_add (x := n) (y := 0) (a := n.toInt) (b := 0) rfl rfl (by omega) (by omega)
        rw [q_v9]
        refine qm_Ru.go 3 (c' := (53, [.ref 22, .int v9, .int s, .int le, .int i, .int v7], [.int v7, .int le], (h.1, I, J, h.2.2.2))) rfl ?_
        refine qm_Ru.go 1 (c' := (56, [.ref 22, .int v9, .int s, .int le, .int i, .int v7], [.int (if v7 < le then v7 else le)], (h.1, I, J, h.2.2.2))) rfl ?_
        obtain ⟨v10, q_v10⟩ : ∃ v, (if v7 < le then v7 else le) = v := ⟨_, rfl⟩
        rw [q_v10]
        refine qm_Ru.go 2 (c' := (60, [.ref 22, .int v9, .int s, .int v10, .int (i + 1), .int v7], [], (h.1, I, J, h.2.2.2))) rfl ?_
        obtain ⟨v11, q_v11, e_v11⟩ := hk_add (x := i) (y := 1) (a := i.toInt) (b := 1) rfl rfl (by omega) (by omega)
        rw [q_v11]
        refine qm_Ru.go 1 (c' := (15, [.ref 22, .int v9, .int s, .int v10, .int v11, .int v7], [], (h.1, I, J, h.2.2.2))) rfl ?_
        exact ih _ (by omega) (I) (J) v9 v10 v11 (.int v7) hBI (fun o ho i => (e o ho i)) (by omega) (by omega) rfl
      · refine qm_Ru.go 3 (c' := (49, [.ref 22, .int n, .int s, .int le, .int i, .int v7], [.int (n + 1)], (h.1, I, J, h.2.2.2))) rfl ?_
        obtain ⟨v12, q_v12, e_v12⟩ := hk_add (x := n) (y := 1) (a := n.toInt) (b := 1) rfl rfl (by omega) (by omega)
        rw [q_v12]
        refine qm_Ru.go 3 (c' := (53, [.ref 22, .int v12, .int s, .int le, .int i, .int v7], [.int v7, .int le], (h.1, I, J, h.2.2.2))) rfl ?_
        refine qm_Ru.go 1 (c' := (56, [.ref 22, .int v12, .int s, .int le, .int i, .int v7], [.int (if v7 < le then v7 else le)], (h.1, I, J, h.2.2.2))) rfl ?_
        obtain ⟨v13, q_v13⟩ : ∃ v, (if v7 < le then v7 else le) = v := ⟨_, rfl⟩
        rw [q_v13]
        refine qm_Ru.go 2 (c' := (60, [.ref 22, .int v12, .int s, .int v13, .int (i + 1), .int v7], [], (h.1, I, J, h.2.2.2))) rfl ?_
        obtain ⟨v14, q_v14, e_v14⟩ := hk_add (x := i) (y := 1) (a := i.toInt) (b := 1) rfl rfl (by omega) (by omega)
        rw [q_v14]
        refine qm_Ru.go 1 (c' := (15, [.ref 22, .int v12, .int s, .int v13, .int v14, .int v7], [], (h.1, I, J, h.2.2.2))) rfl ?_
        exact ih _ (by omega) (I) (J) v12 v13 v14 (.int v7) hBI (fun o ho i => (e o ho i)) (by omega) (by omega) rfl
theorem hl_bk2_22 {L : Nat} {xs : Nat → Int32} {d : Nat} {Z : Option Value → qm_H → Prop} {h : qm_H} (h6 : 6 ≤ L) (hH : hk_H h) (hB : hk_B h.2.1) (ht : tw (pI h.2.1 22)) (k : ∀ (v : Int32) (I : Nat → Nat → Int32) (J : Nat → Nat → Int64), (0 : Int) ≤ v.toInt ∧ v.toInt ≤ 16 → hk_B I → (∀ o, [].contains o = false → ∀ i, I o i = h.2.1 o i) → Z (some (.int v)) (h.1, I, J, h.2.2.2)) : ∀ (m : Nat) (I : Nat → Nat → Int32) (J : Nat → Nat → Int64) (n : Int32) (s : Int32) (l3 l4 l5 : Value), hk_B I → (∀ o, [].contains o = false → ∀ i, I o i = h.2.1 o i) → ((0 : Int) ≤ s.toInt ∧ s.toInt ≤ 4) → ((0 : Int) ≤ n.toInt ∧ n.toInt ≤ 4 * s.toInt) → (4 - s.toInt).toNat = m → qm_Ru (some (L, xs)) (d + 20) cd_172 (4, [.ref 22, .int n, .int s, l3, l4, l5], [], (h.1, I, J, h.2.2.2)) Z := by
  intro m
  induction m using Nat.strongRecOn with
  | ind m ih =>
    intro I J n s l3 l4 l5 hBI e b_s h_n hm
    refine qm_Ru.go 2 (c' := (6, [.ref 22, .int n, .int s, l3, l4, l5], [.int 4, .int s], (h.1, I, J, h.2.2.2))) rfl ?_
    refine hk_cge (ix := s.toInt) (iy := 4) rfl rfl rfl (fun z1 => ?_) (fun z1 => ?_)
    · refine qm_Ru.go 1 (c' := (70, [.ref 22, .int n, .int s, l3, l4, l5], [.int n], (h.1, I, J, h.2.2.2))) rfl ?_
      refine qm_Ru.rt (v := (some (.int n))) (h' := (h.1, I, J, h.2.2.2)) rfl ?_
      exact k n (I) (J) (by omega) hBI (fun o ho i => (e o ho i))
    · refine qm_Ru.go 4 (c' := (15, [.ref 22, .int n, .int s, .int 13, .int 0, l5], [], (h.1, I, J, h.2.2.2))) rfl ?_
      exact hl_bk1_22 h6 hH hB ht (s := s) (by omega) (fun I J s2 n2 le i2 l5 hBI e es en => ih _ (by omega) I J n2 s2 (.int le) (.int i2) l5 hBI e (by omega) (by omega) rfl) _ (I) (J) n 13 0 l5 hBI (fun o ho i => (e o ho i)) (by decide) (by show (0 : Int) ≤ n.toInt ∧ n.toInt ≤ 4 * s.toInt + 0; omega) rfl
theorem hs_blk_22 {L : Nat} {xs : Nat → Int32} {d : Nat} {Z : Option Value → qm_H → Prop} {h : qm_H} (h6 : 6 ≤ L) (hH : hk_H h) (hB : hk_B h.2.1) (ht : tw (pI h.2.1 22)) (k : ∀ (v : Int32) (I : Nat → Nat → Int32) (J : Nat → Nat → Int64), (0 : Int) ≤ v.toInt ∧ v.toInt ≤ 16 → hk_B I → (∀ o, [].contains o = false → ∀ i, I o i = h.2.1 o i) → Z (some (.int v)) (h.1, I, J, h.2.2.2)) : qm_Ru (some (L, xs)) (d + 20) cd_172 (qm_ent 6 [.ref 22] h) Z := by
  refine qm_Ru.go 4 (c' := (4, [.ref 22, .int 0, .int 0, .float 0, .float 0, .float 0], [], h)) rfl ?_
  exact hl_bk2_22 h6 hH hB ht k _ h.2.1 h.2.2.1 0 0 _ _ _ hB (fun _ _ _ => rfl) (by decide) (by decide) rfl
theorem hl_bk1_23 {L : Nat} {xs : Nat → Int32} {d : Nat} {Z : Option Value → qm_H → Prop} {h : qm_H} (h6 : 6 ≤ L) (hH : hk_H h) (hB : hk_B h.2.1) (ht : tw (pI h.2.1 23)) {s : Int32} (b_s : (0 : Int) ≤ s.toInt ∧ s.toInt ≤ 3) (ko : ∀ (I : Nat → Nat → Int32) (J : Nat → Nat → Int64) (s2 n2 le i2 : Int32) (l5 : Value), hk_B I → (∀ o, [].contains o = false → ∀ i, I o i = h.2.1 o i) → s2.toInt = s.toInt + 1 → ((0 : Int) ≤ n2.toInt ∧ n2.toInt ≤ 4 * s.toInt + 4) → qm_Ru (some (L, xs)) (d + 20) cd_172 (4, [.ref 23, .int n2, .int s2, .int le, .int i2, l5], [], (h.1, I, J, h.2.2.2)) Z) : ∀ (m : Nat) (I : Nat → Nat → Int32) (J : Nat → Nat → Int64) (n : Int32) (le : Int32) (i : Int32) (l5 : Value), hk_B I → (∀ o, [].contains o = false → ∀ i, I o i = h.2.1 o i) → ((0 : Int) ≤ i.toInt ∧ i.toInt ≤ 4) → ((0 : Int) ≤ n.toInt ∧ n.toInt ≤ 4 * s.toInt + i.toInt) → (4 - i.toInt).toNat = m → qm_Ru (some (L, xs)) (d + 20) cd_172 (15, [.ref 23, .int n, .int s, .int le, .int i, l5], [], (h.1, I, J, h.2.2.2)) Z := by
  intro m
  induction m using Nat.strongRecOn with
  | ind m ih =>
    intro I J n le i l5 hBI e h_i h_n hm
    refine qm_Ru.go 5 (c' := (22, [.ref 23, .int n, .int s, .int le, .int i, l5], [.int (16 + s), .ref 23, .int i], (h.1, I, J, h.2.2.2))) rfl ?_
    obtain ⟨v1, q_v1, e_v1⟩ := hk_add (x := 16) (y := s) (a := 16) (b := s.toInt) rfl rfl (by omega) (by omega)
    rw [q_v1]
    obtain ⟨v2, q_v2⟩ : ∃ v, h.2.1 23 (v1.toInt.toNat) = v := ⟨_, rfl⟩
    have b_v2 : (0 : Int) ≤ v2.toInt ∧ v2.toInt ≤ 12 := by rw [← q_v2]; exact hB 23 (v1.toInt.toNat)
    refine hk_ial (v := v2) rfl (hH.1 23 (0, 21) rfl) (by omega) (by omega) (show (I) 23 (v1.toInt.toNat) = _ from ((e 23 rfl (v1.toInt.toNat)).trans q_v2)) ?_
    refine qm_Ru.go 0 (c' := (23, [.ref 23, .int n, .int s, .int le, .int i, l5], [.int v2, .int i], (h.1, I, J, h.2.2.2))) rfl ?_
    have r_v2 : (0 : Int) ≤ v2.toInt ∧ v2.toInt ≤ 4 := by rw [← q_v2, show v1.toInt.toNat = 16 + s.toInt.toNat from by omega]; exact ht _ (by omega)
    refine hk_cge (ix := i.toInt) (iy := v2.toInt) rfl rfl rfl (fun z3 => ?_) (fun z3 => ?_)
    · refine qm_Ru.go 1 (c' := (66, [.ref 23, .int n, .int (s + 1), .int le, .int i, l5], [], (h.1, I, J, h.2.2.2))) rfl ?_
      obtain ⟨v4, q_v4, e_v4⟩ := hk_add (x := s) (y := 1) (a := s.toInt) (b := 1) rfl rfl (by omega) (by omega)
      rw [q_v4]
      refine qm_Ru.go 1 (c' := (4, [.ref 23, .int n, .int v4, .int le, .int i, l5], [], (h.1, I, J, h.2.2.2))) rfl ?_
      exact ko (I) (J) v4 n le i l5 hBI (fun o ho i => (e o ho i)) (by omega) (by omega)
    · refine qm_Ru.go 4 (c' := (30, [.ref 23, .int n, .int s, .int le, .int i, l5], [.int (s * 4), .ref 23], (h.1, I, J, h.2.2.2))) rfl ?_
      obtain ⟨v5, q_v5, e_v5⟩ := hk_mul (x := s) (y := 4) (a := s.toInt) (b := 4) rfl rfl (by omega) (by omega)
      rw [q_v5]
      refine qm_Ru.go 2 (c' := (33, [.ref 23, .int n, .int s, .int le, .int i, l5], [.int (v5 + i), .ref 23], (h.1, I, J, h.2.2.2))) rfl ?_
      obtain ⟨v6, q_v6, e_v6⟩ := hk_add (x := v5) (y := i) (a := v5.toInt) (b := i.toInt) rfl rfl (by omega) (by omega)
      rw [q_v6]
      obtain ⟨v7, q_v7⟩ : ∃ v, h.2.1 23 (v6.toInt.toNat) = v := ⟨_, rfl⟩
      have b_v7 : (0 : Int) ≤ v7.toInt ∧ v7.toInt ≤ 12 := by rw [← q_v7]; exact hB 23 (v6.toInt.toNat)
      refine hk_ial (v := v7) rfl (hH.1 23 (0, 21) rfl) (by omega) (by omega) (show (I) 23 (v6.toInt.toNat) = _ from ((e 23 rfl (v6.toInt.toNat)).trans q_v7)) ?_
      refine qm_Ru.go 4 (c' := (40, [.ref 23, .int n, .int s, .int le, .int i, .int v7], [.int le, .int v7, .int n], (h.1, I, J, h.2.2.2))) rfl ?_
      refine hk_cle (ix := v7.toInt) (iy := le.toInt) rfl rfl rfl (fun z8 => ?_) (fun z8 => ?_)
      · refine qm_Ru.go 2 (c' := (49, [.ref 23, .int n, .int s, .int le, .int i, .int v7], [.int (n + 0)], (h.1, I, J, h.2.2.2))) rfl ?_
        obtain ⟨v9, q_v9, e_v9⟩ := hk_add (x := n) (y := 0) (a := n.toInt) (b := 0) rfl rfl (by omega) (by omega)
        rw [q_v9]
        refine qm_Ru.go 3 (c' := (53, [.ref 23, .int v9, .int s, .int le, .int i, .int v7], [.int v7, .int le], (h.1, I, J, h.2.2.2))) rfl ?_
        refine qm_Ru.go 1 (c' := (56, [.ref 23, .int v9, .int s, .int le, .int i, .int v7], [.int (if v7 < le then v7 else le)], (h.1, I, J, h.2.2.2))) rfl ?_
        obtain ⟨v10, q_v10⟩ : ∃ v, (if v7 < le then v7 else le) = v := ⟨_, rfl⟩
        rw [q_v10]
        refine qm_Ru.go 2 (c' := (60, [.ref 23, .int v9, .int s, .int v10, .int (i + 1), .int v7], [], (h.1, I, J, h.2.2.2))) rfl ?_
        obtain ⟨v11, q_v11, e_v11⟩ := hk_add (x := i) (y := 1) (a := i.toInt) (b := 1) rfl rfl (by omega) (by omega)
        rw [q_v11]
        refine qm_Ru.go 1 (c' := (15, [.ref 23, .int v9, .int s, .int v10, .int v11, .int v7], [], (h.1, I, J, h.2.2.2))) rfl ?_
        exact ih _ (by omega) (I) (J) v9 v10 v11 (.int v7) hBI (fun o ho i => (e o ho i)) (by omega) (by omega) rfl
      · refine qm_Ru.go 3 (c' := (49, [.ref 23, .int n, .int s, .int le, .int i, .int v7], [.int (n + 1)], (h.1, I, J, h.2.2.2))) rfl ?_
        obtain ⟨v12, q_v12, e_v12⟩ := hk_add (x := n) (y := 1) (a := n.toInt) (b := 1) rfl rfl (by omega) (by omega)
        rw [q_v12]
        refine qm_Ru.go 3 (c' := (53, [.ref 23, .int v12, .int s, .int le, .int i, .int v7], [.int v7, .int le], (h.1, I, J, h.2.2.2))) rfl ?_
        refine qm_Ru.go 1 (c' := (56, [.ref 23, .int v12, .int s, .int le, .int i, .int v7], [.int (if v7 < le then v7 else le)], (h.1, I, J, h.2.2.2))) rfl ?_
        obtain ⟨v13, q_v13⟩ : ∃ v, (if v7 < le then v7 else le) = v := ⟨_, rfl⟩
        rw [q_v13]
        refine qm_Ru.go 2 (c' := (60, [.ref 23, .int v12, .int s, .int v13, .int (i + 1), .int v7], [], (h.1, I, J, h.2.2.2))) rfl ?_
        obtain ⟨v14, q_v14, e_v14⟩ := hk_add (x := i) (y := 1) (a := i.toInt) (b := 1) rfl rfl (by omega) (by omega)
        rw [q_v14]
        refine qm_Ru.go 1 (c' := (15, [.ref 23, .int v12, .int s, .int v13, .int v14, .int v7], [], (h.1, I, J, h.2.2.2))) rfl ?_
        exact ih _ (by omega) (I) (J) v12 v13 v14 (.int v7) hBI (fun o ho i => (e o ho i)) (by omega) (by omega) rfl
theorem hl_bk2_23 {L : Nat} {xs : Nat → Int32} {d : Nat} {Z : Option Value → qm_H → Prop} {h : qm_H} (h6 : 6 ≤ L) (hH : hk_H h) (hB : hk_B h.2.1) (ht : tw (pI h.2.1 23)) (k : ∀ (v : Int32) (I : Nat → Nat → Int32) (J : Nat → Nat → Int64), (0 : Int) ≤ v.toInt ∧ v.toInt ≤ 16 → hk_B I → (∀ o, [].contains o = false → ∀ i, I o i = h.2.1 o i) → Z (some (.int v)) (h.1, I, J, h.2.2.2)) : ∀ (m : Nat) (I : Nat → Nat → Int32) (J : Nat → Nat → Int64) (n : Int32) (s : Int32) (l3 l4 l5 : Value), hk_B I → (∀ o, [].contains o = false → ∀ i, I o i = h.2.1 o i) → ((0 : Int) ≤ s.toInt ∧ s.toInt ≤ 4) → ((0 : Int) ≤ n.toInt ∧ n.toInt ≤ 4 * s.toInt) → (4 - s.toInt).toNat = m → qm_Ru (some (L, xs)) (d + 20) cd_172 (4, [.ref 23, .int n, .int s, l3, l4, l5], [], (h.1, I, J, h.2.2.2)) Z := by
  intro m
  induction m using Nat.strongRecOn with
  | ind m ih =>
    intro I J n s l3 l4 l5 hBI e b_s h_n hm
    refine qm_Ru.go 2 (c' := (6, [.ref 23, .int n, .int s, l3, l4, l5], [.int 4, .int s], (h.1, I, J, h.2.2.2))) rfl ?_
    refine hk_cge (ix := s.toInt) (iy := 4) rfl rfl rfl (fun z1 => ?_) (fun z1 => ?_)
    · refine qm_Ru.go 1 (c' := (70, [.ref 23, .int n, .int s, l3, l4, l5], [.int n], (h.1, I, J, h.2.2.2))) rfl ?_
      refine qm_Ru.rt (v := (some (.int n))) (h' := (h.1, I, J, h.2.2.2)) rfl ?_
      exact k n (I) (J) (by omega) hBI (fun o ho i => (e o ho i))
    · refine qm_Ru.go 4 (c' := (15, [.ref 23, .int n, .int s, .int 13, .int 0, l5], [], (h.1, I, J, h.2.2.2))) rfl ?_
      exact hl_bk1_23 h6 hH hB ht (s := s) (by omega) (fun I J s2 n2 le i2 l5 hBI e es en => ih _ (by omega) I J n2 s2 (.int le) (.int i2) l5 hBI e (by omega) (by omega) rfl) _ (I) (J) n 13 0 l5 hBI (fun o ho i => (e o ho i)) (by decide) (by show (0 : Int) ≤ n.toInt ∧ n.toInt ≤ 4 * s.toInt + 0; omega) rfl
theorem hs_blk_23 {L : Nat} {xs : Nat → Int32} {d : Nat} {Z : Option Value → qm_H → Prop} {h : qm_H} (h6 : 6 ≤ L) (hH : hk_H h) (hB : hk_B h.2.1) (ht : tw (pI h.2.1 23)) (k : ∀ (v : Int32) (I : Nat → Nat → Int32) (J : Nat → Nat → Int64), (0 : Int) ≤ v.toInt ∧ v.toInt ≤ 16 → hk_B I → (∀ o, [].contains o = false → ∀ i, I o i = h.2.1 o i) → Z (some (.int v)) (h.1, I, J, h.2.2.2)) : qm_Ru (some (L, xs)) (d + 20) cd_172 (qm_ent 6 [.ref 23] h) Z := by
  refine qm_Ru.go 4 (c' := (4, [.ref 23, .int 0, .int 0, .float 0, .float 0, .float 0], [], h)) rfl ?_
  exact hl_bk2_23 h6 hH hB ht k _ h.2.1 h.2.2.1 0 0 _ _ _ hB (fun _ _ _ => rfl) (by decide) (by decide) rfl
theorem hl_bk1_24 {L : Nat} {xs : Nat → Int32} {d : Nat} {Z : Option Value → qm_H → Prop} {h : qm_H} (h6 : 6 ≤ L) (hH : hk_H h) (hB : hk_B h.2.1) (ht : tw (pI h.2.1 24)) {s : Int32} (b_s : (0 : Int) ≤ s.toInt ∧ s.toInt ≤ 3) (ko : ∀ (I : Nat → Nat → Int32) (J : Nat → Nat → Int64) (s2 n2 le i2 : Int32) (l5 : Value), hk_B I → (∀ o, [].contains o = false → ∀ i, I o i = h.2.1 o i) → s2.toInt = s.toInt + 1 → ((0 : Int) ≤ n2.toInt ∧ n2.toInt ≤ 4 * s.toInt + 4) → qm_Ru (some (L, xs)) (d + 20) cd_172 (4, [.ref 24, .int n2, .int s2, .int le, .int i2, l5], [], (h.1, I, J, h.2.2.2)) Z) : ∀ (m : Nat) (I : Nat → Nat → Int32) (J : Nat → Nat → Int64) (n : Int32) (le : Int32) (i : Int32) (l5 : Value), hk_B I → (∀ o, [].contains o = false → ∀ i, I o i = h.2.1 o i) → ((0 : Int) ≤ i.toInt ∧ i.toInt ≤ 4) → ((0 : Int) ≤ n.toInt ∧ n.toInt ≤ 4 * s.toInt + i.toInt) → (4 - i.toInt).toNat = m → qm_Ru (some (L, xs)) (d + 20) cd_172 (15, [.ref 24, .int n, .int s, .int le, .int i, l5], [], (h.1, I, J, h.2.2.2)) Z := by
  intro m
  induction m using Nat.strongRecOn with
  | ind m ih =>
    intro I J n le i l5 hBI e h_i h_n hm
    refine qm_Ru.go 5 (c' := (22, [.ref 24, .int n, .int s, .int le, .int i, l5], [.int (16 + s), .ref 24, .int i], (h.1, I, J, h.2.2.2))) rfl ?_
    obtain ⟨v1, q_v1, e_v1⟩ := hk_add (x := 16) (y := s) (a := 16) (b := s.toInt) rfl rfl (by omega) (by omega)
    rw [q_v1]
    obtain ⟨v2, q_v2⟩ : ∃ v, h.2.1 24 (v1.toInt.toNat) = v := ⟨_, rfl⟩
    have b_v2 : (0 : Int) ≤ v2.toInt ∧ v2.toInt ≤ 12 := by rw [← q_v2]; exact hB 24 (v1.toInt.toNat)
    refine hk_ial (v := v2) rfl (hH.1 24 (0, 21) rfl) (by omega) (by omega) (show (I) 24 (v1.toInt.toNat) = _ from ((e 24 rfl (v1.toInt.toNat)).trans q_v2)) ?_
    refine qm_Ru.go 0 (c' := (23, [.ref 24, .int n, .int s, .int le, .int i, l5], [.int v2, .int i], (h.1, I, J, h.2.2.2))) rfl ?_
    have r_v2 : (0 : Int) ≤ v2.toInt ∧ v2.toInt ≤ 4 := by rw [← q_v2, show v1.toInt.toNat = 16 + s.toInt.toNat from by omega]; exact ht _ (by omega)
    refine hk_cge (ix := i.toInt) (iy := v2.toInt) rfl rfl rfl (fun z3 => ?_) (fun z3 => ?_)
    · refine qm_Ru.go 1 (c' := (66, [.ref 24, .int n, .int (s + 1), .int le, .int i, l5], [], (h.1, I, J, h.2.2.2))) rfl ?_
      obtain ⟨v4, q_v4, e_v4⟩ := hk_add (x := s) (y := 1) (a := s.toInt) (b := 1) rfl rfl (by omega) (by omega)
      rw [q_v4]
      refine qm_Ru.go 1 (c' := (4, [.ref 24, .int n, .int v4, .int le, .int i, l5], [], (h.1, I, J, h.2.2.2))) rfl ?_
      exact ko (I) (J) v4 n le i l5 hBI (fun o ho i => (e o ho i)) (by omega) (by omega)
    · refine qm_Ru.go 4 (c' := (30, [.ref 24, .int n, .int s, .int le, .int i, l5], [.int (s * 4), .ref 24], (h.1, I, J, h.2.2.2))) rfl ?_
      obtain ⟨v5, q_v5, e_v5⟩ := hk_mul (x := s) (y := 4) (a := s.toInt) (b := 4) rfl rfl (by omega) (by omega)
      rw [q_v5]
      refine qm_Ru.go 2 (c' := (33, [.ref 24, .int n, .int s, .int le, .int i, l5], [.int (v5 + i), .ref 24], (h.1, I, J, h.2.2.2))) rfl ?_
      obtain ⟨v6, q_v6, e_v6⟩ := hk_add (x := v5) (y := i) (a := v5.toInt) (b := i.toInt) rfl rfl (by omega) (by omega)
      rw [q_v6]
      obtain ⟨v7, q_v7⟩ : ∃ v, h.2.1 24 (v6.toInt.toNat) = v := ⟨_, rfl⟩
      have b_v7 : (0 : Int) ≤ v7.toInt ∧ v7.toInt ≤ 12 := by rw [← q_v7]; exact hB 24 (v6.toInt.toNat)
      refine hk_ial (v := v7) rfl (hH.1 24 (0, 21) rfl) (by omega) (by omega) (show (I) 24 (v6.toInt.toNat) = _ from ((e 24 rfl (v6.toInt.toNat)).trans q_v7)) ?_
      refine qm_Ru.go 4 (c' := (40, [.ref 24, .int n, .int s, .int le, .int i, .int v7], [.int le, .int v7, .int n], (h.1, I, J, h.2.2.2))) rfl ?_
      refine hk_cle (ix := v7.toInt) (iy := le.toInt) rfl rfl rfl (fun z8 => ?_) (fun z8 => ?_)
      · refine qm_Ru.go 2 (c' := (49, [.ref 24, .int n, .int s, .int le, .int i, .int v7], [.int (n + 0)], (h.1, I, J, h.2.2.2))) rfl ?_
        obtain ⟨v9, q_v9, e_v9⟩ := hk_add (x := n) (y := 0) (a := n.toInt) (b := 0) rfl rfl (by omega) (by omega)
        rw [q_v9]
        refine qm_Ru.go 3 (c' := (53, [.ref 24, .int v9, .int s, .int le, .int i, .int v7], [.int v7, .int le], (h.1, I, J, h.2.2.2))) rfl ?_
        refine qm_Ru.go 1 (c' := (56, [.ref 24, .int v9, .int s, .int le, .int i, .int v7], [.int (if v7 < le then v7 else le)], (h.1, I, J, h.2.2.2))) rfl ?_
        obtain ⟨v10, q_v10⟩ : ∃ v, (if v7 < le then v7 else le) = v := ⟨_, rfl⟩
        rw [q_v10]
        refine qm_Ru.go 2 (c' := (60, [.ref 24, .int v9, .int s, .int v10, .int (i + 1), .int v7], [], (h.1, I, J, h.2.2.2))) rfl ?_
        obtain ⟨v11, q_v11, e_v11⟩ := hk_add (x := i) (y := 1) (a := i.toInt) (b := 1) rfl rfl (by omega) (by omega)
        rw [q_v11]
        refine qm_Ru.go 1 (c' := (15, [.ref 24, .int v9, .int s, .int v10, .int v11, .int v7], [], (h.1, I, J, h.2.2.2))) rfl ?_
        exact ih _ (by omega) (I) (J) v9 v10 v11 (.int v7) hBI (fun o ho i => (e o ho i)) (by omega) (by omega) rfl
      · refine qm_Ru.go 3 (c' := (49, [.ref 24, .int n, .int s, .int le, .int i, .int v7], [.int (n + 1)], (h.1, I, J, h.2.2.2))) rfl ?_
        obtain ⟨v12, q_v12, e_v12⟩ := hk_add (x := n) (y := 1) (a := n.toInt) (b := 1) rfl rfl (by omega) (by omega)
        rw [q_v12]
        refine qm_Ru.go 3 (c' := (53, [.ref 24, .int v12, .int s, .int le, .int i, .int v7], [.int v7, .int le], (h.1, I, J, h.2.2.2))) rfl ?_
        refine qm_Ru.go 1 (c' := (56, [.ref 24, .int v12, .int s, .int le, .int i, .int v7], [.int (if v7 < le then v7 else le)], (h.1, I, J, h.2.2.2))) rfl ?_
        obtain ⟨v13, q_v13⟩ : ∃ v, (if v7 < le then v7 else le) = v := ⟨_, rfl⟩
        rw [q_v13]
        refine qm_Ru.go 2 (c' := (60, [.ref 24, .int v12, .int s, .int v13, .int (i + 1), .int v7], [], (h.1, I, J, h.2.2.2))) rfl ?_
        obtain ⟨v14, q_v14, e_v14⟩ := hk_add (x := i) (y := 1) (a := i.toInt) (b := 1) rfl rfl (by omega) (by omega)
        rw [q_v14]
        refine qm_Ru.go 1 (c' := (15, [.ref 24, .int v12, .int s, .int v13, .int v14, .int v7], [], (h.1, I, J, h.2.2.2))) rfl ?_
        exact ih _ (by omega) (I) (J) v12 v13 v14 (.int v7) hBI (fun o ho i => (e o ho i)) (by omega) (by omega) rfl
theorem hl_bk2_24 {L : Nat} {xs : Nat → Int32} {d : Nat} {Z : Option Value → qm_H → Prop} {h : qm_H} (h6 : 6 ≤ L) (hH : hk_H h) (hB : hk_B h.2.1) (ht : tw (pI h.2.1 24)) (k : ∀ (v : Int32) (I : Nat → Nat → Int32) (J : Nat → Nat → Int64), (0 : Int) ≤ v.toInt ∧ v.toInt ≤ 16 → hk_B I → (∀ o, [].contains o = false → ∀ i, I o i = h.2.1 o i) → Z (some (.int v)) (h.1, I, J, h.2.2.2)) : ∀ (m : Nat) (I : Nat → Nat → Int32) (J : Nat → Nat → Int64) (n : Int32) (s : Int32) (l3 l4 l5 : Value), hk_B I → (∀ o, [].contains o = false → ∀ i, I o i = h.2.1 o i) → ((0 : Int) ≤ s.toInt ∧ s.toInt ≤ 4) → ((0 : Int) ≤ n.toInt ∧ n.toInt ≤ 4 * s.toInt) → (4 - s.toInt).toNat = m → qm_Ru (some (L, xs)) (d + 20) cd_172 (4, [.ref 24, .int n, .int s, l3, l4, l5], [], (h.1, I, J, h.2.2.2)) Z := by
  intro m
  induction m using Nat.strongRecOn with
  | ind m ih =>
    intro I J n s l3 l4 l5 hBI e b_s h_n hm
    refine qm_Ru.go 2 (c' := (6, [.ref 24, .int n, .int s, l3, l4, l5], [.int 4, .int s], (h.1, I, J, h.2.2.2))) rfl ?_
    refine hk_cge (ix := s.toInt) (iy := 4) rfl rfl rfl (fun z1 => ?_) (fun z1 => ?_)
    · refine qm_Ru.go 1 (c' := (70, [.ref 24, .int n, .int s, l3, l4, l5], [.int n], (h.1, I, J, h.2.2.2))) rfl ?_
      refine qm_Ru.rt (v := (some (.int n))) (h' := (h.1, I, J, h.2.2.2)) rfl ?_
      exact k n (I) (J) (by omega) hBI (fun o ho i => (e o ho i))
    · refine qm_Ru.go 4 (c' := (15, [.ref 24, .int n, .int s, .int 13, .int 0, l5], [], (h.1, I, J, h.2.2.2))) rfl ?_
      exact hl_bk1_24 h6 hH hB ht (s := s) (by omega) (fun I J s2 n2 le i2 l5 hBI e es en => ih _ (by omega) I J n2 s2 (.int le) (.int i2) l5 hBI e (by omega) (by omega) rfl) _ (I) (J) n 13 0 l5 hBI (fun o ho i => (e o ho i)) (by decide) (by show (0 : Int) ≤ n.toInt ∧ n.toInt ≤ 4 * s.toInt + 0; omega) rfl
theorem hs_blk_24 {L : Nat} {xs : Nat → Int32} {d : Nat} {Z : Option Value → qm_H → Prop} {h : qm_H} (h6 : 6 ≤ L) (hH : hk_H h) (hB : hk_B h.2.1) (ht : tw (pI h.2.1 24)) (k : ∀ (v : Int32) (I : Nat → Nat → Int32) (J : Nat → Nat → Int64), (0 : Int) ≤ v.toInt ∧ v.toInt ≤ 16 → hk_B I → (∀ o, [].contains o = false → ∀ i, I o i = h.2.1 o i) → Z (some (.int v)) (h.1, I, J, h.2.2.2)) : qm_Ru (some (L, xs)) (d + 20) cd_172 (qm_ent 6 [.ref 24] h) Z := by
  refine qm_Ru.go 4 (c' := (4, [.ref 24, .int 0, .int 0, .float 0, .float 0, .float 0], [], h)) rfl ?_
  exact hl_bk2_24 h6 hH hB ht k _ h.2.1 h.2.2.1 0 0 _ _ _ hB (fun _ _ _ => rfl) (by decide) (by decide) rfl
theorem hl_bk1_25 {L : Nat} {xs : Nat → Int32} {d : Nat} {Z : Option Value → qm_H → Prop} {h : qm_H} (h6 : 6 ≤ L) (hH : hk_H h) (hB : hk_B h.2.1) (ht : tw (pI h.2.1 25)) {s : Int32} (b_s : (0 : Int) ≤ s.toInt ∧ s.toInt ≤ 3) (ko : ∀ (I : Nat → Nat → Int32) (J : Nat → Nat → Int64) (s2 n2 le i2 : Int32) (l5 : Value), hk_B I → (∀ o, [].contains o = false → ∀ i, I o i = h.2.1 o i) → s2.toInt = s.toInt + 1 → ((0 : Int) ≤ n2.toInt ∧ n2.toInt ≤ 4 * s.toInt + 4) → qm_Ru (some (L, xs)) (d + 20) cd_172 (4, [.ref 25, .int n2, .int s2, .int le, .int i2, l5], [], (h.1, I, J, h.2.2.2)) Z) : ∀ (m : Nat) (I : Nat → Nat → Int32) (J : Nat → Nat → Int64) (n : Int32) (le : Int32) (i : Int32) (l5 : Value), hk_B I → (∀ o, [].contains o = false → ∀ i, I o i = h.2.1 o i) → ((0 : Int) ≤ i.toInt ∧ i.toInt ≤ 4) → ((0 : Int) ≤ n.toInt ∧ n.toInt ≤ 4 * s.toInt + i.toInt) → (4 - i.toInt).toNat = m → qm_Ru (some (L, xs)) (d + 20) cd_172 (15, [.ref 25, .int n, .int s, .int le, .int i, l5], [], (h.1, I, J, h.2.2.2)) Z := by
  intro m
  induction m using Nat.strongRecOn with
  | ind m ih =>
    intro I J n le i l5 hBI e h_i h_n hm
    refine qm_Ru.go 5 (c' := (22, [.ref 25, .int n, .int s, .int le, .int i, l5], [.int (16 + s), .ref 25, .int i], (h.1, I, J, h.2.2.2))) rfl ?_
    obtain ⟨v1, q_v1, e_v1⟩ := hk_add (x := 16) (y := s) (a := 16) (b := s.toInt) rfl rfl (by omega) (by omega)
    rw [q_v1]
    obtain ⟨v2, q_v2⟩ : ∃ v, h.2.1 25 (v1.toInt.toNat) = v := ⟨_, rfl⟩
    have b_v2 : (0 : Int) ≤ v2.toInt ∧ v2.toInt ≤ 12 := by rw [← q_v2]; exact hB 25 (v1.toInt.toNat)
    refine hk_ial (v := v2) rfl (hH.1 25 (0, 21) rfl) (by omega) (by omega) (show (I) 25 (v1.toInt.toNat) = _ from ((e 25 rfl (v1.toInt.toNat)).trans q_v2)) ?_
    refine qm_Ru.go 0 (c' := (23, [.ref 25, .int n, .int s, .int le, .int i, l5], [.int v2, .int i], (h.1, I, J, h.2.2.2))) rfl ?_
    have r_v2 : (0 : Int) ≤ v2.toInt ∧ v2.toInt ≤ 4 := by rw [← q_v2, show v1.toInt.toNat = 16 + s.toInt.toNat from by omega]; exact ht _ (by omega)
    refine hk_cge (ix := i.toInt) (iy := v2.toInt) rfl rfl rfl (fun z3 => ?_) (fun z3 => ?_)
    · refine qm_Ru.go 1 (c' := (66, [.ref 25, .int n, .int (s + 1), .int le, .int i, l5], [], (h.1, I, J, h.2.2.2))) rfl ?_
      obtain ⟨v4, q_v4, e_v4⟩ := hk_add (x := s) (y := 1) (a := s.toInt) (b := 1) rfl rfl (by omega) (by omega)
      rw [q_v4]
      refine qm_Ru.go 1 (c' := (4, [.ref 25, .int n, .int v4, .int le, .int i, l5], [], (h.1, I, J, h.2.2.2))) rfl ?_
      exact ko (I) (J) v4 n le i l5 hBI (fun o ho i => (e o ho i)) (by omega) (by omega)
    · refine qm_Ru.go 4 (c' := (30, [.ref 25, .int n, .int s, .int le, .int i, l5], [.int (s * 4), .ref 25], (h.1, I, J, h.2.2.2))) rfl ?_
      obtain ⟨v5, q_v5, e_v5⟩ := hk_mul (x := s) (y := 4) (a := s.toInt) (b := 4) rfl rfl (by omega) (by omega)
      rw [q_v5]
      refine qm_Ru.go 2 (c' := (33, [.ref 25, .int n, .int s, .int le, .int i, l5], [.int (v5 + i), .ref 25], (h.1, I, J, h.2.2.2))) rfl ?_
      obtain ⟨v6, q_v6, e_v6⟩ := hk_add (x := v5) (y := i) (a := v5.toInt) (b := i.toInt) rfl rfl (by omega) (by omega)
      rw [q_v6]
      obtain ⟨v7, q_v7⟩ : ∃ v, h.2.1 25 (v6.toInt.toNat) = v := ⟨_, rfl⟩
      have b_v7 : (0 : Int) ≤ v7.toInt ∧ v7.toInt ≤ 12 := by rw [← q_v7]; exact hB 25 (v6.toInt.toNat)
      refine hk_ial (v := v7) rfl (hH.1 25 (0, 21) rfl) (by omega) (by omega) (show (I) 25 (v6.toInt.toNat) = _ from ((e 25 rfl (v6.toInt.toNat)).trans q_v7)) ?_
      refine qm_Ru.go 4 (c' := (40, [.ref 25, .int n, .int s, .int le, .int i, .int v7], [.int le, .int v7, .int n], (h.1, I, J, h.2.2.2))) rfl ?_
      refine hk_cle (ix := v7.toInt) (iy := le.toInt) rfl rfl rfl (fun z8 => ?_) (fun z8 => ?_)
      · refine qm_Ru.go 2 (c' := (49, [.ref 25, .int n, .int s, .int le, .int i, .int v7], [.int (n + 0)], (h.1, I, J, h.2.2.2))) rfl ?_
        obtain ⟨v9, q_v9, e_v9⟩ := hk_add (x := n) (y := 0) (a := n.toInt) (b := 0) rfl rfl (by omega) (by omega)
        rw [q_v9]
        refine qm_Ru.go 3 (c' := (53, [.ref 25, .int v9, .int s, .int le, .int i, .int v7], [.int v7, .int le], (h.1, I, J, h.2.2.2))) rfl ?_
        refine qm_Ru.go 1 (c' := (56, [.ref 25, .int v9, .int s, .int le, .int i, .int v7], [.int (if v7 < le then v7 else le)], (h.1, I, J, h.2.2.2))) rfl ?_
        obtain ⟨v10, q_v10⟩ : ∃ v, (if v7 < le then v7 else le) = v := ⟨_, rfl⟩
        rw [q_v10]
        refine qm_Ru.go 2 (c' := (60, [.ref 25, .int v9, .int s, .int v10, .int (i + 1), .int v7], [], (h.1, I, J, h.2.2.2))) rfl ?_
        obtain ⟨v11, q_v11, e_v11⟩ := hk_add (x := i) (y := 1) (a := i.toInt) (b := 1) rfl rfl (by omega) (by omega)
        rw [q_v11]
        refine qm_Ru.go 1 (c' := (15, [.ref 25, .int v9, .int s, .int v10, .int v11, .int v7], [], (h.1, I, J, h.2.2.2))) rfl ?_
        exact ih _ (by omega) (I) (J) v9 v10 v11 (.int v7) hBI (fun o ho i => (e o ho i)) (by omega) (by omega) rfl
      · refine qm_Ru.go 3 (c' := (49, [.ref 25, .int n, .int s, .int le, .int i, .int v7], [.int (n + 1)], (h.1, I, J, h.2.2.2))) rfl ?_
        obtain ⟨v12, q_v12, e_v12⟩ := hk_add (x := n) (y := 1) (a := n.toInt) (b := 1) rfl rfl (by omega) (by omega)
        rw [q_v12]
        refine qm_Ru.go 3 (c' := (53, [.ref 25, .int v12, .int s, .int le, .int i, .int v7], [.int v7, .int le], (h.1, I, J, h.2.2.2))) rfl ?_
        refine qm_Ru.go 1 (c' := (56, [.ref 25, .int v12, .int s, .int le, .int i, .int v7], [.int (if v7 < le then v7 else le)], (h.1, I, J, h.2.2.2))) rfl ?_
        obtain ⟨v13, q_v13⟩ : ∃ v, (if v7 < le then v7 else le) = v := ⟨_, rfl⟩
        rw [q_v13]
        refine qm_Ru.go 2 (c' := (60, [.ref 25, .int v12, .int s, .int v13, .int (i + 1), .int v7], [], (h.1, I, J, h.2.2.2))) rfl ?_
        obtain ⟨v14, q_v14, e_v14⟩ := hk_add (x := i) (y := 1) (a := i.toInt) (b := 1) rfl rfl (by omega) (by omega)
        rw [q_v14]
        refine qm_Ru.go 1 (c' := (15, [.ref 25, .int v12, .int s, .int v13, .int v14, .int v7], [], (h.1, I, J, h.2.2.2))) rfl ?_
        exact ih _ (by omega) (I) (J) v12 v13 v14 (.int v7) hBI (fun o ho i => (e o ho i)) (by omega) (by omega) rfl
theorem hl_bk2_25 {L : Nat} {xs : Nat → Int32} {d : Nat} {Z : Option Value → qm_H → Prop} {h : qm_H} (h6 : 6 ≤ L) (hH : hk_H h) (hB : hk_B h.2.1) (ht : tw (pI h.2.1 25)) (k : ∀ (v : Int32) (I : Nat → Nat → Int32) (J : Nat → Nat → Int64), (0 : Int) ≤ v.toInt ∧ v.toInt ≤ 16 → hk_B I → (∀ o, [].contains o = false → ∀ i, I o i = h.2.1 o i) → Z (some (.int v)) (h.1, I, J, h.2.2.2)) : ∀ (m : Nat) (I : Nat → Nat → Int32) (J : Nat → Nat → Int64) (n : Int32) (s : Int32) (l3 l4 l5 : Value), hk_B I → (∀ o, [].contains o = false → ∀ i, I o i = h.2.1 o i) → ((0 : Int) ≤ s.toInt ∧ s.toInt ≤ 4) → ((0 : Int) ≤ n.toInt ∧ n.toInt ≤ 4 * s.toInt) → (4 - s.toInt).toNat = m → qm_Ru (some (L, xs)) (d + 20) cd_172 (4, [.ref 25, .int n, .int s, l3, l4, l5], [], (h.1, I, J, h.2.2.2)) Z := by
  intro m
  induction m using Nat.strongRecOn with
  | ind m ih =>
    intro I J n s l3 l4 l5 hBI e b_s h_n hm
    refine qm_Ru.go 2 (c' := (6, [.ref 25, .int n, .int s, l3, l4, l5], [.int 4, .int s], (h.1, I, J, h.2.2.2))) rfl ?_
    refine hk_cge (ix := s.toInt) (iy := 4) rfl rfl rfl (fun z1 => ?_) (fun z1 => ?_)
    · refine qm_Ru.go 1 (c' := (70, [.ref 25, .int n, .int s, l3, l4, l5], [.int n], (h.1, I, J, h.2.2.2))) rfl ?_
      refine qm_Ru.rt (v := (some (.int n))) (h' := (h.1, I, J, h.2.2.2)) rfl ?_
      exact k n (I) (J) (by omega) hBI (fun o ho i => (e o ho i))
    · refine qm_Ru.go 4 (c' := (15, [.ref 25, .int n, .int s, .int 13, .int 0, l5], [], (h.1, I, J, h.2.2.2))) rfl ?_
      exact hl_bk1_25 h6 hH hB ht (s := s) (by omega) (fun I J s2 n2 le i2 l5 hBI e es en => ih _ (by omega) I J n2 s2 (.int le) (.int i2) l5 hBI e (by omega) (by omega) rfl) _ (I) (J) n 13 0 l5 hBI (fun o ho i => (e o ho i)) (by decide) (by show (0 : Int) ≤ n.toInt ∧ n.toInt ≤ 4 * s.toInt + 0; omega) rfl
theorem hs_blk_25 {L : Nat} {xs : Nat → Int32} {d : Nat} {Z : Option Value → qm_H → Prop} {h : qm_H} (h6 : 6 ≤ L) (hH : hk_H h) (hB : hk_B h.2.1) (ht : tw (pI h.2.1 25)) (k : ∀ (v : Int32) (I : Nat → Nat → Int32) (J : Nat → Nat → Int64), (0 : Int) ≤ v.toInt ∧ v.toInt ≤ 16 → hk_B I → (∀ o, [].contains o = false → ∀ i, I o i = h.2.1 o i) → Z (some (.int v)) (h.1, I, J, h.2.2.2)) : qm_Ru (some (L, xs)) (d + 20) cd_172 (qm_ent 6 [.ref 25] h) Z := by
  refine qm_Ru.go 4 (c' := (4, [.ref 25, .int 0, .int 0, .float 0, .float 0, .float 0], [], h)) rfl ?_
  exact hl_bk2_25 h6 hH hB ht k _ h.2.1 h.2.2.1 0 0 _ _ _ hB (fun _ _ _ => rfl) (by decide) (by decide) rfl
theorem hl_bk1_26 {L : Nat} {xs : Nat → Int32} {d : Nat} {Z : Option Value → qm_H → Prop} {h : qm_H} (h6 : 6 ≤ L) (hH : hk_H h) (hB : hk_B h.2.1) (ht : tw (pI h.2.1 26)) {s : Int32} (b_s : (0 : Int) ≤ s.toInt ∧ s.toInt ≤ 3) (ko : ∀ (I : Nat → Nat → Int32) (J : Nat → Nat → Int64) (s2 n2 le i2 : Int32) (l5 : Value), hk_B I → (∀ o, [].contains o = false → ∀ i, I o i = h.2.1 o i) → s2.toInt = s.toInt + 1 → ((0 : Int) ≤ n2.toInt ∧ n2.toInt ≤ 4 * s.toInt + 4) → qm_Ru (some (L, xs)) (d + 20) cd_172 (4, [.ref 26, .int n2, .int s2, .int le, .int i2, l5], [], (h.1, I, J, h.2.2.2)) Z) : ∀ (m : Nat) (I : Nat → Nat → Int32) (J : Nat → Nat → Int64) (n : Int32) (le : Int32) (i : Int32) (l5 : Value), hk_B I → (∀ o, [].contains o = false → ∀ i, I o i = h.2.1 o i) → ((0 : Int) ≤ i.toInt ∧ i.toInt ≤ 4) → ((0 : Int) ≤ n.toInt ∧ n.toInt ≤ 4 * s.toInt + i.toInt) → (4 - i.toInt).toNat = m → qm_Ru (some (L, xs)) (d + 20) cd_172 (15, [.ref 26, .int n, .int s, .int le, .int i, l5], [], (h.1, I, J, h.2.2.2)) Z := by
  intro m
  induction m using Nat.strongRecOn with
  | ind m ih =>
    intro I J n le i l5 hBI e h_i h_n hm
    refine qm_Ru.go 5 (c' := (22, [.ref 26, .int n, .int s, .int le, .int i, l5], [.int (16 + s), .ref 26, .int i], (h.1, I, J, h.2.2.2))) rfl ?_
    obtain ⟨v1, q_v1, e_v1⟩ := hk_add (x := 16) (y := s) (a := 16) (b := s.toInt) rfl rfl (by omega) (by omega)
    rw [q_v1]
    obtain ⟨v2, q_v2⟩ : ∃ v, h.2.1 26 (v1.toInt.toNat) = v := ⟨_, rfl⟩
    have b_v2 : (0 : Int) ≤ v2.toInt ∧ v2.toInt ≤ 12 := by rw [← q_v2]; exact hB 26 (v1.toInt.toNat)
    refine hk_ial (v := v2) rfl (hH.1 26 (0, 21) rfl) (by omega) (by omega) (show (I) 26 (v1.toInt.toNat) = _ from ((e 26 rfl (v1.toInt.toNat)).trans q_v2)) ?_
    refine qm_Ru.go 0 (c' := (23, [.ref 26, .int n, .int s, .int le, .int i, l5], [.int v2, .int i], (h.1, I, J, h.2.2.2))) rfl ?_
    have r_v2 : (0 : Int) ≤ v2.toInt ∧ v2.toInt ≤ 4 := by rw [← q_v2, show v1.toInt.toNat = 16 + s.toInt.toNat from by omega]; exact ht _ (by omega)
    refine hk_cge (ix := i.toInt) (iy := v2.toInt) rfl rfl rfl (fun z3 => ?_) (fun z3 => ?_)
    · refine qm_Ru.go 1 (c' := (66, [.ref 26, .int n, .int (s + 1), .int le, .int i, l5], [], (h.1, I, J, h.2.2.2))) rfl ?_
      obtain ⟨v4, q_v4, e_v4⟩ := hk_add (x := s) (y := 1) (a := s.toInt) (b := 1) rfl rfl (by omega) (by omega)
      rw [q_v4]
      refine qm_Ru.go 1 (c' := (4, [.ref 26, .int n, .int v4, .int le, .int i, l5], [], (h.1, I, J, h.2.2.2))) rfl ?_
      exact ko (I) (J) v4 n le i l5 hBI (fun o ho i => (e o ho i)) (by omega) (by omega)
    · refine qm_Ru.go 4 (c' := (30, [.ref 26, .int n, .int s, .int le, .int i, l5], [.int (s * 4), .ref 26], (h.1, I, J, h.2.2.2))) rfl ?_
      obtain ⟨v5, q_v5, e_v5⟩ := hk_mul (x := s) (y := 4) (a := s.toInt) (b := 4) rfl rfl (by omega) (by omega)
      rw [q_v5]
      refine qm_Ru.go 2 (c' := (33, [.ref 26, .int n, .int s, .int le, .int i, l5], [.int (v5 + i), .ref 26], (h.1, I, J, h.2.2.2))) rfl ?_
      obtain ⟨v6, q_v6, e_v6⟩ := hk_add (x := v5) (y := i) (a := v5.toInt) (b := i.toInt) rfl rfl (by omega) (by omega)
      rw [q_v6]
      obtain ⟨v7, q_v7⟩ : ∃ v, h.2.1 26 (v6.toInt.toNat) = v := ⟨_, rfl⟩
      have b_v7 : (0 : Int) ≤ v7.toInt ∧ v7.toInt ≤ 12 := by rw [← q_v7]; exact hB 26 (v6.toInt.toNat)
      refine hk_ial (v := v7) rfl (hH.1 26 (0, 21) rfl) (by omega) (by omega) (show (I) 26 (v6.toInt.toNat) = _ from ((e 26 rfl (v6.toInt.toNat)).trans q_v7)) ?_
      refine qm_Ru.go 4 (c' := (40, [.ref 26, .int n, .int s, .int le, .int i, .int v7], [.int le, .int v7, .int n], (h.1, I, J, h.2.2.2))) rfl ?_
      refine hk_cle (ix := v7.toInt) (iy := le.toInt) rfl rfl rfl (fun z8 => ?_) (fun z8 => ?_)
      · refine qm_Ru.go 2 (c' := (49, [.ref 26, .int n, .int s, .int le, .int i, .int v7], [.int (n + 0)], (h.1, I, J, h.2.2.2))) rfl ?_
        obtain ⟨v9, q_v9, e_v9⟩ := hk_add (x := n) (y := 0) (a := n.toInt) (b := 0) rfl rfl (by omega) (by omega)
        rw [q_v9]
        refine qm_Ru.go 3 (c' := (53, [.ref 26, .int v9, .int s, .int le, .int i, .int v7], [.int v7, .int le], (h.1, I, J, h.2.2.2))) rfl ?_
        refine qm_Ru.go 1 (c' := (56, [.ref 26, .int v9, .int s, .int le, .int i, .int v7], [.int (if v7 < le then v7 else le)], (h.1, I, J, h.2.2.2))) rfl ?_
        obtain ⟨v10, q_v10⟩ : ∃ v, (if v7 < le then v7 else le) = v := ⟨_, rfl⟩
        rw [q_v10]
        refine qm_Ru.go 2 (c' := (60, [.ref 26, .int v9, .int s, .int v10, .int (i + 1), .int v7], [], (h.1, I, J, h.2.2.2))) rfl ?_
        obtain ⟨v11, q_v11, e_v11⟩ := hk_add (x := i) (y := 1) (a := i.toInt) (b := 1) rfl rfl (by omega) (by omega)
        rw [q_v11]
        refine qm_Ru.go 1 (c' := (15, [.ref 26, .int v9, .int s, .int v10, .int v11, .int v7], [], (h.1, I, J, h.2.2.2))) rfl ?_
        exact ih _ (by omega) (I) (J) v9 v10 v11 (.int v7) hBI (fun o ho i => (e o ho i)) (by omega) (by omega) rfl
      · refine qm_Ru.go 3 (c' := (49, [.ref 26, .int n, .int s, .int le, .int i, .int v7], [.int (n + 1)], (h.1, I, J, h.2.2.2))) rfl ?_
        obtain ⟨v12, q_v12, e_v12⟩ := hk_add (x := n) (y := 1) (a := n.toInt) (b := 1) rfl rfl (by omega) (by omega)
        rw [q_v12]
        refine qm_Ru.go 3 (c' := (53, [.ref 26, .int v12, .int s, .int le, .int i, .int v7], [.int v7, .int le], (h.1, I, J, h.2.2.2))) rfl ?_
        refine qm_Ru.go 1 (c' := (56, [.ref 26, .int v12, .int s, .int le, .int i, .int v7], [.int (if v7 < le then v7 else le)], (h.1, I, J, h.2.2.2))) rfl ?_
        obtain ⟨v13, q_v13⟩ : ∃ v, (if v7 < le then v7 else le) = v := ⟨_, rfl⟩
        rw [q_v13]
        refine qm_Ru.go 2 (c' := (60, [.ref 26, .int v12, .int s, .int v13, .int (i + 1), .int v7], [], (h.1, I, J, h.2.2.2))) rfl ?_
        obtain ⟨v14, q_v14, e_v14⟩ := hk_add (x := i) (y := 1) (a := i.toInt) (b := 1) rfl rfl (by omega) (by omega)
        rw [q_v14]
        refine qm_Ru.go 1 (c' := (15, [.ref 26, .int v12, .int s, .int v13, .int v14, .int v7], [], (h.1, I, J, h.2.2.2))) rfl ?_
        exact ih _ (by omega) (I) (J) v12 v13 v14 (.int v7) hBI (fun o ho i => (e o ho i)) (by omega) (by omega) rfl
theorem hl_bk2_26 {L : Nat} {xs : Nat → Int32} {d : Nat} {Z : Option Value → qm_H → Prop} {h : qm_H} (h6 : 6 ≤ L) (hH : hk_H h) (hB : hk_B h.2.1) (ht : tw (pI h.2.1 26)) (k : ∀ (v : Int32) (I : Nat → Nat → Int32) (J : Nat → Nat → Int64), (0 : Int) ≤ v.toInt ∧ v.toInt ≤ 16 → hk_B I → (∀ o, [].contains o = false → ∀ i, I o i = h.2.1 o i) → Z (some (.int v)) (h.1, I, J, h.2.2.2)) : ∀ (m : Nat) (I : Nat → Nat → Int32) (J : Nat → Nat → Int64) (n : Int32) (s : Int32) (l3 l4 l5 : Value), hk_B I → (∀ o, [].contains o = false → ∀ i, I o i = h.2.1 o i) → ((0 : Int) ≤ s.toInt ∧ s.toInt ≤ 4) → ((0 : Int) ≤ n.toInt ∧ n.toInt ≤ 4 * s.toInt) → (4 - s.toInt).toNat = m → qm_Ru (some (L, xs)) (d + 20) cd_172 (4, [.ref 26, .int n, .int s, l3, l4, l5], [], (h.1, I, J, h.2.2.2)) Z := by
  intro m
  induction m using Nat.strongRecOn with
  | ind m ih =>
    intro I J n s l3 l4 l5 hBI e b_s h_n hm
    refine qm_Ru.go 2 (c' := (6, [.ref 26, .int n, .int s, l3, l4, l5], [.int 4, .int s], (h.1, I, J, h.2.2.2))) rfl ?_
    refine hk_cge (ix := s.toInt) (iy := 4) rfl rfl rfl (fun z1 => ?_) (fun z1 => ?_)
    · refine qm_Ru.go 1 (c' := (70, [.ref 26, .int n, .int s, l3, l4, l5], [.int n], (h.1, I, J, h.2.2.2))) rfl ?_
      refine qm_Ru.rt (v := (some (.int n))) (h' := (h.1, I, J, h.2.2.2)) rfl ?_
      exact k n (I) (J) (by omega) hBI (fun o ho i => (e o ho i))
    · refine qm_Ru.go 4 (c' := (15, [.ref 26, .int n, .int s, .int 13, .int 0, l5], [], (h.1, I, J, h.2.2.2))) rfl ?_
      exact hl_bk1_26 h6 hH hB ht (s := s) (by omega) (fun I J s2 n2 le i2 l5 hBI e es en => ih _ (by omega) I J n2 s2 (.int le) (.int i2) l5 hBI e (by omega) (by omega) rfl) _ (I) (J) n 13 0 l5 hBI (fun o ho i => (e o ho i)) (by decide) (by show (0 : Int) ≤ n.toInt ∧ n.toInt ≤ 4 * s.toInt + 0; omega) rfl
theorem hs_blk_26 {L : Nat} {xs : Nat → Int32} {d : Nat} {Z : Option Value → qm_H → Prop} {h : qm_H} (h6 : 6 ≤ L) (hH : hk_H h) (hB : hk_B h.2.1) (ht : tw (pI h.2.1 26)) (k : ∀ (v : Int32) (I : Nat → Nat → Int32) (J : Nat → Nat → Int64), (0 : Int) ≤ v.toInt ∧ v.toInt ≤ 16 → hk_B I → (∀ o, [].contains o = false → ∀ i, I o i = h.2.1 o i) → Z (some (.int v)) (h.1, I, J, h.2.2.2)) : qm_Ru (some (L, xs)) (d + 20) cd_172 (qm_ent 6 [.ref 26] h) Z := by
  refine qm_Ru.go 4 (c' := (4, [.ref 26, .int 0, .int 0, .float 0, .float 0, .float 0], [], h)) rfl ?_
  exact hl_bk2_26 h6 hH hB ht k _ h.2.1 h.2.2.1 0 0 _ _ _ hB (fun _ _ _ => rfl) (by decide) (by decide) rfl
theorem hl_bk1_27 {L : Nat} {xs : Nat → Int32} {d : Nat} {Z : Option Value → qm_H → Prop} {h : qm_H} (h6 : 6 ≤ L) (hH : hk_H h) (hB : hk_B h.2.1) (ht : tw (pI h.2.1 27)) {s : Int32} (b_s : (0 : Int) ≤ s.toInt ∧ s.toInt ≤ 3) (ko : ∀ (I : Nat → Nat → Int32) (J : Nat → Nat → Int64) (s2 n2 le i2 : Int32) (l5 : Value), hk_B I → (∀ o, [].contains o = false → ∀ i, I o i = h.2.1 o i) → s2.toInt = s.toInt + 1 → ((0 : Int) ≤ n2.toInt ∧ n2.toInt ≤ 4 * s.toInt + 4) → qm_Ru (some (L, xs)) (d + 20) cd_172 (4, [.ref 27, .int n2, .int s2, .int le, .int i2, l5], [], (h.1, I, J, h.2.2.2)) Z) : ∀ (m : Nat) (I : Nat → Nat → Int32) (J : Nat → Nat → Int64) (n : Int32) (le : Int32) (i : Int32) (l5 : Value), hk_B I → (∀ o, [].contains o = false → ∀ i, I o i = h.2.1 o i) → ((0 : Int) ≤ i.toInt ∧ i.toInt ≤ 4) → ((0 : Int) ≤ n.toInt ∧ n.toInt ≤ 4 * s.toInt + i.toInt) → (4 - i.toInt).toNat = m → qm_Ru (some (L, xs)) (d + 20) cd_172 (15, [.ref 27, .int n, .int s, .int le, .int i, l5], [], (h.1, I, J, h.2.2.2)) Z := by
  intro m
  induction m using Nat.strongRecOn with
  | ind m ih =>
    intro I J n le i l5 hBI e h_i h_n hm
    refine qm_Ru.go 5 (c' := (22, [.ref 27, .int n, .int s, .int le, .int i, l5], [.int (16 + s), .ref 27, .int i], (h.1, I, J, h.2.2.2))) rfl ?_
    obtain ⟨v1, q_v1, e_v1⟩ := hk_add (x := 16) (y := s) (a := 16) (b := s.toInt) rfl rfl (by omega) (by omega)
    rw [q_v1]
    obtain ⟨v2, q_v2⟩ : ∃ v, h.2.1 27 (v1.toInt.toNat) = v := ⟨_, rfl⟩
    have b_v2 : (0 : Int) ≤ v2.toInt ∧ v2.toInt ≤ 12 := by rw [← q_v2]; exact hB 27 (v1.toInt.toNat)
    refine hk_ial (v := v2) rfl (hH.1 27 (0, 21) rfl) (by omega) (by omega) (show (I) 27 (v1.toInt.toNat) = _ from ((e 27 rfl (v1.toInt.toNat)).trans q_v2)) ?_
    refine qm_Ru.go 0 (c' := (23, [.ref 27, .int n, .int s, .int le, .int i, l5], [.int v2, .int i], (h.1, I, J, h.2.2.2))) rfl ?_
    have r_v2 : (0 : Int) ≤ v2.toInt ∧ v2.toInt ≤ 4 := by rw [← q_v2, show v1.toInt.toNat = 16 + s.toInt.toNat from by omega]; exact ht _ (by omega)
    refine hk_cge (ix := i.toInt) (iy := v2.toInt) rfl rfl rfl (fun z3 => ?_) (fun z3 => ?_)
    · refine qm_Ru.go 1 (c' := (66, [.ref 27, .int n, .int (s + 1), .int le, .int i, l5], [], (h.1, I, J, h.2.2.2))) rfl ?_
      obtain ⟨v4, q_v4, e_v4⟩ := hk_add (x := s) (y := 1) (a := s.toInt) (b := 1) rfl rfl (by omega) (by omega)
      rw [q_v4]
      refine qm_Ru.go 1 (c' := (4, [.ref 27, .int n, .int v4, .int le, .int i, l5], [], (h.1, I, J, h.2.2.2))) rfl ?_
      exact ko (I) (J) v4 n le i l5 hBI (fun o ho i => (e o ho i)) (by omega) (by omega)
    · refine qm_Ru.go 4 (c' := (30, [.ref 27, .int n, .int s, .int le, .int i, l5], [.int (s * 4), .ref 27], (h.1, I, J, h.2.2.2))) rfl ?_
      obtain ⟨v5, q_v5, e_v5⟩ := hk_mul (x := s) (y := 4) (a := s.toInt) (b := 4) rfl rfl (by omega) (by omega)
      rw [q_v5]
      refine qm_Ru.go 2 (c' := (33, [.ref 27, .int n, .int s, .int le, .int i, l5], [.int (v5 + i), .ref 27], (h.1, I, J, h.2.2.2))) rfl ?_
      obtain ⟨v6, q_v6, e_v6⟩ := hk_add (x := v5) (y := i) (a := v5.toInt) (b := i.toInt) rfl rfl (by omega) (by omega)
      rw [q_v6]
      obtain ⟨v7, q_v7⟩ : ∃ v, h.2.1 27 (v6.toInt.toNat) = v := ⟨_, rfl⟩
      have b_v7 : (0 : Int) ≤ v7.toInt ∧ v7.toInt ≤ 12 := by rw [← q_v7]; exact hB 27 (v6.toInt.toNat)
      refine hk_ial (v := v7) rfl (hH.1 27 (0, 21) rfl) (by omega) (by omega) (show (I) 27 (v6.toInt.toNat) = _ from ((e 27 rfl (v6.toInt.toNat)).trans q_v7)) ?_
      refine qm_Ru.go 4 (c' := (40, [.ref 27, .int n, .int s, .int le, .int i, .int v7], [.int le, .int v7, .int n], (h.1, I, J, h.2.2.2))) rfl ?_
      refine hk_cle (ix := v7.toInt) (iy := le.toInt) rfl rfl rfl (fun z8 => ?_) (fun z8 => ?_)
      · refine qm_Ru.go 2 (c' := (49, [.ref 27, .int n, .int s, .int le, .int i, .int v7], [.int (n + 0)], (h.1, I, J, h.2.2.2))) rfl ?_
        obtain ⟨v9, q_v9, e_v9⟩ := hk_add (x := n) (y := 0) (a := n.toInt) (b := 0) rfl rfl (by omega) (by omega)
        rw [q_v9]
        refine qm_Ru.go 3 (c' := (53, [.ref 27, .int v9, .int s, .int le, .int i, .int v7], [.int v7, .int le], (h.1, I, J, h.2.2.2))) rfl ?_
        refine qm_Ru.go 1 (c' := (56, [.ref 27, .int v9, .int s, .int le, .int i, .int v7], [.int (if v7 < le then v7 else le)], (h.1, I, J, h.2.2.2))) rfl ?_
        obtain ⟨v10, q_v10⟩ : ∃ v, (if v7 < le then v7 else le) = v := ⟨_, rfl⟩
        rw [q_v10]
        refine qm_Ru.go 2 (c' := (60, [.ref 27, .int v9, .int s, .int v10, .int (i + 1), .int v7], [], (h.1, I, J, h.2.2.2))) rfl ?_
        obtain ⟨v11, q_v11, e_v11⟩ := hk_add (x := i) (y := 1) (a := i.toInt) (b := 1) rfl rfl (by omega) (by omega)
        rw [q_v11]
        refine qm_Ru.go 1 (c' := (15, [.ref 27, .int v9, .int s, .int v10, .int v11, .int v7], [], (h.1, I, J, h.2.2.2))) rfl ?_
        exact ih _ (by omega) (I) (J) v9 v10 v11 (.int v7) hBI (fun o ho i => (e o ho i)) (by omega) (by omega) rfl
      · refine qm_Ru.go 3 (c' := (49, [.ref 27, .int n, .int s, .int le, .int i, .int v7], [.int (n + 1)], (h.1, I, J, h.2.2.2))) rfl ?_
        obtain ⟨v12, q_v12, e_v12⟩ := hk_add (x := n) (y := 1) (a := n.toInt) (b := 1) rfl rfl (by omega) (by omega)
        rw [q_v12]
        refine qm_Ru.go 3 (c' := (53, [.ref 27, .int v12, .int s, .int le, .int i, .int v7], [.int v7, .int le], (h.1, I, J, h.2.2.2))) rfl ?_
        refine qm_Ru.go 1 (c' := (56, [.ref 27, .int v12, .int s, .int le, .int i, .int v7], [.int (if v7 < le then v7 else le)], (h.1, I, J, h.2.2.2))) rfl ?_
        obtain ⟨v13, q_v13⟩ : ∃ v, (if v7 < le then v7 else le) = v := ⟨_, rfl⟩
        rw [q_v13]
        refine qm_Ru.go 2 (c' := (60, [.ref 27, .int v12, .int s, .int v13, .int (i + 1), .int v7], [], (h.1, I, J, h.2.2.2))) rfl ?_
        obtain ⟨v14, q_v14, e_v14⟩ := hk_add (x := i) (y := 1) (a := i.toInt) (b := 1) rfl rfl (by omega) (by omega)
        rw [q_v14]
        refine qm_Ru.go 1 (c' := (15, [.ref 27, .int v12, .int s, .int v13, .int v14, .int v7], [], (h.1, I, J, h.2.2.2))) rfl ?_
        exact ih _ (by omega) (I) (J) v12 v13 v14 (.int v7) hBI (fun o ho i => (e o ho i)) (by omega) (by omega) rfl
theorem hl_bk2_27 {L : Nat} {xs : Nat → Int32} {d : Nat} {Z : Option Value → qm_H → Prop} {h : qm_H} (h6 : 6 ≤ L) (hH : hk_H h) (hB : hk_B h.2.1) (ht : tw (pI h.2.1 27)) (k : ∀ (v : Int32) (I : Nat → Nat → Int32) (J : Nat → Nat → Int64), (0 : Int) ≤ v.toInt ∧ v.toInt ≤ 16 → hk_B I → (∀ o, [].contains o = false → ∀ i, I o i = h.2.1 o i) → Z (some (.int v)) (h.1, I, J, h.2.2.2)) : ∀ (m : Nat) (I : Nat → Nat → Int32) (J : Nat → Nat → Int64) (n : Int32) (s : Int32) (l3 l4 l5 : Value), hk_B I → (∀ o, [].contains o = false → ∀ i, I o i = h.2.1 o i) → ((0 : Int) ≤ s.toInt ∧ s.toInt ≤ 4) → ((0 : Int) ≤ n.toInt ∧ n.toInt ≤ 4 * s.toInt) → (4 - s.toInt).toNat = m → qm_Ru (some (L, xs)) (d + 20) cd_172 (4, [.ref 27, .int n, .int s, l3, l4, l5], [], (h.1, I, J, h.2.2.2)) Z := by
  intro m
  induction m using Nat.strongRecOn with
  | ind m ih =>
    intro I J n s l3 l4 l5 hBI e b_s h_n hm
    refine qm_Ru.go 2 (c' := (6, [.ref 27, .int n, .int s, l3, l4, l5], [.int 4, .int s], (h.1, I, J, h.2.2.2))) rfl ?_
    refine hk_cge (ix := s.toInt) (iy := 4) rfl rfl rfl (fun z1 => ?_) (fun z1 => ?_)
    · refine qm_Ru.go 1 (c' := (70, [.ref 27, .int n, .int s, l3, l4, l5], [.int n], (h.1, I, J, h.2.2.2))) rfl ?_
      refine qm_Ru.rt (v := (some (.int n))) (h' := (h.1, I, J, h.2.2.2)) rfl ?_
      exact k n (I) (J) (by omega) hBI (fun o ho i => (e o ho i))
    · refine qm_Ru.go 4 (c' := (15, [.ref 27, .int n, .int s, .int 13, .int 0, l5], [], (h.1, I, J, h.2.2.2))) rfl ?_
      exact hl_bk1_27 h6 hH hB ht (s := s) (by omega) (fun I J s2 n2 le i2 l5 hBI e es en => ih _ (by omega) I J n2 s2 (.int le) (.int i2) l5 hBI e (by omega) (by omega) rfl) _ (I) (J) n 13 0 l5 hBI (fun o ho i => (e o ho i)) (by decide) (by show (0 : Int) ≤ n.toInt ∧ n.toInt ≤ 4 * s.toInt + 0; omega) rfl
theorem hs_blk_27 {L : Nat} {xs : Nat → Int32} {d : Nat} {Z : Option Value → qm_H → Prop} {h : qm_H} (h6 : 6 ≤ L) (hH : hk_H h) (hB : hk_B h.2.1) (ht : tw (pI h.2.1 27)) (k : ∀ (v : Int32) (I : Nat → Nat → Int32) (J : Nat → Nat → Int64), (0 : Int) ≤ v.toInt ∧ v.toInt ≤ 16 → hk_B I → (∀ o, [].contains o = false → ∀ i, I o i = h.2.1 o i) → Z (some (.int v)) (h.1, I, J, h.2.2.2)) : qm_Ru (some (L, xs)) (d + 20) cd_172 (qm_ent 6 [.ref 27] h) Z := by
  refine qm_Ru.go 4 (c' := (4, [.ref 27, .int 0, .int 0, .float 0, .float 0, .float 0], [], h)) rfl ?_
  exact hl_bk2_27 h6 hH hB ht k _ h.2.1 h.2.2.1 0 0 _ _ _ hB (fun _ _ _ => rfl) (by decide) (by decide) rfl
theorem hc_blockers : hk_ct v_C (fun _ => True) (fun as I => as = [.ref 15]) 175 (some (0, 16)) [15, 19, 20, 22, 23, 24, 25, 26, 27] 40 := by
  intro L xs d Z h as h6 hH hT hB hV hp hd k
  subst hp
  obtain ⟨d, rfl⟩ : ∃ e, d = e + 40 := ⟨d - 40, by omega⟩
  show qm_Ru (some (L, xs)) (d + 40) cd_175 (qm_ent 1 [.ref 15] h) Z
  refine qm_Ru.go 1 (c' := (1, [.ref 15], [.ref 15], h)) rfl ?_
  refine hk_inv (o := 15) (r := []) (as := [.ref 15]) rfl rfl (hH.1 15 (15, 8) rfl) rfl rfl rfl rfl (hs_lay (h := h) h6 hH hB hV.1.1.2.2.2 (fun v3 I1 J2 b_v3 hB_I1 e_I1 tw_I1 z_I1 => ?_))
  refine qm_Ru.go 2 (c' := (6, [.ref 15], [.ref 15], (h.1, I1, J2, h.2.2.2))) rfl ?_
  refine hk_getr rfl (hH.1 15 (15, 8) rfl) rfl (hH.2 15 7 (some 21) rfl) ?_
  refine qm_Ru.go 1 (c' := (10, [.ref 15], [.int 0, .ref 21], (h.1, I1, J2, h.2.2.2))) rfl ?_
  refine hk_aal rfl (hH.1 21 (4, 6) rfl) (by decide) (by decide) (hH.2 21 0 (some 22) rfl) ?_
  refine qm_Ru.go 0 (c' := (11, [.ref 15], [.ref 22], (h.1, I1, J2, h.2.2.2))) rfl ?_
  refine qm_Ru.call (j := 172) (as := [.ref 22]) (c' := (14, [.ref 15], [], (h.1, I1, J2, h.2.2.2))) rfl rfl rfl (hs_blk_22 (h := (h.1, I1, J2, h.2.2.2)) h6 hH hB_I1 tw_I1 (fun v6 I4 J5 b_v6 hB_I4 e_I4 => ?_))
  refine qm_Ru.go 0 (c' := (14, [.ref 15], [.int v6], (h.1, I4, J5, h.2.2.2))) rfl ?_
  refine qm_Ru.rt (v := (some (.int v6))) (h' := (h.1, I4, J5, h.2.2.2)) rfl ?_
  have eF : ∀ o, [22].contains o = false → ∀ i, (I4) o i = h.2.1 o i := (fun o ho i => ((e_I4 o (hk_ms rfl ho) i).trans ((e_I1 o (hk_ms rfl ho) i).trans rfl)))
  exact k (some (.int v6)) (I4) (J5) ⟨_, rfl, ⟨by omega, by omega⟩⟩ hB_I4 (v_C_cg hV eF rfl) (fun o ho i => eF o (hk_ms rfl ho) i)
