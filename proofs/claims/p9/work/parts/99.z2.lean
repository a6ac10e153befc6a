/-! contracts of the reference by hand -/
theorem hl_so1 {L : Nat} {xs : Nat → Int32} {d : Nat} {Z : Option Value → qm_H → Prop} {h : qm_H} (h6 : 6 ≤ L) (hH : hk_H h) (hB : hk_B h.2.1) {dd x : Int32} (b_dd : (0 : Int) ≤ dd.toInt ∧ dd.toInt ≤ 5) (hL : lev_H (lvl h.2.1 dd.toInt.toNat)) {s : Int32} (b_s : (0 : Int) ≤ s.toInt ∧ s.toInt ≤ 3) (k : ∀ (v : Int32) (I : Nat → Nat → Int32) (J : Nat → Nat → Int64), hk_B I → (∀ o, [].contains o = false → ∀ i, I o i = h.2.1 o i) → stk (lvl h.2.1 dd.toInt.toNat) x.toInt v.toInt → Z (some (.int v)) (h.1, I, J, h.2.2.2)) (hb : ∀ t : Nat, t < s.toInt.toNat → ¬ con (lvl h.2.1 dd.toInt.toNat) t x.toInt) (ko : ∀ (I : Nat → Nat → Int32) (J : Nat → Nat → Int64) (s2 i2 : Int32), hk_B I → (∀ o, [].contains o = false → ∀ i, I o i = h.2.1 o i) → s2.toInt = s.toInt + 1 → ¬ con (lvl h.2.1 dd.toInt.toNat) s.toInt.toNat x.toInt → qm_Ru (some (L, xs)) (d + 20) cd_335 (2, [.ref 118, .int dd, .int x, .int s2, .int i2], [], (h.1, I, J, h.2.2.2)) Z) : ∀ (m : Nat) (I : Nat → Nat → Int32) (J : Nat → Nat → Int64) (i : Int32), hk_B I → (∀ o, [].contains o = false → ∀ i, I o i = h.2.1 o i) → ((0 : Int) ≤ i.toInt ∧ i.toInt ≤ 4) → (∀ n : Nat, n < i.toInt.toNat → lvl h.2.1 dd.toInt.toNat (4 * s.toInt.toNat + n) ≠ x.toInt) → (4 - i.toInt).toNat = m → qm_Ru (some (L, xs)) (d + 20) cd_335 (10, [.ref 118, .int dd, .int x, .int s, .int i], [], (h.1, I, J, h.2.2.2)) Z := by
  intro m
  induction m using Nat.strongRecOn with
  | ind m ih =>
    intro I J i hBI e h_i hi hm
    refine qm_Ru.go 2 (c' := (13, [.ref 118, .int dd, .int x, .int s, .int i], [.ref 118, .int i], (h.1, I, J, h.2.2.2))) rfl ?_
    refine hk_getr rfl (hH.1 118 (17, 105) rfl) rfl (hH.2 118 64 (some 161) rfl) ?_
    refine qm_Ru.go 3 (c' := (20, [.ref 118, .int dd, .int x, .int s, .int i], [.int (20 * dd), .ref 161, .int i], (h.1, I, J, h.2.2.2))) rfl ?_
    obtain ⟨v1, q_v1, e_v1⟩ := hk_mul (x := 20) (y := dd) (a := 20) (b := dd.toInt) rfl rfl (by omega) (by omega)
    rw [q_v1]
    refine qm_Ru.go 2 (c' := (23, [.ref 118, .int dd, .int x, .int s, .int i], [.int (v1 + 16), .ref 161, .int i], (h.1, I, J, h.2.2.2))) rfl ?_
    obtain ⟨v2, q_v2, e_v2⟩ := hk_add (x := v1) (y := 16) (a := v1.toInt) (b := 16) rfl rfl (by omega) (by omega)
    rw [q_v2]
    refine qm_Ru.go 2 (c' := (25, [.ref 118, .int dd, .int x, .int s, .int i], [.int (v2 + s), .ref 161, .int i], (h.1, I, J, h.2.2.2))) rfl ?_
    obtain ⟨v3, q_v3, e_v3⟩ := hk_add (x := v2) (y := s) (a := v2.toInt) (b := s.toInt) rfl rfl (by omega) (by omega)
    rw [q_v3]
    obtain ⟨v4, q_v4⟩ : ∃ v, h.2.1 161 (v3.toInt.toNat) = v := ⟨_, rfl⟩
    have b_v4 : (0 : Int) ≤ v4.toInt ∧ v4.toInt ≤ 29 := by rw [← q_v4]; exact hB 161 (v3.toInt.toNat)
    refine hk_ial (v := v4) rfl (hH.1 161 (0, 120) rfl) (by omega) (by omega) (show (I) 161 (v3.toInt.toNat) = _ from ((e 161 rfl (v3.toInt.toNat)).trans q_v4)) ?_
    refine qm_Ru.go 0 (c' := (26, [.ref 118, .int dd, .int x, .int s, .int i], [.int v4, .int i], (h.1, I, J, h.2.2.2))) rfl ?_
    have l_v4 : lvl h.2.1 dd.toInt.toNat (16 + s.toInt.toNat) = v4.toInt := lv_of q_v4 (by omega)
    have m_v4 := hL s.toInt.toNat (by omega)
    rw [l_v4] at m_v4
    refine hk_cge (ix := i.toInt) (iy := v4.toInt) rfl rfl rfl (fun z5 => ?_) (fun z5 => ?_)
    · refine qm_Ru.go 1 (c' := (60, [.ref 118, .int dd, .int x, .int (s + 1), .int i], [], (h.1, I, J, h.2.2.2))) rfl ?_
      obtain ⟨v6, q_v6, e_v6⟩ := hk_add (x := s) (y := 1) (a := s.toInt) (b := 1) rfl rfl (by omega) (by omega)
      rw [q_v6]
      refine qm_Ru.go 1 (c' := (2, [.ref 118, .int dd, .int x, .int v6, .int i], [], (h.1, I, J, h.2.2.2))) rfl ?_
      exact ko (I) (J) v6 i hBI (fun o ho i => (e o ho i)) (by omega) (fun ⟨n, n4, n1, n2⟩ => hi n (by omega) n2)
    · refine qm_Ru.go 1 (c' := (30, [.ref 118, .int dd, .int x, .int s, .int i], [.ref 118], (h.1, I, J, h.2.2.2))) rfl ?_
      refine hk_getr rfl (hH.1 118 (17, 105) rfl) rfl (hH.2 118 64 (some 161) rfl) ?_
      refine qm_Ru.go 3 (c' := (37, [.ref 118, .int dd, .int x, .int s, .int i], [.int (20 * dd), .ref 161], (h.1, I, J, h.2.2.2))) rfl ?_
      rw [q_v1]
      refine qm_Ru.go 3 (c' := (40, [.ref 118, .int dd, .int x, .int s, .int i], [.int (4 * s), .int v1, .ref 161], (h.1, I, J, h.2.2.2))) rfl ?_
      obtain ⟨v8, q_v8, e_v8⟩ := hk_mul (x := 4) (y := s) (a := 4) (b := s.toInt) rfl rfl (by omega) (by omega)
      rw [q_v8]
      refine qm_Ru.go 1 (c' := (41, [.ref 118, .int dd, .int x, .int s, .int i], [.int (v1 + v8), .ref 161], (h.1, I, J, h.2.2.2))) rfl ?_
      obtain ⟨v9, q_v9, e_v9⟩ := hk_add (x := v1) (y := v8) (a := v1.toInt) (b := v8.toInt) rfl rfl (by omega) (by omega)
      rw [q_v9]
      refine qm_Ru.go 2 (c' := (44, [.ref 118, .int dd, .int x, .int s, .int i], [.int (v9 + i), .ref 161], (h.1, I, J, h.2.2.2))) rfl ?_
      obtain ⟨v10, q_v10, e_v10⟩ := hk_add (x := v9) (y := i) (a := v9.toInt) (b := i.toInt) rfl rfl (by omega) (by omega)
      rw [q_v10]
      obtain ⟨v11, q_v11⟩ : ∃ v, h.2.1 161 (v10.toInt.toNat) = v := ⟨_, rfl⟩
      have b_v11 : (0 : Int) ≤ v11.toInt ∧ v11.toInt ≤ 29 := by rw [← q_v11]; exact hB 161 (v10.toInt.toNat)
      refine hk_ial (v := v11) rfl (hH.1 161 (0, 120) rfl) (by omega) (by omega) (show (I) 161 (v10.toInt.toNat) = _ from ((e 161 rfl (v10.toInt.toNat)).trans q_v11)) ?_
      refine qm_Ru.go 0 (c' := (45, [.ref 118, .int dd, .int x, .int s, .int i], [.int v11], (h.1, I, J, h.2.2.2))) rfl ?_
      have l_v11 : lvl h.2.1 dd.toInt.toNat (4 * s.toInt.toNat + i.toInt.toNat) = v11.toInt := lv_of q_v11 (by omega)
      refine qm_Ru.go 1 (c' := (46, [.ref 118, .int dd, .int x, .int s, .int i], [.int x, .int v11], (h.1, I, J, h.2.2.2))) rfl ?_
      refine hk_cne (ix := v11.toInt) (iy := x.toInt) rfl rfl rfl (fun z12 => ?_) (fun z12 => ?_)
      · refine qm_Ru.go 1 (c' := (54, [.ref 118, .int dd, .int x, .int s, .int (i + 1)], [], (h.1, I, J, h.2.2.2))) rfl ?_
        obtain ⟨v13, q_v13, e_v13⟩ := hk_add (x := i) (y := 1) (a := i.toInt) (b := 1) rfl rfl (by omega) (by omega)
        rw [q_v13]
        refine qm_Ru.go 1 (c' := (10, [.ref 118, .int dd, .int x, .int s, .int v13], [], (h.1, I, J, h.2.2.2))) rfl ?_
        exact ih _ (by omega) (I) (J) v13 hBI (fun o ho i => (e o ho i)) (by omega) (fun n hn => if c : n = i.toInt.toNat then (by subst c; rw [l_v11]; omega) else hi n (by omega)) rfl
      · refine qm_Ru.go 1 (c' := (50, [.ref 118, .int dd, .int x, .int s, .int i], [.int s], (h.1, I, J, h.2.2.2))) rfl ?_
        refine qm_Ru.rt (v := (some (.int s))) (h' := (h.1, I, J, h.2.2.2)) rfl ?_
        exact k s (I) (J) hBI (fun o ho i => (e o ho i)) (Or.inr ⟨by omega, ⟨i.toInt.toNat, by omega, by omega, by omega⟩, hb⟩)
theorem hl_so2 {L : Nat} {xs : Nat → Int32} {d : Nat} {Z : Option Value → qm_H → Prop} {h : qm_H} (h6 : 6 ≤ L) (hH : hk_H h) (hB : hk_B h.2.1) {dd x : Int32} (b_dd : (0 : Int) ≤ dd.toInt ∧ dd.toInt ≤ 5) (hL : lev_H (lvl h.2.1 dd.toInt.toNat)) (k : ∀ (v : Int32) (I : Nat → Nat → Int32) (J : Nat → Nat → Int64), hk_B I → (∀ o, [].contains o = false → ∀ i, I o i = h.2.1 o i) → stk (lvl h.2.1 dd.toInt.toNat) x.toInt v.toInt → Z (some (.int v)) (h.1, I, J, h.2.2.2)) : ∀ (m : Nat) (I : Nat → Nat → Int32) (J : Nat → Nat → Int64) (s : Int32) (l4 : Value), hk_B I → (∀ o, [].contains o = false → ∀ i, I o i = h.2.1 o i) → ((0 : Int) ≤ s.toInt ∧ s.toInt ≤ 4) → (∀ t : Nat, t < s.toInt.toNat → ¬ con (lvl h.2.1 dd.toInt.toNat) t x.toInt) → (4 - s.toInt).toNat = m → qm_Ru (some (L, xs)) (d + 20) cd_335 (2, [.ref 118, .int dd, .int x, .int s, l4], [], (h.1, I, J, h.2.2.2)) Z := by
  intro m
  induction m using Nat.strongRecOn with
  | ind m ih =>
    intro I J s l4 hBI e b_s hb hm
    refine qm_Ru.go 2 (c' := (4, [.ref 118, .int dd, .int x, .int s, l4], [.int 4, .int s], (h.1, I, J, h.2.2.2))) rfl ?_
    refine hk_cge (ix := s.toInt) (iy := 4) rfl rfl rfl (fun z1 => ?_) (fun z1 => ?_)
    · refine qm_Ru.go 1 (c' := (64, [.ref 118, .int dd, .int x, .int s, l4], [.int (-1)], (h.1, I, J, h.2.2.2))) rfl ?_
      refine qm_Ru.rt (v := (some (.int (-1)))) (h' := (h.1, I, J, h.2.2.2)) rfl ?_
      exact k (-1) (I) (J) hBI (fun o ho i => (e o ho i)) (Or.inl ⟨rfl, fun t ht => hb t (by omega)⟩)
    · refine qm_Ru.go 2 (c' := (10, [.ref 118, .int dd, .int x, .int s, .int 0], [], (h.1, I, J, h.2.2.2))) rfl ?_
      exact hl_so1 h6 hH hB b_dd hL (s := s) (by omega) k hb (fun I J s2 i2 hBI e es nc => ih _ (by omega) I J s2 (.int i2) hBI e (by omega) (fun t ht => if c : t = s.toInt.toNat then (by subst c; exact nc) else hb t (by omega)) rfl) _ (I) (J) 0 hBI (fun o ho i => (e o ho i)) (by decide) (fun n hn => absurd hn (Nat.not_lt_zero n)) rfl
theorem hs_stackof {L : Nat} {xs : Nat → Int32} {d : Nat} {Z : Option Value → qm_H → Prop} {h : qm_H} (h6 : 6 ≤ L) (hH : hk_H h) (hB : hk_B h.2.1) {dd x : Int32} (b_dd : (0 : Int) ≤ dd.toInt ∧ dd.toInt ≤ 5) (hL : lev_H (lvl h.2.1 dd.toInt.toNat)) (k : ∀ (v : Int32) (I : Nat → Nat → Int32) (J : Nat → Nat → Int64), hk_B I → (∀ o, [].contains o = false → ∀ i, I o i = h.2.1 o i) → stk (lvl h.2.1 dd.toInt.toNat) x.toInt v.toInt → Z (some (.int v)) (h.1, I, J, h.2.2.2)) : qm_Ru (some (L, xs)) (d + 20) cd_335 (qm_ent 5 [.ref 118, .int dd, .int x] h) Z := by
  refine qm_Ru.go 2 (c' := (2, [.ref 118, .int dd, .int x, .int 0, .float 0], [], h)) rfl ?_
  exact hl_so2 h6 hH hB b_dd hL k _ (h.2.1) (h.2.2.1) 0 _ hB (fun _ _ _ => rfl) (by decide) (fun t ht => absurd ht (Nat.not_lt_zero t)) rfl
