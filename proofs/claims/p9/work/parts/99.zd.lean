/-! contracts of the reference by hand -/
theorem hl_copies {L : Nat} {xs : Nat → Int32} {d : Nat} {Z : Option Value → qm_H → Prop} {h : qm_H} (h6 : 6 ≤ L) (hH : hk_H h) (hB : hk_B h.2.1) {dd : Int32} (b_dd : (0 : Int) ≤ dd.toInt ∧ dd.toInt ≤ 4) (k : ∀ (I : Nat → Nat → Int32) (J : Nat → Nat → Int64), hk_B I → (∀ o, [161, 162].contains o = false → ∀ i, I o i = h.2.1 o i) → (∀ i : Nat, i < 20 → I 161 (20 * dd.toInt.toNat + 20 + i) = h.2.1 161 (20 * dd.toInt.toNat + i)) → (∀ i, (i < 20 * dd.toInt.toNat + 20 ∨ 20 * dd.toInt.toNat + 40 ≤ i) → I 161 i = h.2.1 161 i) → I 162 (dd.toInt.toNat + 1) = h.2.1 162 (dd.toInt.toNat) → (∀ i, i ≠ dd.toInt.toNat + 1 → I 162 i = h.2.1 162 i) → Z none (h.1, I, J, h.2.2.2)) : ∀ (m : Nat) (I : Nat → Nat → Int32) (J : Nat → Nat → Int64) (q : Int32), hk_B I → (∀ o, [161, 162].contains o = false → ∀ i, I o i = h.2.1 o i) → ((0 : Int) ≤ q.toInt ∧ q.toInt ≤ 20) → (∀ i : Nat, i < q.toInt.toNat → I 161 (20 * dd.toInt.toNat + 20 + i) = h.2.1 161 (20 * dd.toInt.toNat + i)) → (∀ i, (i < 20 * dd.toInt.toNat + 20 ∨ 20 * dd.toInt.toNat + 40 ≤ i) → I 161 i = h.2.1 161 i) → (∀ i, I 162 i = h.2.1 162 i) → (20 - q.toInt).toNat = m → qm_Ru (some (L, xs)) (d + 20) cd_342 (2, [.ref 118, .int dd, .int q], [], (h.1, I, J, h.2.2.2)) Z := by
  intro m
  induction m using Nat.strongRecOn with
  | ind m ih =>
    intro I J q hBI e hq c1 co c2 hm
    refine qm_Ru.go 2 (c' := (5, [.ref 118, .int dd, .int q], [.int 20, .int q], (h.1, I, J, h.2.2.2))) rfl ?_
    refine hk_cge (ix := q.toInt) (iy := 20) rfl rfl rfl (fun z1 => ?_) (fun z1 => ?_)
    · refine qm_Ru.go 1 (c' := (40, [.ref 118, .int dd, .int q], [.ref 118], (h.1, I, J, h.2.2.2))) rfl ?_
      refine hk_getr rfl (hH.1 118 (17, 105) rfl) rfl (hH.2 118 65 (some 162) rfl) ?_
      refine qm_Ru.go 3 (c' := (46, [.ref 118, .int dd, .int q], [.int (dd + 1), .ref 162], (h.1, I, J, h.2.2.2))) rfl ?_
      obtain ⟨v2, q_v2, e_v2⟩ := hk_add (x := dd) (y := 1) (a := dd.toInt) (b := 1) rfl rfl (by omega) (by omega)
      rw [q_v2]
      refine qm_Ru.go 1 (c' := (47, [.ref 118, .int dd, .int q], [.ref 118, .int v2, .ref 162], (h.1, I, J, h.2.2.2))) rfl ?_
      refine hk_getr rfl (hH.1 118 (17, 105) rfl) rfl (hH.2 118 65 (some 162) rfl) ?_
      refine qm_Ru.go 1 (c' := (51, [.ref 118, .int dd, .int q], [.int dd, .ref 162, .int v2, .ref 162], (h.1, I, J, h.2.2.2))) rfl ?_
      obtain ⟨v3, q_v3⟩ : ∃ v, I 162 (dd.toInt.toNat) = v := ⟨_, rfl⟩
      have b_v3 : (0 : Int) ≤ v3.toInt ∧ v3.toInt ≤ 12 := by rw [← q_v3]; exact hBI 162 (dd.toInt.toNat)
      refine hk_ial (v := v3) rfl (hH.1 162 (0, 6) rfl) (by omega) (by omega) q_v3 ?_
      refine qm_Ru.go 0 (c' := (52, [.ref 118, .int dd, .int q], [.int v3, .int v2, .ref 162], (h.1, I, J, h.2.2.2))) rfl ?_
      refine hk_ias rfl (hH.1 162 (0, 6) rfl) (by omega) (by omega) ?_
      refine qm_Ru.go 0 (c' := (53, [.ref 118, .int dd, .int q], [], (h.1, qm_up I 162 (v2.toInt.toNat) v3, J, h.2.2.2))) rfl ?_
      refine qm_Ru.rt (v := none) (h' := (h.1, qm_up I 162 (v2.toInt.toNat) v3, J, h.2.2.2)) rfl ?_
      exact k (qm_up I 162 (v2.toInt.toNat) v3) (J) (hb_up (o := 162) (k := v2.toInt.toNat) (x := v3) hBI ⟨by show (0 : Int) ≤ v3.toInt; omega, by show v3.toInt ≤ (12 : Int); omega⟩) (fun o ho i => ((hk_mod ho rfl).trans (e o ho i))) (fun i hi => (hk_ot rfl).trans (c1 i (by omega))) (fun i hi => (hk_ot rfl).trans (co i hi)) ((hk_equ (by omega)).trans (q_v3.symm.trans (c2 _))) (fun i hi => (hk_neq (by omega)).trans (c2 i))
    · refine qm_Ru.go 1 (c' := (9, [.ref 118, .int dd, .int q], [.ref 118], (h.1, I, J, h.2.2.2))) rfl ?_
      refine hk_getr rfl (hH.1 118 (17, 105) rfl) rfl (hH.2 118 64 (some 161) rfl) ?_
      refine qm_Ru.go 3 (c' := (16, [.ref 118, .int dd, .int q], [.int (20 * dd), .ref 161], (h.1, I, J, h.2.2.2))) rfl ?_
      obtain ⟨v4, q_v4, e_v4⟩ := hk_mul (x := 20) (y := dd) (a := 20) (b := dd.toInt) rfl rfl (by omega) (by omega)
      rw [q_v4]
      refine qm_Ru.go 2 (c' := (19, [.ref 118, .int dd, .int q], [.int (v4 + 20), .ref 161], (h.1, I, J, h.2.2.2))) rfl ?_
      obtain ⟨v5, q_v5, e_v5⟩ := hk_add (x := v4) (y := 20) (a := v4.toInt) (b := 20) rfl rfl (by omega) (by omega)
      rw [q_v5]
      refine qm_Ru.go 2 (c' := (21, [.ref 118, .int dd, .int q], [.int (v5 + q), .ref 161], (h.1, I, J, h.2.2.2))) rfl ?_
      obtain ⟨v6, q_v6, e_v6⟩ := hk_add (x := v5) (y := q) (a := v5.toInt) (b := q.toInt) rfl rfl (by omega) (by omega)
      rw [q_v6]
      refine qm_Ru.go 1 (c' := (22, [.ref 118, .int dd, .int q], [.ref 118, .int v6, .ref 161], (h.1, I, J, h.2.2.2))) rfl ?_
      refine hk_getr rfl (hH.1 118 (17, 105) rfl) rfl (hH.2 118 64 (some 161) rfl) ?_
      refine qm_Ru.go 3 (c' := (29, [.ref 118, .int dd, .int q], [.int (20 * dd), .ref 161, .int v6, .ref 161], (h.1, I, J, h.2.2.2))) rfl ?_
      rw [q_v4]
      refine qm_Ru.go 2 (c' := (31, [.ref 118, .int dd, .int q], [.int (v4 + q), .ref 161, .int v6, .ref 161], (h.1, I, J, h.2.2.2))) rfl ?_
      obtain ⟨v8, q_v8, e_v8⟩ := hk_add (x := v4) (y := q) (a := v4.toInt) (b := q.toInt) rfl rfl (by omega) (by omega)
      rw [q_v8]
      obtain ⟨v9, q_v9⟩ : ∃ v, I 161 (v8.toInt.toNat) = v := ⟨_, rfl⟩
      have b_v9 : (0 : Int) ≤ v9.toInt ∧ v9.toInt ≤ 29 := by rw [← q_v9]; exact hBI 161 (v8.toInt.toNat)
      refine hk_ial (v := v9) rfl (hH.1 161 (0, 120) rfl) (by omega) (by omega) q_v9 ?_
      refine qm_Ru.go 0 (c' := (32, [.ref 118, .int dd, .int q], [.int v9, .int v6, .ref 161], (h.1, I, J, h.2.2.2))) rfl ?_
      refine hk_ias rfl (hH.1 161 (0, 120) rfl) (by omega) (by omega) ?_
      refine qm_Ru.go 1 (c' := (36, [.ref 118, .int dd, .int (q + 1)], [], (h.1, qm_up I 161 (v6.toInt.toNat) v9, J, h.2.2.2))) rfl ?_
      obtain ⟨v10, q_v10, e_v10⟩ := hk_add (x := q) (y := 1) (a := q.toInt) (b := 1) rfl rfl (by omega) (by omega)
      rw [q_v10]
      refine qm_Ru.go 1 (c' := (2, [.ref 118, .int dd, .int v10], [], (h.1, qm_up I 161 (v6.toInt.toNat) v9, J, h.2.2.2))) rfl ?_
      exact ih _ (by omega) (qm_up I 161 (v6.toInt.toNat) v9) (J) v10 (hb_up (o := 161) (k := v6.toInt.toNat) (x := v9) hBI ⟨by show (0 : Int) ≤ v9.toInt; omega, by show v9.toInt ≤ (29 : Int); omega⟩) (fun o ho i => ((hk_mod ho rfl).trans (e o ho i))) (by omega) (fun i hi => if c : i = q.toInt.toNat then (by subst c; exact (hk_equ (by omega)).trans (q_v9.symm.trans (by rw [show v8.toInt.toNat = 20 * dd.toInt.toNat + q.toInt.toNat from by omega]; exact co _ (by omega)))) else (hk_neq (by omega)).trans (c1 i (by omega))) (fun i hi => (hk_neq (by omega)).trans (co i hi)) (fun i => (hk_ot rfl).trans (c2 i)) rfl
theorem hs_copies {L : Nat} {xs : Nat → Int32} {d : Nat} {Z : Option Value → qm_H → Prop} {h : qm_H} (h6 : 6 ≤ L) (hH : hk_H h) (hB : hk_B h.2.1) {dd : Int32} (b_dd : (0 : Int) ≤ dd.toInt ∧ dd.toInt ≤ 4) (k : ∀ (I : Nat → Nat → Int32) (J : Nat → Nat → Int64), hk_B I → (∀ o, [161, 162].contains o = false → ∀ i, I o i = h.2.1 o i) → (∀ i : Nat, i < 20 → I 161 (20 * dd.toInt.toNat + 20 + i) = h.2.1 161 (20 * dd.toInt.toNat + i)) → (∀ i, (i < 20 * dd.toInt.toNat + 20 ∨ 20 * dd.toInt.toNat + 40 ≤ i) → I 161 i = h.2.1 161 i) → I 162 (dd.toInt.toNat + 1) = h.2.1 162 (dd.toInt.toNat) → (∀ i, i ≠ dd.toInt.toNat + 1 → I 162 i = h.2.1 162 i) → Z none (h.1, I, J, h.2.2.2)) : qm_Ru (some (L, xs)) (d + 20) cd_342 (qm_ent 3 [.ref 118, .int dd] h) Z := by
  refine qm_Ru.go 2 (c' := (2, [.ref 118, .int dd, .int 0], [], h)) rfl ?_
  exact hl_copies h6 hH hB b_dd k _ h.2.1 h.2.2.1 0 hB (fun _ _ _ => rfl) (by decide) (fun i hi => absurd hi (Nat.not_lt_zero i)) (fun _ _ => rfl) (fun _ => rfl) rfl
