/-! the best places of the class leave boxes and ship as they were -/
theorem ar1 {x w a b p q : Int32} (e1 : b = p + -q) (hp : p = a) (hq : q = w) (ha : a = x + w) : b = x := by
  subst hp
  subst hq
  rw [e1, ha, ← Int32.sub_eq_add_neg, Int32.add_sub_cancel]
theorem ar2 {x w a b p q c c2 : Int32} {n : Int} (e1 : b = p + -q * c2) (h2 : c2.toInt = n) (hp : p = a) (hq : q = w) (ha : a = x + w * c) (h1 : c.toInt = n) : b = x := by
  have e : c2 = c := hk_eqi.mpr (by rw [h1, h2])
  subst e
  subst hp
  subst hq
  rw [e1, ha, Int32.neg_mul, ← Int32.sub_eq_add_neg, Int32.add_sub_cancel]
theorem hk_i0 {x y : Int32} (h : x.toInt = 0) (hy : y.toInt = 0) : x = y := hk_eqi.mpr (by rw [h, hy])
/-- the ship's and the boxes' places are as they were -/
theorem eq7m {mod : List Nat} {I I' : Nat → Nat → Int32} (f : ∀ o, (mod ++ [11, 12, 13, 14, 28, 36, 37]).contains o = false → ∀ i, I' o i = I o i) (h11 : ∀ i, I' 11 i = I 11 i) (h12 : ∀ i, I' 12 i = I 12 i) (h13 : ∀ i, I' 13 i = I 13 i) (h14 : ∀ i, I' 14 i = I 14 i) (h28 : ∀ i, I' 28 i = I 28 i) (h36 : ∀ i, I' 36 i = I 36 i) (h37 : ∀ i, I' 37 i = I 37 i) : ∀ o, mod.contains o = false → ∀ i, I' o i = I o i := fun o ho => by
  by_cases c : [11, 12, 13, 14, 28, 36, 37].contains o = true
  · have m := List.contains_iff_mem.mp c
    simp only [List.mem_cons, List.not_mem_nil, or_false] at m
    rcases m with rfl | rfl | rfl | rfl | rfl | rfl | rfl
    · exact h11
    · exact h12
    · exact h13
    · exact h14
    · exact h28
    · exact h36
    · exact h37
  · refine f o ?_
    cases e : (mod ++ [11, 12, 13, 14, 28, 36, 37]).contains o with
    | false => rfl
    | true =>
      rcases List.mem_append.mp (List.contains_iff_mem.mp e) with z | z
      · rw [List.contains_iff_mem.mpr z] at ho
        cases ho
      · exact absurd (List.contains_iff_mem.mpr z) c
theorem eq7 {I I' : Nat → Nat → Int32} (f : ∀ o, [11, 12, 13, 14, 28, 36, 37].contains o = false → ∀ i, I' o i = I o i) (h11 : ∀ i, I' 11 i = I 11 i) (h12 : ∀ i, I' 12 i = I 12 i) (h13 : ∀ i, I' 13 i = I 13 i) (h14 : ∀ i, I' 14 i = I 14 i) (h28 : ∀ i, I' 28 i = I 28 i) (h36 : ∀ i, I' 36 i = I 36 i) (h37 : ∀ i, I' 37 i = I 37 i) : I' = I := funext fun o => funext fun i => eq7m (mod := []) f h11 h12 h13 h14 h28 h36 h37 o rfl i
/-- boxes that are away stand nowhere -/
noncomputable def zAw (h : qm_H) : Prop := ∀ b : Nat, (h.2.1 11 b).toInt = 0 → (b : Int) < (h.2.1 6 0).toInt → (h.2.1 12 b).toInt = -1 ∧ (h.2.1 13 b).toInt = -1 ∧ (h.2.1 14 b).toInt = -1
theorem hm_sput4 {X : Option (Nat × (Nat → Int32))} {d : Nat} {Z : Option Value → qm_H → Prop} {h : qm_H} (hH : hk_H h) {b y r t : Int32} (b_b : (0 : Int) ≤ b.toInt ∧ b.toInt ≤ 29) (b_y : (0 : Int) ≤ y.toInt ∧ y.toInt ≤ 4) (b_r : (0 : Int) ≤ r.toInt ∧ r.toInt ≤ 3) (b_t : (0 : Int) ≤ t.toInt ∧ t.toInt ≤ 3) (k : ∀ v4 v7 v9 v14 : Int32, v4.toInt = 16 * y.toInt + 4 * r.toInt + t.toInt → v7 = h.2.1 28 6 + h.2.1 7 (b.toInt.toNat) → v9 = h.2.1 37 (y.toInt.toNat) + h.2.1 7 (b.toInt.toNat) → (∃ c : Int32, c.toInt = 2 * r.toInt - 3 ∧ v14 = h.2.1 28 5 + h.2.1 7 (b.toInt.toNat) * c) → Z none (h.1, qm_up (qm_up (qm_up (qm_up (qm_up (qm_up (qm_up (qm_up h.2.1 36 (v4.toInt.toNat) b) 28 6 v7) 37 (y.toInt.toNat) v9) 28 5 v14) 11 (b.toInt.toNat) 1) 12 (b.toInt.toNat) y) 13 (b.toInt.toNat) r) 14 (b.toInt.toNat) t, h.2.2.1, h.2.2.2)) : qm_Ru X (d + 10) cd_99 (qm_ent 5 [.ref 28, .int b, .int y, .int r, .int t] h) Z := by
  refine qm_Ru.go 1 (c' := (1, [.ref 28, .int b, .int y, .int r, .int t], [.ref 28], h)) rfl ?_
  refine hk_getr rfl (hH.1 28 (9, 8) rfl) rfl (hH.2 28 3 (some 36) rfl) ?_
  refine qm_Ru.go 3 (c' := (8, [.ref 28, .int b, .int y, .int r, .int t], [.int t, .int r, .int y, .ref 36], h)) rfl ?_
  refine qm_Ru.call (j := 75) (as := [.int y, .int r, .int t]) (c' := (11, [.ref 28, .int b, .int y, .int r, .int t], [.ref 36], h)) rfl rfl rfl ?_
  refine qm_Ru.go 3 (c' := (3, [.int y, .int r, .int t], [.int (y * 4)], h)) rfl ?_
  obtain ⟨v1, q_v1, e_v1⟩ := hk_mul (x := y) (y := 4) (a := y.toInt) (b := 4) rfl rfl (by omega) (by omega)
  rw [q_v1]
  refine qm_Ru.go 2 (c' := (5, [.int y, .int r, .int t], [.int (v1 + r)], h)) rfl ?_
  obtain ⟨v2, q_v2, e_v2⟩ := hk_add (x := v1) (y := r) (a := v1.toInt) (b := r.toInt) rfl rfl (by omega) (by omega)
  rw [q_v2]
  refine qm_Ru.go 2 (c' := (7, [.int y, .int r, .int t], [.int (v2 * 4)], h)) rfl ?_
  obtain ⟨v3, q_v3, e_v3⟩ := hk_mul (x := v2) (y := 4) (a := v2.toInt) (b := 4) rfl rfl (by omega) (by omega)
  rw [q_v3]
  refine qm_Ru.go 2 (c' := (9, [.int y, .int r, .int t], [.int (v3 + t)], h)) rfl ?_
  obtain ⟨v4, q_v4, e_v4⟩ := hk_add (x := v3) (y := t) (a := v3.toInt) (b := t.toInt) rfl rfl (by omega) (by omega)
  rw [q_v4]
  refine qm_Ru.rt (v := (some (.int v4))) (h' := h) rfl ?_
  refine qm_Ru.go 1 (c' := (12, [.ref 28, .int b, .int y, .int r, .int t], [.int b, .int v4, .ref 36], h)) rfl ?_
  refine hk_ias rfl (hH.1 36 (0, 80) rfl) (by omega) (by omega) ?_
  refine qm_Ru.go 4 (c' := (17, [.ref 28, .int b, .int y, .int r, .int t], [.ref 28, .int r, .int y, .ref 28], (h.1, qm_up h.2.1 36 (v4.toInt.toNat) b, h.2.2.1, h.2.2.2))) rfl ?_
  refine hk_getr rfl (hH.1 28 (9, 8) rfl) rfl (hH.2 28 0 (some 6) rfl) ?_
  refine qm_Ru.go 0 (c' := (20, [.ref 28, .int b, .int y, .int r, .int t], [.ref 6, .int r, .int y, .ref 28], (h.1, qm_up h.2.1 36 (v4.toInt.toNat) b, h.2.2.1, h.2.2.2))) rfl ?_
  refine hk_getr rfl (hH.1 6 (6, 9) rfl) rfl (hH.2 6 1 (some 7) rfl) ?_
  refine qm_Ru.go 1 (c' := (24, [.ref 28, .int b, .int y, .int r, .int t], [.int b, .ref 7, .int r, .int y, .ref 28], (h.1, qm_up h.2.1 36 (v4.toInt.toNat) b, h.2.2.1, h.2.2.2))) rfl ?_
  obtain ⟨v5, q_v5⟩ : ∃ v_, h.2.1 7 (b.toInt.toNat) = v_ := ⟨_, rfl⟩
  refine hk_ial (v := v5) rfl (hH.1 7 (0, 30) rfl) (by omega) (by omega) (show (qm_up h.2.1 36 (v4.toInt.toNat) b) 7 (b.toInt.toNat) = _ from ((hk_ot rfl).trans q_v5)) ?_
  refine qm_Ru.go 0 (c' := (25, [.ref 28, .int b, .int y, .int r, .int t], [.int v5, .int r, .int y, .ref 28], (h.1, qm_up h.2.1 36 (v4.toInt.toNat) b, h.2.2.1, h.2.2.2))) rfl ?_
  refine hk_inv (o := 28) (r := []) (as := [.ref 28, .int y, .int r, .int v5]) rfl rfl (hH.1 28 (9, 8) rfl) rfl rfl rfl rfl ?_
  refine qm_Ru.go 2 (c' := (2, [.ref 28, .int y, .int r, .int v5], [.ref 28, .ref 28], (h.1, qm_up h.2.1 36 (v4.toInt.toNat) b, h.2.2.1, h.2.2.2))) rfl ?_
  obtain ⟨v6, q_v6⟩ : ∃ v_, h.2.1 28 6 = v_ := ⟨_, rfl⟩
  refine hk_geti (v := v6) rfl (hH.1 28 (9, 8) rfl) rfl (show (qm_up h.2.1 36 (v4.toInt.toNat) b) 28 6 = _ from ((hk_ot rfl).trans q_v6)) ?_
  refine qm_Ru.go 2 (c' := (7, [.ref 28, .int y, .int r, .int v5], [.int (v6 + v5), .ref 28], (h.1, qm_up h.2.1 36 (v4.toInt.toNat) b, h.2.2.1, h.2.2.2))) rfl ?_
  obtain ⟨v7, q_v7⟩ : ∃ v_, (v6 + v5) = v_ := ⟨_, rfl⟩
  rw [q_v7]
  refine hk_puti rfl (hH.1 28 (9, 8) rfl) rfl ?_
  refine qm_Ru.go 1 (c' := (11, [.ref 28, .int y, .int r, .int v5], [.ref 28], (h.1, qm_up (qm_up h.2.1 36 (v4.toInt.toNat) b) 28 6 v7, h.2.2.1, h.2.2.2))) rfl ?_
  refine hk_getr rfl (hH.1 28 (9, 8) rfl) rfl (hH.2 28 7 (some 37) rfl) ?_
  refine qm_Ru.go 2 (c' := (16, [.ref 28, .int y, .int r, .int v5], [.int y, .ref 37, .int y, .ref 37], (h.1, qm_up (qm_up h.2.1 36 (v4.toInt.toNat) b) 28 6 v7, h.2.2.1, h.2.2.2))) rfl ?_
  obtain ⟨v8, q_v8⟩ : ∃ v_, h.2.1 37 (y.toInt.toNat) = v_ := ⟨_, rfl⟩
  refine hk_ial (v := v8) rfl (hH.1 37 (0, 5) rfl) (by omega) (by omega) (show (qm_up (qm_up h.2.1 36 (v4.toInt.toNat) b) 28 6 v7) 37 (y.toInt.toNat) = _ from ((hk_ot rfl).trans ((hk_ot rfl).trans q_v8))) ?_
  refine qm_Ru.go 2 (c' := (19, [.ref 28, .int y, .int r, .int v5], [.int (v8 + v5), .int y, .ref 37], (h.1, qm_up (qm_up h.2.1 36 (v4.toInt.toNat) b) 28 6 v7, h.2.2.1, h.2.2.2))) rfl ?_
  obtain ⟨v9, q_v9⟩ : ∃ v_, (v8 + v5) = v_ := ⟨_, rfl⟩
  rw [q_v9]
  refine hk_ias rfl (hH.1 37 (0, 5) rfl) (by omega) (by omega) ?_
  refine qm_Ru.go 2 (c' := (22, [.ref 28, .int y, .int r, .int v5], [.ref 28, .ref 28], (h.1, qm_up (qm_up (qm_up h.2.1 36 (v4.toInt.toNat) b) 28 6 v7) 37 (y.toInt.toNat) v9, h.2.2.1, h.2.2.2))) rfl ?_
  obtain ⟨v10, q_v10⟩ : ∃ v_, h.2.1 28 5 = v_ := ⟨_, rfl⟩
  refine hk_geti (v := v10) rfl (hH.1 28 (9, 8) rfl) rfl (show (qm_up (qm_up (qm_up h.2.1 36 (v4.toInt.toNat) b) 28 6 v7) 37 (y.toInt.toNat) v9) 28 5 = _ from ((hk_ot rfl).trans ((hk_neq (by decide)).trans ((hk_ot rfl).trans q_v10)))) ?_
  refine qm_Ru.go 2 (c' := (27, [.ref 28, .int y, .int r, .int v5], [.int r, .int v5, .int v10, .ref 28], (h.1, qm_up (qm_up (qm_up h.2.1 36 (v4.toInt.toNat) b) 28 6 v7) 37 (y.toInt.toNat) v9, h.2.2.1, h.2.2.2))) rfl ?_
  refine qm_Ru.call (j := 95) (as := [.int r]) (c' := (30, [.ref 28, .int y, .int r, .int v5], [.int v5, .int v10, .ref 28], (h.1, qm_up (qm_up (qm_up h.2.1 36 (v4.toInt.toNat) b) 28 6 v7) 37 (y.toInt.toNat) v9, h.2.2.1, h.2.2.2))) rfl rfl rfl ?_
  refine qm_Ru.go 3 (c' := (3, [.int r], [.int (2 * r)], (h.1, qm_up (qm_up (qm_up h.2.1 36 (v4.toInt.toNat) b) 28 6 v7) 37 (y.toInt.toNat) v9, h.2.2.1, h.2.2.2))) rfl ?_
  obtain ⟨v11, q_v11, e_v11⟩ := hk_mul (x := 2) (y := r) (a := 2) (b := r.toInt) rfl rfl (by omega) (by omega)
  rw [q_v11]
  refine qm_Ru.go 2 (c' := (5, [.int r], [.int (v11 - 3)], (h.1, qm_up (qm_up (qm_up h.2.1 36 (v4.toInt.toNat) b) 28 6 v7) 37 (y.toInt.toNat) v9, h.2.2.1, h.2.2.2))) rfl ?_
  obtain ⟨v12, q_v12, e_v12⟩ := hk_sub (x := v11) (y := 3) (a := v11.toInt) (b := 3) rfl rfl (by omega) (by omega)
  rw [q_v12]
  refine qm_Ru.rt (v := (some (.int v12))) (h' := (h.1, qm_up (qm_up (qm_up h.2.1 36 (v4.toInt.toNat) b) 28 6 v7) 37 (y.toInt.toNat) v9, h.2.2.1, h.2.2.2)) rfl ?_
  refine qm_Ru.go 1 (c' := (31, [.ref 28, .int y, .int r, .int v5], [.int (v5 * v12), .int v10, .ref 28], (h.1, qm_up (qm_up (qm_up h.2.1 36 (v4.toInt.toNat) b) 28 6 v7) 37 (y.toInt.toNat) v9, h.2.2.1, h.2.2.2))) rfl ?_
  obtain ⟨v13, q_v13⟩ : ∃ v_, (v5 * v12) = v_ := ⟨_, rfl⟩
  rw [q_v13]
  refine qm_Ru.go 1 (c' := (32, [.ref 28, .int y, .int r, .int v5], [.int (v10 + v13), .ref 28], (h.1, qm_up (qm_up (qm_up h.2.1 36 (v4.toInt.toNat) b) 28 6 v7) 37 (y.toInt.toNat) v9, h.2.2.1, h.2.2.2))) rfl ?_
  obtain ⟨v14, q_v14⟩ : ∃ v_, (v10 + v13) = v_ := ⟨_, rfl⟩
  rw [q_v14]
  refine hk_puti rfl (hH.1 28 (9, 8) rfl) rfl ?_
  refine qm_Ru.go 0 (c' := (35, [.ref 28, .int y, .int r, .int v5], [], (h.1, qm_up (qm_up (qm_up (qm_up h.2.1 36 (v4.toInt.toNat) b) 28 6 v7) 37 (y.toInt.toNat) v9) 28 5 v14, h.2.2.1, h.2.2.2))) rfl ?_
  refine qm_Ru.rt (v := none) (h' := (h.1, qm_up (qm_up (qm_up (qm_up h.2.1 36 (v4.toInt.toNat) b) 28 6 v7) 37 (y.toInt.toNat) v9) 28 5 v14, h.2.2.1, h.2.2.2)) rfl ?_
  refine qm_Ru.go 1 (c' := (29, [.ref 28, .int b, .int y, .int r, .int t], [.ref 28], (h.1, qm_up (qm_up (qm_up (qm_up h.2.1 36 (v4.toInt.toNat) b) 28 6 v7) 37 (y.toInt.toNat) v9) 28 5 v14, h.2.2.1, h.2.2.2))) rfl ?_
  refine hk_getr rfl (hH.1 28 (9, 8) rfl) rfl (hH.2 28 0 (some 6) rfl) ?_
  refine qm_Ru.go 5 (c' := (38, [.ref 28, .int b, .int y, .int r, .int t], [.int t, .int r, .int y, .int 1, .int b, .ref 6], (h.1, qm_up (qm_up (qm_up (qm_up h.2.1 36 (v4.toInt.toNat) b) 28 6 v7) 37 (y.toInt.toNat) v9) 28 5 v14, h.2.2.1, h.2.2.2))) rfl ?_
  refine hk_inv (o := 6) (r := []) (as := [.ref 6, .int b, .int 1, .int y, .int r, .int t]) rfl rfl (hH.1 6 (6, 9) rfl) rfl rfl rfl rfl ?_
  refine qm_Ru.go 1 (c' := (1, [.ref 6, .int b, .int 1, .int y, .int r, .int t], [.ref 6], (h.1, qm_up (qm_up (qm_up (qm_up h.2.1 36 (v4.toInt.toNat) b) 28 6 v7) 37 (y.toInt.toNat) v9) 28 5 v14, h.2.2.1, h.2.2.2))) rfl ?_
  refine hk_getr rfl (hH.1 6 (6, 9) rfl) rfl (hH.2 6 5 (some 11) rfl) ?_
  refine qm_Ru.go 2 (c' := (6, [.ref 6, .int b, .int 1, .int y, .int r, .int t], [.int 1, .int b, .ref 11], (h.1, qm_up (qm_up (qm_up (qm_up h.2.1 36 (v4.toInt.toNat) b) 28 6 v7) 37 (y.toInt.toNat) v9) 28 5 v14, h.2.2.1, h.2.2.2))) rfl ?_
  refine hk_ias rfl (hH.1 11 (0, 30) rfl) (by omega) (by omega) ?_
  refine qm_Ru.go 1 (c' := (8, [.ref 6, .int b, .int 1, .int y, .int r, .int t], [.ref 6], (h.1, qm_up (qm_up (qm_up (qm_up (qm_up h.2.1 36 (v4.toInt.toNat) b) 28 6 v7) 37 (y.toInt.toNat) v9) 28 5 v14) 11 (b.toInt.toNat) 1, h.2.2.1, h.2.2.2))) rfl ?_
  refine hk_getr rfl (hH.1 6 (6, 9) rfl) rfl (hH.2 6 6 (some 12) rfl) ?_
  refine qm_Ru.go 2 (c' := (13, [.ref 6, .int b, .int 1, .int y, .int r, .int t], [.int y, .int b, .ref 12], (h.1, qm_up (qm_up (qm_up (qm_up (qm_up h.2.1 36 (v4.toInt.toNat) b) 28 6 v7) 37 (y.toInt.toNat) v9) 28 5 v14) 11 (b.toInt.toNat) 1, h.2.2.1, h.2.2.2))) rfl ?_
  refine hk_ias rfl (hH.1 12 (0, 30) rfl) (by omega) (by omega) ?_
  refine qm_Ru.go 1 (c' := (15, [.ref 6, .int b, .int 1, .int y, .int r, .int t], [.ref 6], (h.1, qm_up (qm_up (qm_up (qm_up (qm_up (qm_up h.2.1 36 (v4.toInt.toNat) b) 28 6 v7) 37 (y.toInt.toNat) v9) 28 5 v14) 11 (b.toInt.toNat) 1) 12 (b.toInt.toNat) y, h.2.2.1, h.2.2.2))) rfl ?_
  refine hk_getr rfl (hH.1 6 (6, 9) rfl) rfl (hH.2 6 7 (some 13) rfl) ?_
  refine qm_Ru.go 2 (c' := (21, [.ref 6, .int b, .int 1, .int y, .int r, .int t], [.int r, .int b, .ref 13], (h.1, qm_up (qm_up (qm_up (qm_up (qm_up (qm_up h.2.1 36 (v4.toInt.toNat) b) 28 6 v7) 37 (y.toInt.toNat) v9) 28 5 v14) 11 (b.toInt.toNat) 1) 12 (b.toInt.toNat) y, h.2.2.1, h.2.2.2))) rfl ?_
  refine hk_ias rfl (hH.1 13 (0, 30) rfl) (by omega) (by omega) ?_
  refine qm_Ru.go 1 (c' := (23, [.ref 6, .int b, .int 1, .int y, .int r, .int t], [.ref 6], (h.1, qm_up (qm_up (qm_up (qm_up (qm_up (qm_up (qm_up h.2.1 36 (v4.toInt.toNat) b) 28 6 v7) 37 (y.toInt.toNat) v9) 28 5 v14) 11 (b.toInt.toNat) 1) 12 (b.toInt.toNat) y) 13 (b.toInt.toNat) r, h.2.2.1, h.2.2.2))) rfl ?_
  refine hk_getr rfl (hH.1 6 (6, 9) rfl) rfl (hH.2 6 8 (some 14) rfl) ?_
  refine qm_Ru.go 2 (c' := (29, [.ref 6, .int b, .int 1, .int y, .int r, .int t], [.int t, .int b, .ref 14], (h.1, qm_up (qm_up (qm_up (qm_up (qm_up (qm_up (qm_up h.2.1 36 (v4.toInt.toNat) b) 28 6 v7) 37 (y.toInt.toNat) v9) 28 5 v14) 11 (b.toInt.toNat) 1) 12 (b.toInt.toNat) y) 13 (b.toInt.toNat) r, h.2.2.1, h.2.2.2))) rfl ?_
  refine hk_ias rfl (hH.1 14 (0, 30) rfl) (by omega) (by omega) ?_
  refine qm_Ru.go 0 (c' := (30, [.ref 6, .int b, .int 1, .int y, .int r, .int t], [], (h.1, qm_up (qm_up (qm_up (qm_up (qm_up (qm_up (qm_up (qm_up h.2.1 36 (v4.toInt.toNat) b) 28 6 v7) 37 (y.toInt.toNat) v9) 28 5 v14) 11 (b.toInt.toNat) 1) 12 (b.toInt.toNat) y) 13 (b.toInt.toNat) r) 14 (b.toInt.toNat) t, h.2.2.1, h.2.2.2))) rfl ?_
  refine qm_Ru.rt (v := none) (h' := (h.1, qm_up (qm_up (qm_up (qm_up (qm_up (qm_up (qm_up (qm_up h.2.1 36 (v4.toInt.toNat) b) 28 6 v7) 37 (y.toInt.toNat) v9) 28 5 v14) 11 (b.toInt.toNat) 1) 12 (b.toInt.toNat) y) 13 (b.toInt.toNat) r) 14 (b.toInt.toNat) t, h.2.2.1, h.2.2.2)) rfl ?_
  refine qm_Ru.go 0 (c' := (41, [.ref 28, .int b, .int y, .int r, .int t], [], (h.1, qm_up (qm_up (qm_up (qm_up (qm_up (qm_up (qm_up (qm_up h.2.1 36 (v4.toInt.toNat) b) 28 6 v7) 37 (y.toInt.toNat) v9) 28 5 v14) 11 (b.toInt.toNat) 1) 12 (b.toInt.toNat) y) 13 (b.toInt.toNat) r) 14 (b.toInt.toNat) t, h.2.2.1, h.2.2.2))) rfl ?_
  refine qm_Ru.rt (v := none) (h' := (h.1, qm_up (qm_up (qm_up (qm_up (qm_up (qm_up (qm_up (qm_up h.2.1 36 (v4.toInt.toNat) b) 28 6 v7) 37 (y.toInt.toNat) v9) 28 5 v14) 11 (b.toInt.toNat) 1) 12 (b.toInt.toNat) y) 13 (b.toInt.toNat) r) 14 (b.toInt.toNat) t, h.2.2.1, h.2.2.2)) rfl ?_
  exact k v4 v7 v9 v14 (by omega) (by rw [q_v6, q_v5]; exact q_v7.symm) (by rw [q_v8, q_v5]; exact q_v9.symm) ⟨v12, by omega, (by rw [q_v10, q_v5]; rw [q_v13]; exact q_v14.symm)⟩
theorem hm_rem4 {X : Option (Nat × (Nat → Int32))} {d : Nat} {Z : Option Value → qm_H → Prop} {h : qm_H} (hH : hk_H h) {b y1 r1 t1 : Int32} (b_b : (0 : Int) ≤ b.toInt ∧ b.toInt ≤ 29) (q_y1 : h.2.1 12 (b.toInt.toNat) = y1) (b_y1 : (0 : Int) ≤ y1.toInt ∧ y1.toInt ≤ 4) (q_r1 : h.2.1 13 (b.toInt.toNat) = r1) (b_r1 : (0 : Int) ≤ r1.toInt ∧ r1.toInt ≤ 3) (q_t1 : h.2.1 14 (b.toInt.toNat) = t1) (b_t1 : (0 : Int) ≤ t1.toInt ∧ t1.toInt ≤ 3) (k : ∀ v4 v8 v10 v15 : Int32, v4.toInt = 16 * y1.toInt + 4 * r1.toInt + t1.toInt → v8 = h.2.1 28 6 + -h.2.1 7 (b.toInt.toNat) → v10 = h.2.1 37 (y1.toInt.toNat) + -h.2.1 7 (b.toInt.toNat) → (∃ c : Int32, c.toInt = 2 * r1.toInt - 3 ∧ v15 = h.2.1 28 5 + -h.2.1 7 (b.toInt.toNat) * c) → Z none (h.1, qm_up (qm_up (qm_up (qm_up (qm_up (qm_up (qm_up (qm_up h.2.1 36 (v4.toInt.toNat) (-1)) 28 6 v8) 37 (y1.toInt.toNat) v10) 28 5 v15) 11 (b.toInt.toNat) 0) 12 (b.toInt.toNat) (-1)) 13 (b.toInt.toNat) (-1)) 14 (b.toInt.toNat) (-1), h.2.2.1, h.2.2.2)) : qm_Ru X (d + 10) cd_106 (qm_ent 4 [.ref 28, .int b] h) Z := by
  refine qm_Ru.go 1 (c' := (1, [.ref 28, .int b, .float 0, .float 0], [.ref 28], h)) rfl ?_
  refine hk_getr rfl (hH.1 28 (9, 8) rfl) rfl (hH.2 28 0 (some 6) rfl) ?_
  refine qm_Ru.go 0 (c' := (4, [.ref 28, .int b, .float 0, .float 0], [.ref 6], h)) rfl ?_
  refine hk_getr rfl (hH.1 6 (6, 9) rfl) rfl (hH.2 6 6 (some 12) rfl) ?_
  refine qm_Ru.go 1 (c' := (8, [.ref 28, .int b, .float 0, .float 0], [.int b, .ref 12], h)) rfl ?_
  refine hk_ial (v := y1) rfl (hH.1 12 (0, 30) rfl) (by omega) (by omega) q_y1 ?_
  refine qm_Ru.go 2 (c' := (11, [.ref 28, .int b, .int y1, .float 0], [.ref 28], h)) rfl ?_
  refine hk_getr rfl (hH.1 28 (9, 8) rfl) rfl (hH.2 28 0 (some 6) rfl) ?_
  refine qm_Ru.go 0 (c' := (14, [.ref 28, .int b, .int y1, .float 0], [.ref 6], h)) rfl ?_
  refine hk_getr rfl (hH.1 6 (6, 9) rfl) rfl (hH.2 6 7 (some 13) rfl) ?_
  refine qm_Ru.go 1 (c' := (18, [.ref 28, .int b, .int y1, .float 0], [.int b, .ref 13], h)) rfl ?_
  refine hk_ial (v := r1) rfl (hH.1 13 (0, 30) rfl) (by omega) (by omega) q_r1 ?_
  refine qm_Ru.go 2 (c' := (21, [.ref 28, .int b, .int y1, .int r1], [.ref 28], h)) rfl ?_
  refine hk_getr rfl (hH.1 28 (9, 8) rfl) rfl (hH.2 28 3 (some 36) rfl) ?_
  refine qm_Ru.go 3 (c' := (27, [.ref 28, .int b, .int y1, .int r1], [.ref 28, .int r1, .int y1, .ref 36], h)) rfl ?_
  refine hk_getr rfl (hH.1 28 (9, 8) rfl) rfl (hH.2 28 0 (some 6) rfl) ?_
  refine qm_Ru.go 0 (c' := (30, [.ref 28, .int b, .int y1, .int r1], [.ref 6, .int r1, .int y1, .ref 36], h)) rfl ?_
  refine hk_getr rfl (hH.1 6 (6, 9) rfl) rfl (hH.2 6 8 (some 14) rfl) ?_
  refine qm_Ru.go 1 (c' := (34, [.ref 28, .int b, .int y1, .int r1], [.int b, .ref 14, .int r1, .int y1, .ref 36], h)) rfl ?_
  refine hk_ial (v := t1) rfl (hH.1 14 (0, 30) rfl) (by omega) (by omega) q_t1 ?_
  refine qm_Ru.go 0 (c' := (35, [.ref 28, .int b, .int y1, .int r1], [.int t1, .int r1, .int y1, .ref 36], h)) rfl ?_
  refine qm_Ru.call (j := 75) (as := [.int y1, .int r1, .int t1]) (c' := (38, [.ref 28, .int b, .int y1, .int r1], [.ref 36], h)) rfl rfl rfl ?_
  refine qm_Ru.go 3 (c' := (3, [.int y1, .int r1, .int t1], [.int (y1 * 4)], h)) rfl ?_
  obtain ⟨v1, q_v1, e_v1⟩ := hk_mul (x := y1) (y := 4) (a := y1.toInt) (b := 4) rfl rfl (by omega) (by omega)
  rw [q_v1]
  refine qm_Ru.go 2 (c' := (5, [.int y1, .int r1, .int t1], [.int (v1 + r1)], h)) rfl ?_
  obtain ⟨v2, q_v2, e_v2⟩ := hk_add (x := v1) (y := r1) (a := v1.toInt) (b := r1.toInt) rfl rfl (by omega) (by omega)
  rw [q_v2]
  refine qm_Ru.go 2 (c' := (7, [.int y1, .int r1, .int t1], [.int (v2 * 4)], h)) rfl ?_
  obtain ⟨v3, q_v3, e_v3⟩ := hk_mul (x := v2) (y := 4) (a := v2.toInt) (b := 4) rfl rfl (by omega) (by omega)
  rw [q_v3]
  refine qm_Ru.go 2 (c' := (9, [.int y1, .int r1, .int t1], [.int (v3 + t1)], h)) rfl ?_
  obtain ⟨v4, q_v4, e_v4⟩ := hk_add (x := v3) (y := t1) (a := v3.toInt) (b := t1.toInt) rfl rfl (by omega) (by omega)
  rw [q_v4]
  refine qm_Ru.rt (v := (some (.int v4))) (h' := h) rfl ?_
  refine qm_Ru.go 1 (c' := (39, [.ref 28, .int b, .int y1, .int r1], [.int (-1), .int v4, .ref 36], h)) rfl ?_
  refine hk_ias rfl (hH.1 36 (0, 80) rfl) (by omega) (by omega) ?_
  refine qm_Ru.go 4 (c' := (44, [.ref 28, .int b, .int y1, .int r1], [.ref 28, .int r1, .int y1, .ref 28], (h.1, qm_up h.2.1 36 (v4.toInt.toNat) (-1), h.2.2.1, h.2.2.2))) rfl ?_
  refine hk_getr rfl (hH.1 28 (9, 8) rfl) rfl (hH.2 28 0 (some 6) rfl) ?_
  refine qm_Ru.go 0 (c' := (47, [.ref 28, .int b, .int y1, .int r1], [.ref 6, .int r1, .int y1, .ref 28], (h.1, qm_up h.2.1 36 (v4.toInt.toNat) (-1), h.2.2.1, h.2.2.2))) rfl ?_
  refine hk_getr rfl (hH.1 6 (6, 9) rfl) rfl (hH.2 6 1 (some 7) rfl) ?_
  refine qm_Ru.go 1 (c' := (51, [.ref 28, .int b, .int y1, .int r1], [.int b, .ref 7, .int r1, .int y1, .ref 28], (h.1, qm_up h.2.1 36 (v4.toInt.toNat) (-1), h.2.2.1, h.2.2.2))) rfl ?_
  obtain ⟨v5, q_v5⟩ : ∃ v_, h.2.1 7 (b.toInt.toNat) = v_ := ⟨_, rfl⟩
  refine hk_ial (v := v5) rfl (hH.1 7 (0, 30) rfl) (by omega) (by omega) (show (qm_up h.2.1 36 (v4.toInt.toNat) (-1)) 7 (b.toInt.toNat) = _ from ((hk_ot rfl).trans q_v5)) ?_
  refine qm_Ru.go 1 (c' := (53, [.ref 28, .int b, .int y1, .int r1], [.int (-v5), .int r1, .int y1, .ref 28], (h.1, qm_up h.2.1 36 (v4.toInt.toNat) (-1), h.2.2.1, h.2.2.2))) rfl ?_
  obtain ⟨v6, q_v6⟩ : ∃ v_, (-v5) = v_ := ⟨_, rfl⟩
  rw [q_v6]
  refine hk_inv (o := 28) (r := []) (as := [.ref 28, .int y1, .int r1, .int v6]) rfl rfl (hH.1 28 (9, 8) rfl) rfl rfl rfl rfl ?_
  refine qm_Ru.go 2 (c' := (2, [.ref 28, .int y1, .int r1, .int v6], [.ref 28, .ref 28], (h.1, qm_up h.2.1 36 (v4.toInt.toNat) (-1), h.2.2.1, h.2.2.2))) rfl ?_
  obtain ⟨v7, q_v7⟩ : ∃ v_, h.2.1 28 6 = v_ := ⟨_, rfl⟩
  refine hk_geti (v := v7) rfl (hH.1 28 (9, 8) rfl) rfl (show (qm_up h.2.1 36 (v4.toInt.toNat) (-1)) 28 6 = _ from ((hk_ot rfl).trans q_v7)) ?_
  refine qm_Ru.go 2 (c' := (7, [.ref 28, .int y1, .int r1, .int v6], [.int (v7 + v6), .ref 28], (h.1, qm_up h.2.1 36 (v4.toInt.toNat) (-1), h.2.2.1, h.2.2.2))) rfl ?_
  obtain ⟨v8, q_v8⟩ : ∃ v_, (v7 + v6) = v_ := ⟨_, rfl⟩
  rw [q_v8]
  refine hk_puti rfl (hH.1 28 (9, 8) rfl) rfl ?_
  refine qm_Ru.go 1 (c' := (11, [.ref 28, .int y1, .int r1, .int v6], [.ref 28], (h.1, qm_up (qm_up h.2.1 36 (v4.toInt.toNat) (-1)) 28 6 v8, h.2.2.1, h.2.2.2))) rfl ?_
  refine hk_getr rfl (hH.1 28 (9, 8) rfl) rfl (hH.2 28 7 (some 37) rfl) ?_
  refine qm_Ru.go 2 (c' := (16, [.ref 28, .int y1, .int r1, .int v6], [.int y1, .ref 37, .int y1, .ref 37], (h.1, qm_up (qm_up h.2.1 36 (v4.toInt.toNat) (-1)) 28 6 v8, h.2.2.1, h.2.2.2))) rfl ?_
  obtain ⟨v9, q_v9⟩ : ∃ v_, h.2.1 37 (y1.toInt.toNat) = v_ := ⟨_, rfl⟩
  refine hk_ial (v := v9) rfl (hH.1 37 (0, 5) rfl) (by omega) (by omega) (show (qm_up (qm_up h.2.1 36 (v4.toInt.toNat) (-1)) 28 6 v8) 37 (y1.toInt.toNat) = _ from ((hk_ot rfl).trans ((hk_ot rfl).trans q_v9))) ?_
  refine qm_Ru.go 2 (c' := (19, [.ref 28, .int y1, .int r1, .int v6], [.int (v9 + v6), .int y1, .ref 37], (h.1, qm_up (qm_up h.2.1 36 (v4.toInt.toNat) (-1)) 28 6 v8, h.2.2.1, h.2.2.2))) rfl ?_
  obtain ⟨v10, q_v10⟩ : ∃ v_, (v9 + v6) = v_ := ⟨_, rfl⟩
  rw [q_v10]
  refine hk_ias rfl (hH.1 37 (0, 5) rfl) (by omega) (by omega) ?_
  refine qm_Ru.go 2 (c' := (22, [.ref 28, .int y1, .int r1, .int v6], [.ref 28, .ref 28], (h.1, qm_up (qm_up (qm_up h.2.1 36 (v4.toInt.toNat) (-1)) 28 6 v8) 37 (y1.toInt.toNat) v10, h.2.2.1, h.2.2.2))) rfl ?_
  obtain ⟨v11, q_v11⟩ : ∃ v_, h.2.1 28 5 = v_ := ⟨_, rfl⟩
  refine hk_geti (v := v11) rfl (hH.1 28 (9, 8) rfl) rfl (show (qm_up (qm_up (qm_up h.2.1 36 (v4.toInt.toNat) (-1)) 28 6 v8) 37 (y1.toInt.toNat) v10) 28 5 = _ from ((hk_ot rfl).trans ((hk_neq (by decide)).trans ((hk_ot rfl).trans q_v11)))) ?_
  refine qm_Ru.go 2 (c' := (27, [.ref 28, .int y1, .int r1, .int v6], [.int r1, .int v6, .int v11, .ref 28], (h.1, qm_up (qm_up (qm_up h.2.1 36 (v4.toInt.toNat) (-1)) 28 6 v8) 37 (y1.toInt.toNat) v10, h.2.2.1, h.2.2.2))) rfl ?_
  refine qm_Ru.call (j := 95) (as := [.int r1]) (c' := (30, [.ref 28, .int y1, .int r1, .int v6], [.int v6, .int v11, .ref 28], (h.1, qm_up (qm_up (qm_up h.2.1 36 (v4.toInt.toNat) (-1)) 28 6 v8) 37 (y1.toInt.toNat) v10, h.2.2.1, h.2.2.2))) rfl rfl rfl ?_
  refine qm_Ru.go 3 (c' := (3, [.int r1], [.int (2 * r1)], (h.1, qm_up (qm_up (qm_up h.2.1 36 (v4.toInt.toNat) (-1)) 28 6 v8) 37 (y1.toInt.toNat) v10, h.2.2.1, h.2.2.2))) rfl ?_
  obtain ⟨v12, q_v12, e_v12⟩ := hk_mul (x := 2) (y := r1) (a := 2) (b := r1.toInt) rfl rfl (by omega) (by omega)
  rw [q_v12]
  refine qm_Ru.go 2 (c' := (5, [.int r1], [.int (v12 - 3)], (h.1, qm_up (qm_up (qm_up h.2.1 36 (v4.toInt.toNat) (-1)) 28 6 v8) 37 (y1.toInt.toNat) v10, h.2.2.1, h.2.2.2))) rfl ?_
  obtain ⟨v13, q_v13, e_v13⟩ := hk_sub (x := v12) (y := 3) (a := v12.toInt) (b := 3) rfl rfl (by omega) (by omega)
  rw [q_v13]
  refine qm_Ru.rt (v := (some (.int v13))) (h' := (h.1, qm_up (qm_up (qm_up h.2.1 36 (v4.toInt.toNat) (-1)) 28 6 v8) 37 (y1.toInt.toNat) v10, h.2.2.1, h.2.2.2)) rfl ?_
  refine qm_Ru.go 1 (c' := (31, [.ref 28, .int y1, .int r1, .int v6], [.int (v6 * v13), .int v11, .ref 28], (h.1, qm_up (qm_up (qm_up h.2.1 36 (v4.toInt.toNat) (-1)) 28 6 v8) 37 (y1.toInt.toNat) v10, h.2.2.1, h.2.2.2))) rfl ?_
  obtain ⟨v14, q_v14⟩ : ∃ v_, (v6 * v13) = v_ := ⟨_, rfl⟩
  rw [q_v14]
  refine qm_Ru.go 1 (c' := (32, [.ref 28, .int y1, .int r1, .int v6], [.int (v11 + v14), .ref 28], (h.1, qm_up (qm_up (qm_up h.2.1 36 (v4.toInt.toNat) (-1)) 28 6 v8) 37 (y1.toInt.toNat) v10, h.2.2.1, h.2.2.2))) rfl ?_
  obtain ⟨v15, q_v15⟩ : ∃ v_, (v11 + v14) = v_ := ⟨_, rfl⟩
  rw [q_v15]
  refine hk_puti rfl (hH.1 28 (9, 8) rfl) rfl ?_
  refine qm_Ru.go 0 (c' := (35, [.ref 28, .int y1, .int r1, .int v6], [], (h.1, qm_up (qm_up (qm_up (qm_up h.2.1 36 (v4.toInt.toNat) (-1)) 28 6 v8) 37 (y1.toInt.toNat) v10) 28 5 v15, h.2.2.1, h.2.2.2))) rfl ?_
  refine qm_Ru.rt (v := none) (h' := (h.1, qm_up (qm_up (qm_up (qm_up h.2.1 36 (v4.toInt.toNat) (-1)) 28 6 v8) 37 (y1.toInt.toNat) v10) 28 5 v15, h.2.2.1, h.2.2.2)) rfl ?_
  refine qm_Ru.go 1 (c' := (57, [.ref 28, .int b, .int y1, .int r1], [.ref 28], (h.1, qm_up (qm_up (qm_up (qm_up h.2.1 36 (v4.toInt.toNat) (-1)) 28 6 v8) 37 (y1.toInt.toNat) v10) 28 5 v15, h.2.2.1, h.2.2.2))) rfl ?_
  refine hk_getr rfl (hH.1 28 (9, 8) rfl) rfl (hH.2 28 0 (some 6) rfl) ?_
  refine qm_Ru.go 1 (c' := (61, [.ref 28, .int b, .int y1, .int r1], [.int b, .ref 6], (h.1, qm_up (qm_up (qm_up (qm_up h.2.1 36 (v4.toInt.toNat) (-1)) 28 6 v8) 37 (y1.toInt.toNat) v10) 28 5 v15, h.2.2.1, h.2.2.2))) rfl ?_
  refine hk_inv (o := 6) (r := []) (as := [.ref 6, .int b]) rfl rfl (hH.1 6 (6, 9) rfl) rfl rfl rfl rfl ?_
  refine qm_Ru.go 6 (c' := (6, [.ref 6, .int b], [.int (-1), .int (-1), .int (-1), .int 0, .int b, .ref 6], (h.1, qm_up (qm_up (qm_up (qm_up h.2.1 36 (v4.toInt.toNat) (-1)) 28 6 v8) 37 (y1.toInt.toNat) v10) 28 5 v15, h.2.2.1, h.2.2.2))) rfl ?_
  refine hk_inv (o := 6) (r := []) (as := [.ref 6, .int b, .int 0, .int (-1), .int (-1), .int (-1)]) rfl rfl (hH.1 6 (6, 9) rfl) rfl rfl rfl rfl ?_
  refine qm_Ru.go 1 (c' := (1, [.ref 6, .int b, .int 0, .int (-1), .int (-1), .int (-1)], [.ref 6], (h.1, qm_up (qm_up (qm_up (qm_up h.2.1 36 (v4.toInt.toNat) (-1)) 28 6 v8) 37 (y1.toInt.toNat) v10) 28 5 v15, h.2.2.1, h.2.2.2))) rfl ?_
  refine hk_getr rfl (hH.1 6 (6, 9) rfl) rfl (hH.2 6 5 (some 11) rfl) ?_
  refine qm_Ru.go 2 (c' := (6, [.ref 6, .int b, .int 0, .int (-1), .int (-1), .int (-1)], [.int 0, .int b, .ref 11], (h.1, qm_up (qm_up (qm_up (qm_up h.2.1 36 (v4.toInt.toNat) (-1)) 28 6 v8) 37 (y1.toInt.toNat) v10) 28 5 v15, h.2.2.1, h.2.2.2))) rfl ?_
  refine hk_ias rfl (hH.1 11 (0, 30) rfl) (by omega) (by omega) ?_
  refine qm_Ru.go 1 (c' := (8, [.ref 6, .int b, .int 0, .int (-1), .int (-1), .int (-1)], [.ref 6], (h.1, qm_up (qm_up (qm_up (qm_up (qm_up h.2.1 36 (v4.toInt.toNat) (-1)) 28 6 v8) 37 (y1.toInt.toNat) v10) 28 5 v15) 11 (b.toInt.toNat) 0, h.2.2.1, h.2.2.2))) rfl ?_
  refine hk_getr rfl (hH.1 6 (6, 9) rfl) rfl (hH.2 6 6 (some 12) rfl) ?_
  refine qm_Ru.go 2 (c' := (13, [.ref 6, .int b, .int 0, .int (-1), .int (-1), .int (-1)], [.int (-1), .int b, .ref 12], (h.1, qm_up (qm_up (qm_up (qm_up (qm_up h.2.1 36 (v4.toInt.toNat) (-1)) 28 6 v8) 37 (y1.toInt.toNat) v10) 28 5 v15) 11 (b.toInt.toNat) 0, h.2.2.1, h.2.2.2))) rfl ?_
  refine hk_ias rfl (hH.1 12 (0, 30) rfl) (by omega) (by omega) ?_
  refine qm_Ru.go 1 (c' := (15, [.ref 6, .int b, .int 0, .int (-1), .int (-1), .int (-1)], [.ref 6], (h.1, qm_up (qm_up (qm_up (qm_up (qm_up (qm_up h.2.1 36 (v4.toInt.toNat) (-1)) 28 6 v8) 37 (y1.toInt.toNat) v10) 28 5 v15) 11 (b.toInt.toNat) 0) 12 (b.toInt.toNat) (-1), h.2.2.1, h.2.2.2))) rfl ?_
  refine hk_getr rfl (hH.1 6 (6, 9) rfl) rfl (hH.2 6 7 (some 13) rfl) ?_
  refine qm_Ru.go 2 (c' := (21, [.ref 6, .int b, .int 0, .int (-1), .int (-1), .int (-1)], [.int (-1), .int b, .ref 13], (h.1, qm_up (qm_up (qm_up (qm_up (qm_up (qm_up h.2.1 36 (v4.toInt.toNat) (-1)) 28 6 v8) 37 (y1.toInt.toNat) v10) 28 5 v15) 11 (b.toInt.toNat) 0) 12 (b.toInt.toNat) (-1), h.2.2.1, h.2.2.2))) rfl ?_
  refine hk_ias rfl (hH.1 13 (0, 30) rfl) (by omega) (by omega) ?_
  refine qm_Ru.go 1 (c' := (23, [.ref 6, .int b, .int 0, .int (-1), .int (-1), .int (-1)], [.ref 6], (h.1, qm_up (qm_up (qm_up (qm_up (qm_up (qm_up (qm_up h.2.1 36 (v4.toInt.toNat) (-1)) 28 6 v8) 37 (y1.toInt.toNat) v10) 28 5 v15) 11 (b.toInt.toNat) 0) 12 (b.toInt.toNat) (-1)) 13 (b.toInt.toNat) (-1), h.2.2.1, h.2.2.2))) rfl ?_
  refine hk_getr rfl (hH.1 6 (6, 9) rfl) rfl (hH.2 6 8 (some 14) rfl) ?_
  refine qm_Ru.go 2 (c' := (29, [.ref 6, .int b, .int 0, .int (-1), .int (-1), .int (-1)], [.int (-1), .int b, .ref 14], (h.1, qm_up (qm_up (qm_up (qm_up (qm_up (qm_up (qm_up h.2.1 36 (v4.toInt.toNat) (-1)) 28 6 v8) 37 (y1.toInt.toNat) v10) 28 5 v15) 11 (b.toInt.toNat) 0) 12 (b.toInt.toNat) (-1)) 13 (b.toInt.toNat) (-1), h.2.2.1, h.2.2.2))) rfl ?_
  refine hk_ias rfl (hH.1 14 (0, 30) rfl) (by omega) (by omega) ?_
  refine qm_Ru.go 0 (c' := (30, [.ref 6, .int b, .int 0, .int (-1), .int (-1), .int (-1)], [], (h.1, qm_up (qm_up (qm_up (qm_up (qm_up (qm_up (qm_up (qm_up h.2.1 36 (v4.toInt.toNat) (-1)) 28 6 v8) 37 (y1.toInt.toNat) v10) 28 5 v15) 11 (b.toInt.toNat) 0) 12 (b.toInt.toNat) (-1)) 13 (b.toInt.toNat) (-1)) 14 (b.toInt.toNat) (-1), h.2.2.1, h.2.2.2))) rfl ?_
  refine qm_Ru.rt (v := none) (h' := (h.1, qm_up (qm_up (qm_up (qm_up (qm_up (qm_up (qm_up (qm_up h.2.1 36 (v4.toInt.toNat) (-1)) 28 6 v8) 37 (y1.toInt.toNat) v10) 28 5 v15) 11 (b.toInt.toNat) 0) 12 (b.toInt.toNat) (-1)) 13 (b.toInt.toNat) (-1)) 14 (b.toInt.toNat) (-1), h.2.2.1, h.2.2.2)) rfl ?_
  refine qm_Ru.go 0 (c' := (9, [.ref 6, .int b], [], (h.1, qm_up (qm_up (qm_up (qm_up (qm_up (qm_up (qm_up (qm_up h.2.1 36 (v4.toInt.toNat) (-1)) 28 6 v8) 37 (y1.toInt.toNat) v10) 28 5 v15) 11 (b.toInt.toNat) 0) 12 (b.toInt.toNat) (-1)) 13 (b.toInt.toNat) (-1)) 14 (b.toInt.toNat) (-1), h.2.2.1, h.2.2.2))) rfl ?_
  refine qm_Ru.rt (v := none) (h' := (h.1, qm_up (qm_up (qm_up (qm_up (qm_up (qm_up (qm_up (qm_up h.2.1 36 (v4.toInt.toNat) (-1)) 28 6 v8) 37 (y1.toInt.toNat) v10) 28 5 v15) 11 (b.toInt.toNat) 0) 12 (b.toInt.toNat) (-1)) 13 (b.toInt.toNat) (-1)) 14 (b.toInt.toNat) (-1), h.2.2.1, h.2.2.2)) rfl ?_
  refine qm_Ru.go 0 (c' := (64, [.ref 28, .int b, .int y1, .int r1], [], (h.1, qm_up (qm_up (qm_up (qm_up (qm_up (qm_up (qm_up (qm_up h.2.1 36 (v4.toInt.toNat) (-1)) 28 6 v8) 37 (y1.toInt.toNat) v10) 28 5 v15) 11 (b.toInt.toNat) 0) 12 (b.toInt.toNat) (-1)) 13 (b.toInt.toNat) (-1)) 14 (b.toInt.toNat) (-1), h.2.2.1, h.2.2.2))) rfl ?_
  refine qm_Ru.rt (v := none) (h' := (h.1, qm_up (qm_up (qm_up (qm_up (qm_up (qm_up (qm_up (qm_up h.2.1 36 (v4.toInt.toNat) (-1)) 28 6 v8) 37 (y1.toInt.toNat) v10) 28 5 v15) 11 (b.toInt.toNat) 0) 12 (b.toInt.toNat) (-1)) 13 (b.toInt.toNat) (-1)) 14 (b.toInt.toNat) (-1), h.2.2.1, h.2.2.2)) rfl ?_
  exact k v4 v8 v10 v15 (by omega) (by rw [q_v7, q_v5]; rw [q_v6]; exact q_v8.symm) (by rw [q_v9, q_v5]; rw [q_v6]; exact q_v10.symm) ⟨v13, by omega, (by rw [q_v11, q_v5]; rw [q_v6]; rw [q_v14]; exact q_v15.symm)⟩
theorem hs_ovw4 {L : Nat} {xs : Nat → Int32} {d : Nat} {Z : Option Value → qm_H → Prop} {h : qm_H} (h6 : 6 ≤ L) (hH : hk_H h) (hB : hk_B h.2.1) (hV : v_C h.2.1) {b x : Int32} {n : Int} (b_b : (0 : Int) ≤ b.toInt ∧ b.toInt ≤ 29) (b_x : (0 : Int) ≤ x.toInt ∧ x.toInt ≤ 79) (hn6 : (h.2.1 6 0).toInt = n) (hn : b.toInt < n) (h11 : (h.2.1 11 (b.toInt.toNat)).toInt = 0) (hf : pI h.2.1 36 x.toInt.toNat = -1) (hb0 : x.toInt % 2 = 1 → 0 ≤ pI h.2.1 36 (x.toInt - 1).toNat) (h12 : (h.2.1 12 (b.toInt.toNat)).toInt = -1) (h13 : (h.2.1 13 (b.toInt.toNat)).toInt = -1) (h14 : (h.2.1 14 (b.toInt.toNat)).toInt = -1) (k : ∀ (v : Int32) (J : Nat → Nat → Int64), Z (some (.int v)) (h.1, h.2.1, J, h.2.2.2)) : qm_Ru (some (L, xs)) (d + 30) cd_234 (qm_ent 4 [.ref 38, .int b, .int x] h) Z := by
  show qm_Ru (some (L, xs)) (d + 30) cd_234 (0, [.ref 38, .int b, .int x, .float 0], [], h) Z
  refine qm_Ru.go 1 (c' := (1, [.ref 38, .int b, .int x, .float 0], [.ref 38], h)) rfl ?_
  refine hk_getr rfl (hH.1 38 (10, 5) rfl) rfl (hH.2 38 1 (some 28) rfl) ?_
  refine qm_Ru.go 2 (c' := (6, [.ref 38, .int b, .int x, .float 0], [.int x, .int b, .ref 28], h)) rfl ?_
  refine qm_Ru.call (j := 118) (as := [.int x]) (c' := (9, [.ref 38, .int b, .int x, .float 0], [.int b, .ref 28], h)) rfl rfl rfl ?_
  refine qm_Ru.go 3 (c' := (4, [.int x], [.int (x / 16)], h)) rfl ?_
  obtain ⟨v1, q_v1, e_v1⟩ := hk_div (x := x) (y := 16) (a := x.toInt) (b := 16) rfl rfl (by omega) (by omega)
  rw [q_v1]
  refine qm_Ru.rt (v := (some (.int v1))) (h' := h) rfl ?_
  refine qm_Ru.go 1 (c' := (10, [.ref 38, .int b, .int x, .float 0], [.int x, .int v1, .int b, .ref 28], h)) rfl ?_
  refine qm_Ru.call (j := 119) (as := [.int x]) (c' := (13, [.ref 38, .int b, .int x, .float 0], [.int v1, .int b, .ref 28], h)) rfl rfl rfl ?_
  refine qm_Ru.go 3 (c' := (3, [.int x], [.int (x / 4)], h)) rfl ?_
  obtain ⟨v2, q_v2, e_v2⟩ := hk_div (x := x) (y := 4) (a := x.toInt) (b := 4) rfl rfl (by omega) (by omega)
  rw [q_v2]
  refine qm_Ru.go 2 (c' := (5, [.int x], [.int (v2 - v2 / 4 * 4)], h)) rfl ?_
  obtain ⟨v3, q_v3, e_v3⟩ := hk_rem (x := v2) (y := 4) (a := v2.toInt) (b := 4) rfl rfl (by omega) (by omega)
  rw [q_v3]
  refine qm_Ru.rt (v := (some (.int v3))) (h' := h) rfl ?_
  refine qm_Ru.go 1 (c' := (14, [.ref 38, .int b, .int x, .float 0], [.int x, .int v3, .int v1, .int b, .ref 28], h)) rfl ?_
  refine qm_Ru.call (j := 120) (as := [.int x]) (c' := (17, [.ref 38, .int b, .int x, .float 0], [.int v3, .int v1, .int b, .ref 28], h)) rfl rfl rfl ?_
  refine qm_Ru.go 3 (c' := (3, [.int x], [.int (x - x / 4 * 4)], h)) rfl ?_
  obtain ⟨v4, q_v4, e_v4⟩ := hk_rem (x := x) (y := 4) (a := x.toInt) (b := 4) rfl rfl (by omega) (by omega)
  rw [q_v4]
  refine qm_Ru.rt (v := (some (.int v4))) (h' := h) rfl ?_
  refine qm_Ru.go 0 (c' := (17, [.ref 38, .int b, .int x, .float 0], [.int v4, .int v3, .int v1, .int b, .ref 28], h)) rfl ?_
  refine hk_inv (o := 28) (r := []) (as := [.ref 28, .int b, .int v1, .int v3, .int v4]) rfl rfl (hH.1 28 (9, 8) rfl) rfl rfl rfl rfl (hm_sput4 (h := h) hH (b := b) (y := v1) (r := v3) (t := v4) (by omega) (by omega) (by omega) (by omega) (fun v5 v6 v7 v8 e_v5 z96 z97 z95 => ?_))
  obtain ⟨z9c, z9n, z95⟩ := z95
  refine qm_Ru.go 1 (c' := (21, [.ref 38, .int b, .int x, .float 0], [.ref 38], (h.1, qm_up (qm_up (qm_up (qm_up (qm_up (qm_up (qm_up (qm_up h.2.1 36 (v5.toInt.toNat) b) 28 6 v6) 37 (v1.toInt.toNat) v7) 28 5 v8) 11 (b.toInt.toNat) 1) 12 (b.toInt.toNat) v1) 13 (b.toInt.toNat) v3) 14 (b.toInt.toNat) v4, h.2.2.1, h.2.2.2))) rfl ?_
  refine hk_getr rfl (hH.1 38 (10, 5) rfl) rfl (hH.2 38 1 (some 28) rfl) ?_
  refine qm_Ru.go 0 (c' := (24, [.ref 38, .int b, .int x, .float 0], [.ref 28], (h.1, qm_up (qm_up (qm_up (qm_up (qm_up (qm_up (qm_up (qm_up h.2.1 36 (v5.toInt.toNat) b) 28 6 v6) 37 (v1.toInt.toNat) v7) 28 5 v8) 11 (b.toInt.toNat) 1) 12 (b.toInt.toNat) v1) 13 (b.toInt.toNat) v3) 14 (b.toInt.toNat) v4, h.2.2.1, h.2.2.2))) rfl ?_
  refine hk_inv (o := 28) (r := []) (as := [.ref 28]) rfl rfl (hH.1 28 (9, 8) rfl) rfl rfl rfl rfl (hs_aover (h := (h.1, qm_up (qm_up (qm_up (qm_up (qm_up (qm_up (qm_up (qm_up h.2.1 36 (v5.toInt.toNat) b) 28 6 v6) 37 (v1.toInt.toNat) v7) 28 5 v8) 11 (b.toInt.toNat) 1) 12 (b.toInt.toNat) v1) 13 (b.toInt.toNat) v3) 14 (b.toInt.toNat) v4, h.2.2.1, h.2.2.2)) h6 hH (hb_up (o := 14) (k := b.toInt.toNat) (x := v4) (hb_up (o := 13) (k := b.toInt.toNat) (x := v3) (hb_up (o := 12) (k := b.toInt.toNat) (x := v1) (hb_up (o := 11) (k := b.toInt.toNat) (x := 1) (hb_up (o := 28) (k := 5) (x := v8) (hb_up (o := 37) (k := v1.toInt.toNat) (x := v7) (hb_up (o := 28) (k := 6) (x := v6) (hb_up (o := 36) (k := v5.toInt.toNat) (x := b) hB ⟨by show (-1 : Int) ≤ b.toInt; omega, by show b.toInt ≤ (29 : Int); omega⟩) (qa_in_full _)) (qa_in_full _)) (qa_in_full _)) ⟨(show (0 : Int) ≤ 1 from by decide), (show (1 : Int) ≤ 2 from by decide)⟩) ⟨by show (-1 : Int) ≤ v1.toInt; omega, by show v1.toInt ≤ (4 : Int); omega⟩) ⟨by show (-1 : Int) ≤ v3.toInt; omega, by show v3.toInt ≤ (3 : Int); omega⟩) ⟨by show (-1 : Int) ≤ v4.toInt; omega, by show v4.toInt ≤ (3 : Int); omega⟩) (v_C_ru ⟨⟨(mC_put (I := h.2.1) (I' := qm_up (qm_up (qm_up (qm_up (qm_up (qm_up (qm_up (qm_up h.2.1 36 (v5.toInt.toNat) b) 28 6 v6) 37 (v1.toInt.toNat) v7) 28 5 v8) 11 (b.toInt.toNat) 1) 12 (b.toInt.toNat) v1) 13 (b.toInt.toNat) v3) 14 (b.toInt.toNat) v4) hV.1.1 ((pI_sk rfl).trans ((pI_sk rfl).trans ((pI_sk rfl).trans (pI_up.trans (congrArg (fun f => fu_up f b.toInt.toNat (Int32.toInt 1)) ((pI_sk rfl).trans ((pI_sk rfl).trans ((pI_sk rfl).trans ((pI_sk rfl).trans rfl))))))))) ((pI_sk rfl).trans ((pI_sk rfl).trans (pI_up.trans (congrArg (fun f => fu_up f b.toInt.toNat (Int32.toInt v1)) ((pI_sk rfl).trans ((pI_sk rfl).trans ((pI_sk rfl).trans ((pI_sk rfl).trans ((pI_sk rfl).trans rfl))))))))) ((pI_sk rfl).trans (pI_up.trans (congrArg (fun f => fu_up f b.toInt.toNat (Int32.toInt v3)) ((pI_sk rfl).trans ((pI_sk rfl).trans ((pI_sk rfl).trans ((pI_sk rfl).trans ((pI_sk rfl).trans ((pI_sk rfl).trans rfl))))))))) (pI_up.trans (congrArg (fun f => fu_up f b.toInt.toNat (Int32.toInt v4)) ((pI_sk rfl).trans ((pI_sk rfl).trans ((pI_sk rfl).trans ((pI_sk rfl).trans ((pI_sk rfl).trans ((pI_sk rfl).trans ((pI_sk rfl).trans rfl))))))))) ((pI_sk rfl).trans ((pI_sk rfl).trans ((pI_sk rfl).trans ((pI_sk rfl).trans ((pI_sk rfl).trans ((pI_sk rfl).trans ((pI_sk rfl).trans (pI_up.trans rfl)))))))) ((pI_sk rfl).trans ((pI_sk rfl).trans ((pI_sk rfl).trans ((pI_sk rfl).trans ((pI_sk rfl).trans ((pI_sk rfl).trans ((pI_sk rfl).trans ((pI_sk rfl).trans rfl)))))))) ((pI_sk rfl).trans ((pI_sk rfl).trans ((pI_sk rfl).trans ((pI_sk rfl).trans ((pI_sk rfl).trans ((pI_sk rfl).trans ((pI_sk rfl).trans ((pI_sk rfl).trans rfl)))))))) (congrArg Int32.toInt ((hk_ot rfl).trans ((hk_ot rfl).trans ((hk_ot rfl).trans ((hk_ot rfl).trans ((hk_ot rfl).trans ((hk_ot rfl).trans ((hk_ot rfl).trans ((hk_ot rfl).trans rfl))))))))) h11 hn6 rfl (by omega) (by omega) (by omega) (by omega) (by omega) (by omega)), (mB_put (I := h.2.1) (I' := qm_up (qm_up (qm_up (qm_up (qm_up (qm_up (qm_up (qm_up h.2.1 36 (v5.toInt.toNat) b) 28 6 v6) 37 (v1.toInt.toNat) v7) 28 5 v8) 11 (b.toInt.toNat) 1) 12 (b.toInt.toNat) v1) 13 (b.toInt.toNat) v3) 14 (b.toInt.toNat) v4) (y := v1.toInt) (r := v3.toInt) (t := v4.toInt) hV.1.2 ((pI_sk rfl).trans ((pI_sk rfl).trans ((pI_sk rfl).trans ((pI_sk rfl).trans ((pI_sk rfl).trans ((pI_sk rfl).trans ((pI_sk rfl).trans (pI_up.trans rfl)))))))) (by omega) (by omega) (fun c => by have := hb0 (by omega); rw [show (x.toInt - 1).toNat = (16 * v1.toInt + 4 * v3.toInt + v4.toInt - 1).toNat from by omega] at this; exact this))⟩, hV.2⟩) (by omega) (fun v10 I11 J12 c_v10 _ e_I11 => ?_))
  have e_I11 : I11 = qm_up (qm_up (qm_up (qm_up (qm_up (qm_up (qm_up (qm_up h.2.1 36 (v5.toInt.toNat) b) 28 6 v6) 37 (v1.toInt.toNat) v7) 28 5 v8) 11 (b.toInt.toNat) 1) 12 (b.toInt.toNat) v1) 13 (b.toInt.toNat) v3) 14 (b.toInt.toNat) v4 := funext fun o => funext fun i => e_I11 o rfl i
  subst e_I11
  refine qm_Ru.go 2 (c' := (29, [.ref 38, .int b, .int x, .int v10], [.ref 38], (h.1, qm_up (qm_up (qm_up (qm_up (qm_up (qm_up (qm_up (qm_up h.2.1 36 (v5.toInt.toNat) b) 28 6 v6) 37 (v1.toInt.toNat) v7) 28 5 v8) 11 (b.toInt.toNat) 1) 12 (b.toInt.toNat) v1) 13 (b.toInt.toNat) v3) 14 (b.toInt.toNat) v4, J12, h.2.2.2))) rfl ?_
  refine hk_getr rfl (hH.1 38 (10, 5) rfl) rfl (hH.2 38 1 (some 28) rfl) ?_
  refine qm_Ru.go 1 (c' := (33, [.ref 38, .int b, .int x, .int v10], [.int b, .ref 28], (h.1, qm_up (qm_up (qm_up (qm_up (qm_up (qm_up (qm_up (qm_up h.2.1 36 (v5.toInt.toNat) b) 28 6 v6) 37 (v1.toInt.toNat) v7) 28 5 v8) 11 (b.toInt.toNat) 1) 12 (b.toInt.toNat) v1) 13 (b.toInt.toNat) v3) 14 (b.toInt.toNat) v4, J12, h.2.2.2))) rfl ?_
  refine hk_inv (o := 28) (r := []) (as := [.ref 28, .int b]) rfl rfl (hH.1 28 (9, 8) rfl) rfl rfl rfl rfl (hm_rem4 (h := (h.1, qm_up (qm_up (qm_up (qm_up (qm_up (qm_up (qm_up (qm_up h.2.1 36 (v5.toInt.toNat) b) 28 6 v6) 37 (v1.toInt.toNat) v7) 28 5 v8) 11 (b.toInt.toNat) 1) 12 (b.toInt.toNat) v1) 13 (b.toInt.toNat) v3) 14 (b.toInt.toNat) v4, J12, h.2.2.2)) hH (b := b) (y1 := v1) (r1 := v3) (t1 := v4) (by omega) (show (qm_up (qm_up (qm_up (qm_up (qm_up (qm_up (qm_up (qm_up h.2.1 36 (v5.toInt.toNat) b) 28 6 v6) 37 (v1.toInt.toNat) v7) 28 5 v8) 11 (b.toInt.toNat) 1) 12 (b.toInt.toNat) v1) 13 (b.toInt.toNat) v3) 14 (b.toInt.toNat) v4) 12 (b.toInt.toNat) = _ from ((hk_ot rfl).trans ((hk_ot rfl).trans (hk_same)))) (by omega) (show (qm_up (qm_up (qm_up (qm_up (qm_up (qm_up (qm_up (qm_up h.2.1 36 (v5.toInt.toNat) b) 28 6 v6) 37 (v1.toInt.toNat) v7) 28 5 v8) 11 (b.toInt.toNat) 1) 12 (b.toInt.toNat) v1) 13 (b.toInt.toNat) v3) 14 (b.toInt.toNat) v4) 13 (b.toInt.toNat) = _ from ((hk_ot rfl).trans (hk_same))) (by omega) (show (qm_up (qm_up (qm_up (qm_up (qm_up (qm_up (qm_up (qm_up h.2.1 36 (v5.toInt.toNat) b) 28 6 v6) 37 (v1.toInt.toNat) v7) 28 5 v8) 11 (b.toInt.toNat) 1) 12 (b.toInt.toNat) v1) 13 (b.toInt.toNat) v3) 14 (b.toInt.toNat) v4) 14 (b.toInt.toNat) = _ from (hk_same)) (by omega) (fun v13 v14 v15 v16 e_v13 z176 z177 z175 => ?_))
  obtain ⟨z17c, z17n, z175⟩ := z175
  refine qm_Ru.go 1 (c' := (37, [.ref 38, .int b, .int x, .int v10], [.int v10], (h.1, qm_up (qm_up (qm_up (qm_up (qm_up (qm_up (qm_up (qm_up (qm_up (qm_up (qm_up (qm_up (qm_up (qm_up (qm_up (qm_up h.2.1 36 (v5.toInt.toNat) b) 28 6 v6) 37 (v1.toInt.toNat) v7) 28 5 v8) 11 (b.toInt.toNat) 1) 12 (b.toInt.toNat) v1) 13 (b.toInt.toNat) v3) 14 (b.toInt.toNat) v4) 36 (v13.toInt.toNat) (-1)) 28 6 v14) 37 (v1.toInt.toNat) v15) 28 5 v16) 11 (b.toInt.toNat) 0) 12 (b.toInt.toNat) (-1)) 13 (b.toInt.toNat) (-1)) 14 (b.toInt.toNat) (-1), J12, h.2.2.2))) rfl ?_
  refine qm_Ru.rt (v := (some (.int v10))) (h' := (h.1, qm_up (qm_up (qm_up (qm_up (qm_up (qm_up (qm_up (qm_up (qm_up (qm_up (qm_up (qm_up (qm_up (qm_up (qm_up (qm_up h.2.1 36 (v5.toInt.toNat) b) 28 6 v6) 37 (v1.toInt.toNat) v7) 28 5 v8) 11 (b.toInt.toNat) 1) 12 (b.toInt.toNat) v1) 13 (b.toInt.toNat) v3) 14 (b.toInt.toNat) v4) 36 (v13.toInt.toNat) (-1)) 28 6 v14) 37 (v1.toInt.toNat) v15) 28 5 v16) 11 (b.toInt.toNat) 0) 12 (b.toInt.toNat) (-1)) 13 (b.toInt.toNat) (-1)) 14 (b.toInt.toNat) (-1), J12, h.2.2.2)) rfl ?_
  have r186 : v14 = (h.2.1) 28 6 := ar1 z176 (show (qm_up (qm_up (qm_up (qm_up (qm_up (qm_up (qm_up (qm_up h.2.1 36 (v5.toInt.toNat) b) 28 6 v6) 37 (v1.toInt.toNat) v7) 28 5 v8) 11 (b.toInt.toNat) 1) 12 (b.toInt.toNat) v1) 13 (b.toInt.toNat) v3) 14 (b.toInt.toNat) v4) 28 (6) = v6 from ((hk_ot rfl).trans ((hk_ot rfl).trans ((hk_ot rfl).trans ((hk_ot rfl).trans ((hk_neq (by decide)).trans ((hk_ot rfl).trans (hk_same)))))))) (show (qm_up (qm_up (qm_up (qm_up (qm_up (qm_up (qm_up (qm_up h.2.1 36 (v5.toInt.toNat) b) 28 6 v6) 37 (v1.toInt.toNat) v7) 28 5 v8) 11 (b.toInt.toNat) 1) 12 (b.toInt.toNat) v1) 13 (b.toInt.toNat) v3) 14 (b.toInt.toNat) v4) 7 (b.toInt.toNat) = (h.2.1) 7 (b.toInt.toNat) from ((hk_ot rfl).trans ((hk_ot rfl).trans ((hk_ot rfl).trans ((hk_ot rfl).trans ((hk_ot rfl).trans ((hk_ot rfl).trans ((hk_ot rfl).trans ((hk_ot rfl).trans rfl))))))))) z96
  have r187 : v15 = (h.2.1) 37 (v1.toInt.toNat) := ar1 z177 (show (qm_up (qm_up (qm_up (qm_up (qm_up (qm_up (qm_up (qm_up h.2.1 36 (v5.toInt.toNat) b) 28 6 v6) 37 (v1.toInt.toNat) v7) 28 5 v8) 11 (b.toInt.toNat) 1) 12 (b.toInt.toNat) v1) 13 (b.toInt.toNat) v3) 14 (b.toInt.toNat) v4) 37 (v1.toInt.toNat) = v7 from ((hk_ot rfl).trans ((hk_ot rfl).trans ((hk_ot rfl).trans ((hk_ot rfl).trans ((hk_ot rfl).trans (hk_same))))))) (show (qm_up (qm_up (qm_up (qm_up (qm_up (qm_up (qm_up (qm_up h.2.1 36 (v5.toInt.toNat) b) 28 6 v6) 37 (v1.toInt.toNat) v7) 28 5 v8) 11 (b.toInt.toNat) 1) 12 (b.toInt.toNat) v1) 13 (b.toInt.toNat) v3) 14 (b.toInt.toNat) v4) 7 (b.toInt.toNat) = (h.2.1) 7 (b.toInt.toNat) from ((hk_ot rfl).trans ((hk_ot rfl).trans ((hk_ot rfl).trans ((hk_ot rfl).trans ((hk_ot rfl).trans ((hk_ot rfl).trans ((hk_ot rfl).trans ((hk_ot rfl).trans rfl))))))))) z97
  have r185 : v16 = (h.2.1) 28 5 := ar2 z175 z17n (show (qm_up (qm_up (qm_up (qm_up (qm_up (qm_up (qm_up (qm_up h.2.1 36 (v5.toInt.toNat) b) 28 6 v6) 37 (v1.toInt.toNat) v7) 28 5 v8) 11 (b.toInt.toNat) 1) 12 (b.toInt.toNat) v1) 13 (b.toInt.toNat) v3) 14 (b.toInt.toNat) v4) 28 (5) = v8 from ((hk_ot rfl).trans ((hk_ot rfl).trans ((hk_ot rfl).trans ((hk_ot rfl).trans (hk_same)))))) (show (qm_up (qm_up (qm_up (qm_up (qm_up (qm_up (qm_up (qm_up h.2.1 36 (v5.toInt.toNat) b) 28 6 v6) 37 (v1.toInt.toNat) v7) 28 5 v8) 11 (b.toInt.toNat) 1) 12 (b.toInt.toNat) v1) 13 (b.toInt.toNat) v3) 14 (b.toInt.toNat) v4) 7 (b.toInt.toNat) = (h.2.1) 7 (b.toInt.toNat) from ((hk_ot rfl).trans ((hk_ot rfl).trans ((hk_ot rfl).trans ((hk_ot rfl).trans ((hk_ot rfl).trans ((hk_ot rfl).trans ((hk_ot rfl).trans ((hk_ot rfl).trans rfl))))))))) z95 (by omega)
  have r1811 : ∀ i, (qm_up (qm_up (qm_up (qm_up (qm_up (qm_up (qm_up (qm_up (qm_up (qm_up (qm_up (qm_up (qm_up (qm_up (qm_up (qm_up h.2.1 36 (v5.toInt.toNat) b) 28 6 v6) 37 (v1.toInt.toNat) v7) 28 5 v8) 11 (b.toInt.toNat) 1) 12 (b.toInt.toNat) v1) 13 (b.toInt.toNat) v3) 14 (b.toInt.toNat) v4) 36 (v13.toInt.toNat) (-1)) 28 6 v14) 37 (v1.toInt.toNat) v15) 28 5 v16) 11 (b.toInt.toNat) 0) 12 (b.toInt.toNat) (-1)) 13 (b.toInt.toNat) (-1)) 14 (b.toInt.toNat) (-1)) 11 i = (h.2.1) 11 i := fun i => by
    by_cases c : i = b.toInt.toNat
    · subst c
      exact hk_i0 (congrArg Int32.toInt ((hk_ot rfl).trans ((hk_ot rfl).trans ((hk_ot rfl).trans (hk_same))))) h11
    · exact ((hk_ot rfl).trans ((hk_ot rfl).trans ((hk_ot rfl).trans ((hk_neq c).trans ((hk_ot rfl).trans ((hk_ot rfl).trans ((hk_ot rfl).trans ((hk_ot rfl).trans ((hk_ot rfl).trans ((hk_ot rfl).trans ((hk_ot rfl).trans ((hk_neq c).trans ((hk_ot rfl).trans ((hk_ot rfl).trans ((hk_ot rfl).trans ((hk_ot rfl).trans rfl))))))))))))))))
  have r1812 : ∀ i, (qm_up (qm_up (qm_up (qm_up (qm_up (qm_up (qm_up (qm_up (qm_up (qm_up (qm_up (qm_up (qm_up (qm_up (qm_up (qm_up h.2.1 36 (v5.toInt.toNat) b) 28 6 v6) 37 (v1.toInt.toNat) v7) 28 5 v8) 11 (b.toInt.toNat) 1) 12 (b.toInt.toNat) v1) 13 (b.toInt.toNat) v3) 14 (b.toInt.toNat) v4) 36 (v13.toInt.toNat) (-1)) 28 6 v14) 37 (v1.toInt.toNat) v15) 28 5 v16) 11 (b.toInt.toNat) 0) 12 (b.toInt.toNat) (-1)) 13 (b.toInt.toNat) (-1)) 14 (b.toInt.toNat) (-1)) 12 i = (h.2.1) 12 i := fun i => by
    by_cases c : i = b.toInt.toNat
    · subst c
      exact hk_i1 (congrArg Int32.toInt ((hk_ot rfl).trans ((hk_ot rfl).trans (hk_same)))) h12
    · exact ((hk_ot rfl).trans ((hk_ot rfl).trans ((hk_neq c).trans ((hk_ot rfl).trans ((hk_ot rfl).trans ((hk_ot rfl).trans ((hk_ot rfl).trans ((hk_ot rfl).trans ((hk_ot rfl).trans ((hk_ot rfl).trans ((hk_neq c).trans ((hk_ot rfl).trans ((hk_ot rfl).trans ((hk_ot rfl).trans ((hk_ot rfl).trans ((hk_ot rfl).trans rfl))))))))))))))))
  have r1813 : ∀ i, (qm_up (qm_up (qm_up (qm_up (qm_up (qm_up (qm_up (qm_up (qm_up (qm_up (qm_up (qm_up (qm_up (qm_up (qm_up (qm_up h.2.1 36 (v5.toInt.toNat) b) 28 6 v6) 37 (v1.toInt.toNat) v7) 28 5 v8) 11 (b.toInt.toNat) 1) 12 (b.toInt.toNat) v1) 13 (b.toInt.toNat) v3) 14 (b.toInt.toNat) v4) 36 (v13.toInt.toNat) (-1)) 28 6 v14) 37 (v1.toInt.toNat) v15) 28 5 v16) 11 (b.toInt.toNat) 0) 12 (b.toInt.toNat) (-1)) 13 (b.toInt.toNat) (-1)) 14 (b.toInt.toNat) (-1)) 13 i = (h.2.1) 13 i := fun i => by
    by_cases c : i = b.toInt.toNat
    · subst c
      exact hk_i1 (congrArg Int32.toInt ((hk_ot rfl).trans (hk_same))) h13
    · exact ((hk_ot rfl).trans ((hk_neq c).trans ((hk_ot rfl).trans ((hk_ot rfl).trans ((hk_ot rfl).trans ((hk_ot rfl).trans ((hk_ot rfl).trans ((hk_ot rfl).trans ((hk_ot rfl).trans ((hk_neq c).trans ((hk_ot rfl).trans ((hk_ot rfl).trans ((hk_ot rfl).trans ((hk_ot rfl).trans ((hk_ot rfl).trans ((hk_ot rfl).trans rfl))))))))))))))))
  have r1814 : ∀ i, (qm_up (qm_up (qm_up (qm_up (qm_up (qm_up (qm_up (qm_up (qm_up (qm_up (qm_up (qm_up (qm_up (qm_up (qm_up (qm_up h.2.1 36 (v5.toInt.toNat) b) 28 6 v6) 37 (v1.toInt.toNat) v7) 28 5 v8) 11 (b.toInt.toNat) 1) 12 (b.toInt.toNat) v1) 13 (b.toInt.toNat) v3) 14 (b.toInt.toNat) v4) 36 (v13.toInt.toNat) (-1)) 28 6 v14) 37 (v1.toInt.toNat) v15) 28 5 v16) 11 (b.toInt.toNat) 0) 12 (b.toInt.toNat) (-1)) 13 (b.toInt.toNat) (-1)) 14 (b.toInt.toNat) (-1)) 14 i = (h.2.1) 14 i := fun i => by
    by_cases c : i = b.toInt.toNat
    · subst c
      exact hk_i1 (congrArg Int32.toInt (hk_same)) h14
    · exact ((hk_neq c).trans ((hk_ot rfl).trans ((hk_ot rfl).trans ((hk_ot rfl).trans ((hk_ot rfl).trans ((hk_ot rfl).trans ((hk_ot rfl).trans ((hk_ot rfl).trans ((hk_neq c).trans ((hk_ot rfl).trans ((hk_ot rfl).trans ((hk_ot rfl).trans ((hk_ot rfl).trans ((hk_ot rfl).trans ((hk_ot rfl).trans ((hk_ot rfl).trans rfl))))))))))))))))
  have r1828 : ∀ i, (qm_up (qm_up (qm_up (qm_up (qm_up (qm_up (qm_up (qm_up (qm_up (qm_up (qm_up (qm_up (qm_up (qm_up (qm_up (qm_up h.2.1 36 (v5.toInt.toNat) b) 28 6 v6) 37 (v1.toInt.toNat) v7) 28 5 v8) 11 (b.toInt.toNat) 1) 12 (b.toInt.toNat) v1) 13 (b.toInt.toNat) v3) 14 (b.toInt.toNat) v4) 36 (v13.toInt.toNat) (-1)) 28 6 v14) 37 (v1.toInt.toNat) v15) 28 5 v16) 11 (b.toInt.toNat) 0) 12 (b.toInt.toNat) (-1)) 13 (b.toInt.toNat) (-1)) 14 (b.toInt.toNat) (-1)) 28 i = (h.2.1) 28 i := fun i => by
    by_cases c5 : i = 5
    · subst c5
      exact (((hk_ot rfl).trans ((hk_ot rfl).trans ((hk_ot rfl).trans ((hk_ot rfl).trans (hk_same)))))).trans r185
    · by_cases c6 : i = 6
      · subst c6
        exact (((hk_ot rfl).trans ((hk_ot rfl).trans ((hk_ot rfl).trans ((hk_ot rfl).trans ((hk_neq (by decide)).trans ((hk_ot rfl).trans (hk_same)))))))).trans r186
      · exact ((hk_ot rfl).trans ((hk_ot rfl).trans ((hk_ot rfl).trans ((hk_ot rfl).trans ((hk_neq c5).trans ((hk_ot rfl).trans ((hk_neq c6).trans ((hk_ot rfl).trans ((hk_ot rfl).trans ((hk_ot rfl).trans ((hk_ot rfl).trans ((hk_ot rfl).trans ((hk_neq c5).trans ((hk_ot rfl).trans ((hk_neq c6).trans ((hk_ot rfl).trans rfl))))))))))))))))
  have r1837 : ∀ i, (qm_up (qm_up (qm_up (qm_up (qm_up (qm_up (qm_up (qm_up (qm_up (qm_up (qm_up (qm_up (qm_up (qm_up (qm_up (qm_up h.2.1 36 (v5.toInt.toNat) b) 28 6 v6) 37 (v1.toInt.toNat) v7) 28 5 v8) 11 (b.toInt.toNat) 1) 12 (b.toInt.toNat) v1) 13 (b.toInt.toNat) v3) 14 (b.toInt.toNat) v4) 36 (v13.toInt.toNat) (-1)) 28 6 v14) 37 (v1.toInt.toNat) v15) 28 5 v16) 11 (b.toInt.toNat) 0) 12 (b.toInt.toNat) (-1)) 13 (b.toInt.toNat) (-1)) 14 (b.toInt.toNat) (-1)) 37 i = (h.2.1) 37 i := fun i => by
    by_cases c : i = v1.toInt.toNat
    · subst c
      exact (((hk_ot rfl).trans ((hk_ot rfl).trans ((hk_ot rfl).trans ((hk_ot rfl).trans ((hk_ot rfl).trans (hk_same))))))).trans r187
    · exact ((hk_ot rfl).trans ((hk_ot rfl).trans ((hk_ot rfl).trans ((hk_ot rfl).trans ((hk_ot rfl).trans ((hk_neq c).trans ((hk_ot rfl).trans ((hk_ot rfl).trans ((hk_ot rfl).trans ((hk_ot rfl).trans ((hk_ot rfl).trans ((hk_ot rfl).trans ((hk_ot rfl).trans ((hk_neq c).trans ((hk_ot rfl).trans ((hk_ot rfl).trans rfl))))))))))))))))
  have r1836 : ∀ i, (qm_up (qm_up (qm_up (qm_up (qm_up (qm_up (qm_up (qm_up (qm_up (qm_up (qm_up (qm_up (qm_up (qm_up (qm_up (qm_up h.2.1 36 (v5.toInt.toNat) b) 28 6 v6) 37 (v1.toInt.toNat) v7) 28 5 v8) 11 (b.toInt.toNat) 1) 12 (b.toInt.toNat) v1) 13 (b.toInt.toNat) v3) 14 (b.toInt.toNat) v4) 36 (v13.toInt.toNat) (-1)) 28 6 v14) 37 (v1.toInt.toNat) v15) 28 5 v16) 11 (b.toInt.toNat) 0) 12 (b.toInt.toNat) (-1)) 13 (b.toInt.toNat) (-1)) 14 (b.toInt.toNat) (-1)) 36 i = h.2.1 36 i := fun i => by
    by_cases c : i = v13.toInt.toNat
    · rw [c]
      exact hk_i1 (congrArg Int32.toInt ((hk_ot rfl).trans ((hk_ot rfl).trans ((hk_ot rfl).trans ((hk_ot rfl).trans ((hk_ot rfl).trans ((hk_ot rfl).trans ((hk_ot rfl).trans (hk_same))))))))) (by rw [show v13.toInt.toNat = x.toInt.toNat from by omega]; exact hf)
    · exact ((hk_ot rfl).trans ((hk_ot rfl).trans ((hk_ot rfl).trans ((hk_ot rfl).trans ((hk_ot rfl).trans ((hk_ot rfl).trans ((hk_ot rfl).trans ((hk_neq (by omega)).trans ((hk_ot rfl).trans ((hk_ot rfl).trans ((hk_ot rfl).trans ((hk_ot rfl).trans ((hk_ot rfl).trans ((hk_ot rfl).trans ((hk_ot rfl).trans ((hk_neq (by omega)).trans rfl))))))))))))))))
  have r18 : qm_up (qm_up (qm_up (qm_up (qm_up (qm_up (qm_up (qm_up (qm_up (qm_up (qm_up (qm_up (qm_up (qm_up (qm_up (qm_up h.2.1 36 (v5.toInt.toNat) b) 28 6 v6) 37 (v1.toInt.toNat) v7) 28 5 v8) 11 (b.toInt.toNat) 1) 12 (b.toInt.toNat) v1) 13 (b.toInt.toNat) v3) 14 (b.toInt.toNat) v4) 36 (v13.toInt.toNat) (-1)) 28 6 v14) 37 (v1.toInt.toNat) v15) 28 5 v16) 11 (b.toInt.toNat) 0) 12 (b.toInt.toNat) (-1)) 13 (b.toInt.toNat) (-1)) 14 (b.toInt.toNat) (-1) = h.2.1 := eq7 (I := h.2.1) (I' := qm_up (qm_up (qm_up (qm_up (qm_up (qm_up (qm_up (qm_up (qm_up (qm_up (qm_up (qm_up (qm_up (qm_up (qm_up (qm_up h.2.1 36 (v5.toInt.toNat) b) 28 6 v6) 37 (v1.toInt.toNat) v7) 28 5 v8) 11 (b.toInt.toNat) 1) 12 (b.toInt.toNat) v1) 13 (b.toInt.toNat) v3) 14 (b.toInt.toNat) v4) 36 (v13.toInt.toNat) (-1)) 28 6 v14) 37 (v1.toInt.toNat) v15) 28 5 v16) 11 (b.toInt.toNat) 0) 12 (b.toInt.toNat) (-1)) 13 (b.toInt.toNat) (-1)) 14 (b.toInt.toNat) (-1)) (fun o ho i => ((hk_mod ho rfl).trans ((hk_mod ho rfl).trans ((hk_mod ho rfl).trans ((hk_mod ho rfl).trans ((hk_mod ho rfl).trans ((hk_mod ho rfl).trans ((hk_mod ho rfl).trans ((hk_mod ho rfl).trans ((hk_mod ho rfl).trans ((hk_mod ho rfl).trans ((hk_mod ho rfl).trans ((hk_mod ho rfl).trans ((hk_mod ho rfl).trans ((hk_mod ho rfl).trans ((hk_mod ho rfl).trans ((hk_mod ho rfl).trans rfl))))))))))))))))) r1811 r1812 r1813 r1814 r1828 r1836 r1837
  exact (congrArg (fun I => Z (some (.int v10)) (h.1, I, J12, h.2.2.2)) r18).mpr (k v10 (J12))
theorem hl4_cbest29 {L : Nat} {xs : Nat → Int32} {d : Nat} {Z : Option Value → qm_H → Prop} {h : qm_H} (h6 : 6 ≤ L) (hH : hk_H h) (hB : hk_B h.2.1) (hT : h.2.2.2 0 9 = some 111 ∧ h.2.2.2 28 2 = some 29) (hW : wS h 29) {b : Int32} (b_b : (0 : Int) ≤ b.toInt ∧ b.toInt ≤ 29) {a11 : Int32} (q_a11 : h.2.1 11 (b.toInt.toNat) = a11) (f_a11 : a11.toInt = 0) {a12 : Int32} (q_a12 : h.2.1 12 (b.toInt.toNat) = a12) (f_a12 : a12.toInt = -1) {a13 : Int32} (q_a13 : h.2.1 13 (b.toInt.toNat) = a13) (f_a13 : a13.toInt = -1) {a14 : Int32} (q_a14 : h.2.1 14 (b.toInt.toNat) = a14) (f_a14 : a14.toInt = -1) (k : ∀ (v : Int32) (I : Nat → Nat → Int32) (J : Nat → Nat → Int64), hk_B I → v_C I → (∀ o, [34, 192, 193, 194, 195, 196, 197, 198, 199, 200, 201, 202, 203, 204, 205, 206, 207, 208, 209, 210, 211, 212, 213, 214, 215, 216, 217, 218, 219, 220, 221, 222, 223, 224, 225, 226, 227, 228, 229, 230, 231, 232, 233].contains o = false → ∀ i, I o i = h.2.1 o i) → Z (some (.int v)) (h.1, I, J, h.2.2.2)) : ∀ (m : Nat) (I : Nat → Nat → Int32) (J : Nat → Nat → Int64) (be : Int32) (ru : Int32) (ov : Int32) (q : Int32) (l6 l7 l8 l9 : Value), hk_B I → (∀ o, [34, 192, 193, 194, 195, 196, 197, 198, 199, 200, 201, 202, 203, 204, 205, 206, 207, 208, 209, 210, 211, 212, 213, 214, 215, 216, 217, 218, 219, 220, 221, 222, 223, 224, 225, 226, 227, 228, 229, 230, 231, 232, 233].contains o = false → ∀ i, I o i = h.2.1 o i) → (v_C I) → ((0 : Int) ≤ q.toInt ∧ q.toInt ≤ 20) → (20 - q.toInt).toNat = m → qm_Ru (some (L, xs)) (d + 100) cd_233 (13, [.ref 38, .int b, .int be, .int ru, .int ov, .int q, l6, l7, l8, l9], [], (h.1, I, J, h.2.2.2)) Z := by
  intro m
  induction m using Nat.strongRecOn with
  | ind m ih =>
    intro I J be ru ov q l6 l7 l8 l9 hBI e hVI hq hm
    refine qm_Ru.go 2 (c' := (16, [.ref 38, .int b, .int be, .int ru, .int ov, .int q, l6, l7, l8, l9], [.ref 38, .int q], (h.1, I, J, h.2.2.2))) rfl ?_
    refine hk_getr rfl (hH.1 38 (10, 5) rfl) rfl (hH.2 38 1 (some 28) rfl) ?_
    refine qm_Ru.go 0 (c' := (19, [.ref 38, .int b, .int be, .int ru, .int ov, .int q, l6, l7, l8, l9], [.ref 28, .int q], (h.1, I, J, h.2.2.2))) rfl ?_
    refine hk_getr rfl (hH.1 28 (9, 8) rfl) rfl hT.2 ?_
    refine qm_Ru.go 0 (c' := (22, [.ref 38, .int b, .int be, .int ru, .int ov, .int q, l6, l7, l8, l9], [.ref 29, .int q], (h.1, I, J, h.2.2.2))) rfl ?_
    obtain ⟨v1, q_v1⟩ : ∃ v_, h.2.1 29 0 = v_ := ⟨_, rfl⟩
    have b_v1 : (2 : Int) ≤ v1.toInt ∧ v1.toInt ≤ 5 := by rw [← q_v1]; exact hB 29 0
    refine hk_geti (v := v1) rfl (hH.1 29 (11, 16) rfl) rfl (show (I) 29 0 = _ from ((e 29 rfl 0).trans q_v1)) ?_
    refine qm_Ru.go 2 (c' := (27, [.ref 38, .int b, .int be, .int ru, .int ov, .int q, l6, l7, l8, l9], [.int (v1 * 4), .int q], (h.1, I, J, h.2.2.2))) rfl ?_
    obtain ⟨v2, q_v2, e_v2⟩ := hk_mul (x := v1) (y := 4) (a := v1.toInt) (b := 4) rfl rfl (by omega) (by omega)
    rw [q_v2]
    refine hk_cge (ix := q.toInt) (iy := v2.toInt) rfl rfl rfl (fun z3 => ?_) (fun z3 => ?_)
    · refine qm_Ru.go 1 (c' := (122, [.ref 38, .int b, .int be, .int ru, .int ov, .int q, l6, l7, l8, l9], [.int be], (h.1, I, J, h.2.2.2))) rfl ?_
      refine qm_Ru.rt (v := (some (.int be))) (h' := (h.1, I, J, h.2.2.2)) rfl ?_
      exact k be (I) (J) hBI hVI (fun o ho i => (e o ho i))
    · refine qm_Ru.go 1 (c' := (31, [.ref 38, .int b, .int be, .int ru, .int ov, .int q, l6, l7, l8, l9], [.ref 38], (h.1, I, J, h.2.2.2))) rfl ?_
      refine hk_getr rfl (hH.1 38 (10, 5) rfl) rfl (hH.2 38 1 (some 28) rfl) ?_
      refine qm_Ru.go 4 (c' := (39, [.ref 38, .int b, .int be, .int ru, .int ov, .int q, l6, l7, l8, l9], [.int (q / 4), .int b, .ref 28], (h.1, I, J, h.2.2.2))) rfl ?_
      obtain ⟨v4, q_v4, e_v4⟩ := hk_div (x := q) (y := 4) (a := q.toInt) (b := 4) rfl rfl (by omega) (by omega)
      rw [q_v4]
      refine qm_Ru.go 3 (c' := (43, [.ref 38, .int b, .int be, .int ru, .int ov, .int q, l6, l7, l8, l9], [.int (q - q / 4 * 4), .int v4, .int b, .ref 28], (h.1, I, J, h.2.2.2))) rfl ?_
      obtain ⟨v5, q_v5, e_v5⟩ := hk_rem (x := q) (y := 4) (a := q.toInt) (b := 4) rfl rfl (by omega) (by omega)
      rw [q_v5]
      refine hk_inv (o := 28) (r := []) (as := [.ref 28, .int b, .int v4, .int v5]) rfl rfl (hH.1 28 (9, 8) rfl) rfl rfl rfl rfl (hq_try29 (h := (h.1, I, J, h.2.2.2)) h6 hH hT hBI hVI (b := b) (y := v4) (r := v5) (fun v6 J7 c_v6 d_v6 => ?_) (fun t8 J9 f10 g11 => ?_))
      · refine qm_Ru.go 2 (c' := (50, [.ref 38, .int b, .int be, .int ru, .int ov, .int q, .int v6, l7, l8, l9], [.int v6], (h.1, I, J7, h.2.2.2))) rfl ?_
        refine hk_zge (ix := v6.toInt) rfl rfl (fun z12 => by exfalso; omega) (fun z12 => ?_)
        refine qm_Ru.go 2 (c' := (118, [.ref 38, .int b, .int be, .int ru, .int ov, .int (q + 1), .int v6, l7, l8, l9], [], (h.1, I, J7, h.2.2.2))) rfl ?_
        obtain ⟨v13, q_v13, e_v13⟩ := hk_add (x := q) (y := 1) (a := q.toInt) (b := 1) rfl rfl (by omega) (by omega)
        rw [q_v13]
        refine qm_Ru.go 1 (c' := (13, [.ref 38, .int b, .int be, .int ru, .int ov, .int v13, .int v6, l7, l8, l9], [], (h.1, I, J7, h.2.2.2))) rfl ?_
        exact ih _ (by omega) (I) (J7) be ru ov v13 (.int v6) l7 l8 l9 hBI (fun o ho i => (e o ho i)) hVI (by omega) rfl
      · obtain ⟨f10_y, f10_r, f10_t, f10_f, f10_b⟩ := f10
        obtain ⟨g11_b, g11_n, _⟩ := g11
        refine qm_Ru.go 2 (c' := (50, [.ref 38, .int b, .int be, .int ru, .int ov, .int q, .int t8, l7, l8, l9], [.int t8], (h.1, I, J9, h.2.2.2))) rfl ?_
        refine hk_zge (ix := t8.toInt) rfl rfl (fun z14 => ?_) (fun z14 => by exfalso; omega)
        refine qm_Ru.go 3 (c' := (60, [.ref 38, .int b, .int be, .int ru, .int ov, .int q, .int t8, l7, l8, l9], [.int (q * 4)], (h.1, I, J9, h.2.2.2))) rfl ?_
        obtain ⟨v15, q_v15, e_v15⟩ := hk_mul (x := q) (y := 4) (a := q.toInt) (b := 4) rfl rfl (by omega) (by omega)
        rw [q_v15]
        refine qm_Ru.go 2 (c' := (63, [.ref 38, .int b, .int be, .int ru, .int ov, .int q, .int t8, l7, l8, l9], [.int (v15 + t8)], (h.1, I, J9, h.2.2.2))) rfl ?_
        obtain ⟨v16, q_v16, e_v16⟩ := hk_add (x := v15) (y := t8) (a := v15.toInt) (b := t8.toInt) rfl rfl (by omega) (by omega)
        rw [q_v16]
        refine qm_Ru.go 4 (c' := (69, [.ref 38, .int b, .int be, .int ru, .int ov, .int q, .int t8, .int v16, l8, l9], [.int v16, .int b, .ref 38], (h.1, I, J9, h.2.2.2))) rfl ?_
        refine hk_inv (o := 38) (r := []) (as := [.ref 38, .int b, .int v16]) rfl rfl (hH.1 38 (10, 5) rfl) rfl rfl rfl rfl (hs_brk29 (h := (h.1, I, J9, h.2.2.2)) h6 hH hT hBI (v_C_ru hVI) ⟨by show (0 : Int) ≤ b.toInt; omega, by show b.toInt ≤ (29 : Int); omega⟩ ⟨by show (0 : Int) ≤ v16.toInt; omega, by show v16.toInt ≤ (79 : Int); omega⟩ (wS_same hW rfl rfl) (by omega) (fun v19 I17 J18 _ hB_I17 e_I17 => ?_))
        have hV_I17 : v_C I17 := v_C_cg9 hVI (fun o ho i => e_I17 o (q9_brk29 ho) i)
        refine qm_Ru.go 4 (c' := (78, [.ref 38, .int b, .int be, .int ru, .int ov, .int q, .int t8, .int v16, .int v19, l9], [.int v16, .int b, .ref 38], (h.1, I17, J18, h.2.2.2))) rfl ?_
        obtain ⟨v20, q_v20⟩ : ∃ v_, h.2.1 6 0 = v_ := ⟨_, rfl⟩
        have b_v20 : (0 : Int) ≤ v20.toInt ∧ v20.toInt ≤ 30 := by rw [← q_v20]; exact hB 6 0
        refine hk_inv (o := 38) (r := []) (as := [.ref 38, .int b, .int v16]) rfl rfl (hH.1 38 (10, 5) rfl) rfl rfl rfl rfl (hs_ovw4 (h := (h.1, I17, J18, h.2.2.2)) h6 hH hB_I17 hV_I17 (b := b) (x := v16) (n := pI I 6 0) (by omega) (by omega) (by show (I17 6 0).toInt = pI I 6 0; rw [e_I17 6 rfl 0]; exact rfl) g11_n ((congrArg Int32.toInt (show (I17) 11 (b.toInt.toNat) = _ from ((e_I17 11 rfl (b.toInt.toNat)).trans ((e 11 rfl (b.toInt.toNat)).trans q_a11)))).trans (by omega)) (by show (I17 36 v16.toInt.toNat).toInt = -1; rw [e_I17 36 rfl _]; exact (show pI I 36 v16.toInt.toNat = -1 from by rw [show v16.toInt.toNat = (16 * v4.toInt + 4 * v5.toInt + t8.toInt).toNat from by omega]; exact f10_f)) (fun c => by show 0 ≤ (I17 36 (v16.toInt - 1).toNat).toInt; rw [e_I17 36 rfl _]; exact (show 0 ≤ pI I 36 (v16.toInt - 1).toNat from by rw [show (v16.toInt - 1).toNat = (16 * v4.toInt + 4 * v5.toInt + t8.toInt - 1).toNat from by omega]; exact f10_b (by omega))) ((congrArg Int32.toInt (show (I17) 12 (b.toInt.toNat) = _ from ((e_I17 12 rfl (b.toInt.toNat)).trans ((e 12 rfl (b.toInt.toNat)).trans q_a12)))).trans (by omega)) ((congrArg Int32.toInt (show (I17) 13 (b.toInt.toNat) = _ from ((e_I17 13 rfl (b.toInt.toNat)).trans ((e 13 rfl (b.toInt.toNat)).trans q_a13)))).trans (by omega)) ((congrArg Int32.toInt (show (I17) 14 (b.toInt.toNat) = _ from ((e_I17 14 rfl (b.toInt.toNat)).trans ((e 14 rfl (b.toInt.toNat)).trans q_a14)))).trans (by omega)) (fun v22 J21 => ?_))
        refine qm_Ru.go 3 (c' := (86, [.ref 38, .int b, .int be, .int ru, .int ov, .int q, .int t8, .int v16, .int v19, .int v22], [.int ru, .int v19], (h.1, I17, J21, h.2.2.2))) rfl ?_
        refine hk_clt (ix := v19.toInt) (iy := ru.toInt) rfl rfl rfl (fun z23 => ?_) (fun z23 => ?_)
        · refine qm_Ru.go 5 (c' := (111, [.ref 38, .int b, .int be, .int v19, .int v22, .int q, .int t8, .int v16, .int v19, .int v22], [.int q], (h.1, I17, J21, h.2.2.2))) rfl ?_
          refine qm_Ru.call (j := 235) (as := [.int q]) (c' := (114, [.ref 38, .int b, .int be, .int v19, .int v22, .int q, .int t8, .int v16, .int v19, .int v22], [], (h.1, I17, J21, h.2.2.2))) rfl rfl rfl ?_
          refine qm_Ru.go 4 (c' := (5, [.int q], [.int (q / 4), .int 10], (h.1, I17, J21, h.2.2.2))) rfl ?_
          rw [q_v4]
          refine qm_Ru.go 1 (c' := (6, [.int q], [.int (10 * v4)], (h.1, I17, J21, h.2.2.2))) rfl ?_
          obtain ⟨v25, q_v25, e_v25⟩ := hk_mul (x := 10) (y := v4) (a := 10) (b := v4.toInt) rfl rfl (by omega) (by omega)
          rw [q_v25]
          refine qm_Ru.go 3 (c' := (9, [.int q], [.int (q - q / 4 * 4), .int v25], (h.1, I17, J21, h.2.2.2))) rfl ?_
          rw [q_v5]
          refine qm_Ru.go 1 (c' := (10, [.int q], [.int (v25 + v5)], (h.1, I17, J21, h.2.2.2))) rfl ?_
          obtain ⟨v27, q_v27, e_v27⟩ := hk_add (x := v25) (y := v5) (a := v25.toInt) (b := v5.toInt) rfl rfl (by omega) (by omega)
          rw [q_v27]
          refine qm_Ru.rt (v := (some (.int v27))) (h' := (h.1, I17, J21, h.2.2.2)) rfl ?_
          refine qm_Ru.go 2 (c' := (118, [.ref 38, .int b, .int v27, .int v19, .int v22, .int (q + 1), .int t8, .int v16, .int v19, .int v22], [], (h.1, I17, J21, h.2.2.2))) rfl ?_
          obtain ⟨v28, q_v28, e_v28⟩ := hk_add (x := q) (y := 1) (a := q.toInt) (b := 1) rfl rfl (by omega) (by omega)
          rw [q_v28]
          refine qm_Ru.go 1 (c' := (13, [.ref 38, .int b, .int v27, .int v19, .int v22, .int v28, .int t8, .int v16, .int v19, .int v22], [], (h.1, I17, J21, h.2.2.2))) rfl ?_
          exact ih _ (by omega) (I17) (J21) v27 v19 v22 v28 (.int t8) (.int v16) (.int v19) (.int v22) hB_I17 (fun o ho i => ((e_I17 o (hk_ms rfl ho) i).trans (e o ho i))) hV_I17 (by omega) rfl
        · refine qm_Ru.go 2 (c' := (92, [.ref 38, .int b, .int be, .int ru, .int ov, .int q, .int t8, .int v16, .int v19, .int v22], [.int ru, .int v19], (h.1, I17, J21, h.2.2.2))) rfl ?_
          refine hk_cne (ix := v19.toInt) (iy := ru.toInt) rfl rfl rfl (fun z29 => ?_) (fun z29 => ?_)
          · refine qm_Ru.go 1 (c' := (118, [.ref 38, .int b, .int be, .int ru, .int ov, .int (q + 1), .int t8, .int v16, .int v19, .int v22], [], (h.1, I17, J21, h.2.2.2))) rfl ?_
            obtain ⟨v30, q_v30, e_v30⟩ := hk_add (x := q) (y := 1) (a := q.toInt) (b := 1) rfl rfl (by omega) (by omega)
            rw [q_v30]
            refine qm_Ru.go 1 (c' := (13, [.ref 38, .int b, .int be, .int ru, .int ov, .int v30, .int t8, .int v16, .int v19, .int v22], [], (h.1, I17, J21, h.2.2.2))) rfl ?_
            exact ih _ (by omega) (I17) (J21) be ru ov v30 (.int t8) (.int v16) (.int v19) (.int v22) hB_I17 (fun o ho i => ((e_I17 o (hk_ms rfl ho) i).trans (e o ho i))) hV_I17 (by omega) rfl
          · refine qm_Ru.go 2 (c' := (99, [.ref 38, .int b, .int be, .int ru, .int ov, .int q, .int t8, .int v16, .int v19, .int v22], [.int ov, .int v22], (h.1, I17, J21, h.2.2.2))) rfl ?_
            refine hk_cge (ix := v22.toInt) (iy := ov.toInt) rfl rfl rfl (fun z31 => ?_) (fun z31 => ?_)
            · refine qm_Ru.go 1 (c' := (118, [.ref 38, .int b, .int be, .int ru, .int ov, .int (q + 1), .int t8, .int v16, .int v19, .int v22], [], (h.1, I17, J21, h.2.2.2))) rfl ?_
              obtain ⟨v32, q_v32, e_v32⟩ := hk_add (x := q) (y := 1) (a := q.toInt) (b := 1) rfl rfl (by omega) (by omega)
              rw [q_v32]
              refine qm_Ru.go 1 (c' := (13, [.ref 38, .int b, .int be, .int ru, .int ov, .int v32, .int t8, .int v16, .int v19, .int v22], [], (h.1, I17, J21, h.2.2.2))) rfl ?_
              exact ih _ (by omega) (I17) (J21) be ru ov v32 (.int t8) (.int v16) (.int v19) (.int v22) hB_I17 (fun o ho i => ((e_I17 o (hk_ms rfl ho) i).trans (e o ho i))) hV_I17 (by omega) rfl
            · refine qm_Ru.go 5 (c' := (111, [.ref 38, .int b, .int be, .int v19, .int v22, .int q, .int t8, .int v16, .int v19, .int v22], [.int q], (h.1, I17, J21, h.2.2.2))) rfl ?_
              refine qm_Ru.call (j := 235) (as := [.int q]) (c' := (114, [.ref 38, .int b, .int be, .int v19, .int v22, .int q, .int t8, .int v16, .int v19, .int v22], [], (h.1, I17, J21, h.2.2.2))) rfl rfl rfl ?_
              refine qm_Ru.go 4 (c' := (5, [.int q], [.int (q / 4), .int 10], (h.1, I17, J21, h.2.2.2))) rfl ?_
              rw [q_v4]
              refine qm_Ru.go 1 (c' := (6, [.int q], [.int (10 * v4)], (h.1, I17, J21, h.2.2.2))) rfl ?_
              obtain ⟨v34, q_v34, e_v34⟩ := hk_mul (x := 10) (y := v4) (a := 10) (b := v4.toInt) rfl rfl (by omega) (by omega)
              rw [q_v34]
              refine qm_Ru.go 3 (c' := (9, [.int q], [.int (q - q / 4 * 4), .int v34], (h.1, I17, J21, h.2.2.2))) rfl ?_
              rw [q_v5]
              refine qm_Ru.go 1 (c' := (10, [.int q], [.int (v34 + v5)], (h.1, I17, J21, h.2.2.2))) rfl ?_
              obtain ⟨v36, q_v36, e_v36⟩ := hk_add (x := v34) (y := v5) (a := v34.toInt) (b := v5.toInt) rfl rfl (by omega) (by omega)
              rw [q_v36]
              refine qm_Ru.rt (v := (some (.int v36))) (h' := (h.1, I17, J21, h.2.2.2)) rfl ?_
              refine qm_Ru.go 2 (c' := (118, [.ref 38, .int b, .int v36, .int v19, .int v22, .int (q + 1), .int t8, .int v16, .int v19, .int v22], [], (h.1, I17, J21, h.2.2.2))) rfl ?_
              obtain ⟨v37, q_v37, e_v37⟩ := hk_add (x := q) (y := 1) (a := q.toInt) (b := 1) rfl rfl (by omega) (by omega)
              rw [q_v37]
              refine qm_Ru.go 1 (c' := (13, [.ref 38, .int b, .int v36, .int v19, .int v22, .int v37, .int t8, .int v16, .int v19, .int v22], [], (h.1, I17, J21, h.2.2.2))) rfl ?_
              exact ih _ (by omega) (I17) (J21) v36 v19 v22 v37 (.int t8) (.int v16) (.int v19) (.int v22) hB_I17 (fun o ho i => ((e_I17 o (hk_ms rfl ho) i).trans (e o ho i))) hV_I17 (by omega) rfl
theorem hs4_cbest29 {L : Nat} {xs : Nat → Int32} {d : Nat} {Z : Option Value → qm_H → Prop} {h : qm_H} (h6 : 6 ≤ L) (hH : hk_H h) (hB : hk_B h.2.1) (hT : h.2.2.2 0 9 = some 111 ∧ h.2.2.2 28 2 = some 29) (hW : wS h 29) {b : Int32} (b_b : (0 : Int) ≤ b.toInt ∧ b.toInt ≤ 29) {a11 : Int32} (q_a11 : h.2.1 11 (b.toInt.toNat) = a11) (f_a11 : a11.toInt = 0) {a12 : Int32} (q_a12 : h.2.1 12 (b.toInt.toNat) = a12) (f_a12 : a12.toInt = -1) {a13 : Int32} (q_a13 : h.2.1 13 (b.toInt.toNat) = a13) (f_a13 : a13.toInt = -1) {a14 : Int32} (q_a14 : h.2.1 14 (b.toInt.toNat) = a14) (f_a14 : a14.toInt = -1) (hV : v_C h.2.1) (k : ∀ (v : Int32) (I : Nat → Nat → Int32) (J : Nat → Nat → Int64), hk_B I → v_C I → (∀ o, [34, 192, 193, 194, 195, 196, 197, 198, 199, 200, 201, 202, 203, 204, 205, 206, 207, 208, 209, 210, 211, 212, 213, 214, 215, 216, 217, 218, 219, 220, 221, 222, 223, 224, 225, 226, 227, 228, 229, 230, 231, 232, 233].contains o = false → ∀ i, I o i = h.2.1 o i) → Z (some (.int v)) (h.1, I, J, h.2.2.2)) : qm_Ru (some (L, xs)) (d + 100) cd_233 (qm_ent 10 [.ref 38, .int b] h) Z := by
  refine qm_Ru.go 8 (c' := (13, [.ref 38, .int b, .int (-2), .int 1000000, .int 1000000, .int 0, .float 0, .float 0, .float 0, .float 0], [], h)) rfl ?_
  exact hl4_cbest29 h6 hH hB hT hW b_b q_a11 f_a11 q_a12 f_a12 q_a13 f_a13 q_a14 f_a14 k _ h.2.1 h.2.2.1 (-2) 1000000 1000000 0 _ _ _ _ hB (fun _ _ _ => rfl) hV (by decide) rfl
theorem hc4_cbest29 : hk_ct v_C (fun h => ((h.2.2.2 0 9 = some 111 ∧ h.2.2.2 28 2 = some 29) ∧ wS h 29) ∧ zAw h) (fun as I => ∃ b : Int32, as = [.ref 0, .int b]) 232 (some (-2147483648, 2147483647)) [34, 192, 193, 194, 195, 196, 197, 198, 199, 200, 201, 202, 203, 204, 205, 206, 207, 208, 209, 210, 211, 212, 213, 214, 215, 216, 217, 218, 219, 220, 221, 222, 223, 224, 225, 226, 227, 228, 229, 230, 231, 232, 233] 120 := by
  intro L xs d Z h as h6 hH hT2 hB hV hp hd k
  obtain ⟨⟨hT, hW⟩, hZ⟩ := hT2
  obtain ⟨b, rfl⟩ := hp
  obtain ⟨d, rfl⟩ : ∃ e, d = e + 120 := ⟨d - 120, by omega⟩
  show qm_Ru (some (L, xs)) (d + 120) cd_232 (qm_ent 2 [.ref 0, .int b] h) Z
  refine qm_Ru.go 1 (c' := (1, [.ref 0, .int b], [.ref 0], h)) rfl ?_
  refine hk_getr rfl (hH.1 0 (16, 10) rfl) rfl (hH.2 0 2 (some 6) rfl) ?_
  refine qm_Ru.go 1 (c' := (5, [.ref 0, .int b], [.int b, .ref 6], h)) rfl ?_
  refine hk_inv (o := 6) (r := []) (as := [.ref 6, .int b]) rfl rfl (hH.1 6 (6, 9) rfl) rfl rfl rfl rfl ?_
  refine qm_Ru.go 2 (c' := (2, [.ref 6, .int b], [.int b, .ref 6], h)) rfl ?_
  refine hk_inv (o := 6) (r := []) (as := [.ref 6, .int b]) rfl rfl (hH.1 6 (6, 9) rfl) rfl rfl rfl rfl ?_
  refine qm_Ru.go 1 (c' := (1, [.ref 6, .int b], [.int b], h)) rfl ?_
  refine hk_zlt (ix := b.toInt) rfl rfl (fun z1 => ?_) (fun z1 => ?_)
  · refine qm_Ru.go 1 (c' := (17, [.ref 6, .int b], [.int 0], h)) rfl ?_
    refine qm_Ru.rt (v := (some (.int 0))) (h' := h) rfl ?_
    refine qm_Ru.go 2 (c' := (22, [.ref 6, .int b], [.int 0], h)) rfl ?_
    refine qm_Ru.rt (v := (some (.int 0))) (h' := h) rfl ?_
    refine qm_Ru.go 2 (c' := (23, [.ref 0, .int b], [.int (-1)], h)) rfl ?_
    refine qm_Ru.rt (v := (some (.int (-1)))) (h' := h) rfl ?_
    exact k (some (.int (-1))) (h.2.1) (h.2.2.1) ⟨_, rfl, qa_in_full _⟩ hB hV (fun o ho i => rfl)
  · refine qm_Ru.go 2 (c' := (6, [.ref 6, .int b], [.ref 6, .int b], h)) rfl ?_
    obtain ⟨v2, q_v2⟩ : ∃ v_, h.2.1 6 0 = v_ := ⟨_, rfl⟩
    have b_v2 : (0 : Int) ≤ v2.toInt ∧ v2.toInt ≤ 30 := by rw [← q_v2]; exact hB 6 0
    refine hk_geti (v := v2) rfl (hH.1 6 (6, 9) rfl) rfl q_v2 ?_
    refine qm_Ru.go 0 (c' := (9, [.ref 6, .int b], [.int v2, .int b], h)) rfl ?_
    refine hk_cge (ix := b.toInt) (iy := v2.toInt) rfl rfl rfl (fun z3 => ?_) (fun z3 => ?_)
    · refine qm_Ru.go 1 (c' := (17, [.ref 6, .int b], [.int 0], h)) rfl ?_
      refine qm_Ru.rt (v := (some (.int 0))) (h' := h) rfl ?_
      refine qm_Ru.go 2 (c' := (22, [.ref 6, .int b], [.int 0], h)) rfl ?_
      refine qm_Ru.rt (v := (some (.int 0))) (h' := h) rfl ?_
      refine qm_Ru.go 2 (c' := (23, [.ref 0, .int b], [.int (-1)], h)) rfl ?_
      refine qm_Ru.rt (v := (some (.int (-1)))) (h' := h) rfl ?_
      exact k (some (.int (-1))) (h.2.1) (h.2.2.1) ⟨_, rfl, qa_in_full _⟩ hB hV (fun o ho i => rfl)
    · refine qm_Ru.go 2 (c' := (17, [.ref 6, .int b], [.int 1], h)) rfl ?_
      refine qm_Ru.rt (v := (some (.int 1))) (h' := h) rfl ?_
      refine qm_Ru.go 2 (c' := (9, [.ref 6, .int b], [.ref 6], h)) rfl ?_
      refine hk_getr rfl (hH.1 6 (6, 9) rfl) rfl (hH.2 6 5 (some 11) rfl) ?_
      refine qm_Ru.go 1 (c' := (13, [.ref 6, .int b], [.int b, .ref 11], h)) rfl ?_
      obtain ⟨v4, q_v4⟩ : ∃ v_, h.2.1 11 (b.toInt.toNat) = v_ := ⟨_, rfl⟩
      have b_v4 : (0 : Int) ≤ v4.toInt ∧ v4.toInt ≤ 2 := by rw [← q_v4]; exact hB 11 (b.toInt.toNat)
      refine hk_ial (v := v4) rfl (hH.1 11 (0, 30) rfl) (by omega) (by omega) q_v4 ?_
      refine qm_Ru.go 0 (c' := (14, [.ref 6, .int b], [.int v4], h)) rfl ?_
      refine hk_zne (ix := v4.toInt) rfl rfl (fun z5 => ?_) (fun z5 => ?_)
      · refine qm_Ru.go 1 (c' := (22, [.ref 6, .int b], [.int 0], h)) rfl ?_
        refine qm_Ru.rt (v := (some (.int 0))) (h' := h) rfl ?_
        refine qm_Ru.go 2 (c' := (23, [.ref 0, .int b], [.int (-1)], h)) rfl ?_
        refine qm_Ru.rt (v := (some (.int (-1)))) (h' := h) rfl ?_
        exact k (some (.int (-1))) (h.2.1) (h.2.2.1) ⟨_, rfl, qa_in_full _⟩ hB hV (fun o ho i => rfl)
      · refine qm_Ru.go 2 (c' := (22, [.ref 6, .int b], [.int 1], h)) rfl ?_
        refine qm_Ru.rt (v := (some (.int 1))) (h' := h) rfl ?_
        refine qm_Ru.go 2 (c' := (12, [.ref 0, .int b], [.ref 0], h)) rfl ?_
        refine hk_getr rfl (hH.1 0 (16, 10) rfl) rfl (hH.2 0 5 (some 38) rfl) ?_
        refine qm_Ru.go 1 (c' := (16, [.ref 0, .int b], [.int b, .ref 38], h)) rfl ?_
        have z6 := hZ (b.toInt.toNat) (by rw [q_v4]; omega) (by rw [q_v2]; omega)
        obtain ⟨v7, q_v7⟩ : ∃ v_, h.2.1 12 (b.toInt.toNat) = v_ := ⟨_, rfl⟩
        have f_v7 : v7.toInt = -1 := by rw [← q_v7]; exact z6.1
        obtain ⟨v8, q_v8⟩ : ∃ v_, h.2.1 13 (b.toInt.toNat) = v_ := ⟨_, rfl⟩
        have f_v8 : v8.toInt = -1 := by rw [← q_v8]; exact z6.2.1
        obtain ⟨v9, q_v9⟩ : ∃ v_, h.2.1 14 (b.toInt.toNat) = v_ := ⟨_, rfl⟩
        have f_v9 : v9.toInt = -1 := by rw [← q_v9]; exact z6.2.2
        refine hk_inv (o := 38) (r := []) (as := [.ref 38, .int b]) rfl rfl (hH.1 38 (10, 5) rfl) rfl rfl rfl rfl (hs4_cbest29 (h := h) h6 hH hB hT hW (b := b) (by omega) q_v4 (by omega) q_v7 (by omega) q_v8 (by omega) q_v9 (by omega) hV (fun v12 I10 J11 hB_I10 hV_I10 e_I10 => ?_))
        refine qm_Ru.go 1 (c' := (23, [.ref 0, .int b], [.int v12], (h.1, I10, J11, h.2.2.2))) rfl ?_
        refine qm_Ru.rt (v := (some (.int v12))) (h' := (h.1, I10, J11, h.2.2.2)) rfl ?_
        exact k (some (.int v12)) (I10) (J11) ⟨_, rfl, qa_in_full _⟩ hB_I10 hV_I10 (fun o ho i => ((e_I10 o (hk_ms rfl ho) i).trans rfl))
theorem hl4_cbest111 {L : Nat} {xs : Nat → Int32} {d : Nat} {Z : Option Value → qm_H → Prop} {h : qm_H} (h6 : 6 ≤ L) (hH : hk_H h) (hB : hk_B h.2.1) (hT : h.2.2.2 0 9 = some 29 ∧ h.2.2.2 28 2 = some 111) (hW : wS h 111) {b : Int32} (b_b : (0 : Int) ≤ b.toInt ∧ b.toInt ≤ 29) {a11 : Int32} (q_a11 : h.2.1 11 (b.toInt.toNat) = a11) (f_a11 : a11.toInt = 0) {a12 : Int32} (q_a12 : h.2.1 12 (b.toInt.toNat) = a12) (f_a12 : a12.toInt = -1) {a13 : Int32} (q_a13 : h.2.1 13 (b.toInt.toNat) = a13) (f_a13 : a13.toInt = -1) {a14 : Int32} (q_a14 : h.2.1 14 (b.toInt.toNat) = a14) (f_a14 : a14.toInt = -1) (k : ∀ (v : Int32) (I : Nat → Nat → Int32) (J : Nat → Nat → Int64), hk_B I → v_C I → (∀ o, [116, 192, 193, 194, 195, 196, 197, 198, 199, 200, 201, 202, 203, 204, 205, 206, 207, 208, 209, 210, 211, 212, 213, 214, 215, 216, 217, 218, 219, 220, 221, 222, 223, 224, 225, 226, 227, 228, 229, 230, 231, 232, 233].contains o = false → ∀ i, I o i = h.2.1 o i) → Z (some (.int v)) (h.1, I, J, h.2.2.2)) : ∀ (m : Nat) (I : Nat → Nat → Int32) (J : Nat → Nat → Int64) (be : Int32) (ru : Int32) (ov : Int32) (q : Int32) (l6 l7 l8 l9 : Value), hk_B I → (∀ o, [116, 192, 193, 194, 195, 196, 197, 198, 199, 200, 201, 202, 203, 204, 205, 206, 207, 208, 209, 210, 211, 212, 213, 214, 215, 216, 217, 218, 219, 220, 221, 222, 223, 224, 225, 226, 227, 228, 229, 230, 231, 232, 233].contains o = false → ∀ i, I o i = h.2.1 o i) → (v_C I) → ((0 : Int) ≤ q.toInt ∧ q.toInt ≤ 20) → (20 - q.toInt).toNat = m → qm_Ru (some (L, xs)) (d + 100) cd_233 (13, [.ref 38, .int b, .int be, .int ru, .int ov, .int q, l6, l7, l8, l9], [], (h.1, I, J, h.2.2.2)) Z := by
  intro m
  induction m using Nat.strongRecOn with
  | ind m ih =>
    intro I J be ru ov q l6 l7 l8 l9 hBI e hVI hq hm
    refine qm_Ru.go 2 (c' := (16, [.ref 38, .int b, .int be, .int ru, .int ov, .int q, l6, l7, l8, l9], [.ref 38, .int q], (h.1, I, J, h.2.2.2))) rfl ?_
    refine hk_getr rfl (hH.1 38 (10, 5) rfl) rfl (hH.2 38 1 (some 28) rfl) ?_
    refine qm_Ru.go 0 (c' := (19, [.ref 38, .int b, .int be, .int ru, .int ov, .int q, l6, l7, l8, l9], [.ref 28, .int q], (h.1, I, J, h.2.2.2))) rfl ?_
    refine hk_getr rfl (hH.1 28 (9, 8) rfl) rfl hT.2 ?_
    refine qm_Ru.go 0 (c' := (22, [.ref 38, .int b, .int be, .int ru, .int ov, .int q, l6, l7, l8, l9], [.ref 111, .int q], (h.1, I, J, h.2.2.2))) rfl ?_
    obtain ⟨v1, q_v1⟩ : ∃ v_, h.2.1 111 0 = v_ := ⟨_, rfl⟩
    have b_v1 : (2 : Int) ≤ v1.toInt ∧ v1.toInt ≤ 5 := by rw [← q_v1]; exact hB 111 0
    refine hk_geti (v := v1) rfl (hH.1 111 (11, 16) rfl) rfl (show (I) 111 0 = _ from ((e 111 rfl 0).trans q_v1)) ?_
    refine qm_Ru.go 2 (c' := (27, [.ref 38, .int b, .int be, .int ru, .int ov, .int q, l6, l7, l8, l9], [.int (v1 * 4), .int q], (h.1, I, J, h.2.2.2))) rfl ?_
    obtain ⟨v2, q_v2, e_v2⟩ := hk_mul (x := v1) (y := 4) (a := v1.toInt) (b := 4) rfl rfl (by omega) (by omega)
    rw [q_v2]
    refine hk_cge (ix := q.toInt) (iy := v2.toInt) rfl rfl rfl (fun z3 => ?_) (fun z3 => ?_)
    · refine qm_Ru.go 1 (c' := (122, [.ref 38, .int b, .int be, .int ru, .int ov, .int q, l6, l7, l8, l9], [.int be], (h.1, I, J, h.2.2.2))) rfl ?_
      refine qm_Ru.rt (v := (some (.int be))) (h' := (h.1, I, J, h.2.2.2)) rfl ?_
      exact k be (I) (J) hBI hVI (fun o ho i => (e o ho i))
    · refine qm_Ru.go 1 (c' := (31, [.ref 38, .int b, .int be, .int ru, .int ov, .int q, l6, l7, l8, l9], [.ref 38], (h.1, I, J, h.2.2.2))) rfl ?_
      refine hk_getr rfl (hH.1 38 (10, 5) rfl) rfl (hH.2 38 1 (some 28) rfl) ?_
      refine qm_Ru.go 4 (c' := (39, [.ref 38, .int b, .int be, .int ru, .int ov, .int q, l6, l7, l8, l9], [.int (q / 4), .int b, .ref 28], (h.1, I, J, h.2.2.2))) rfl ?_
      obtain ⟨v4, q_v4, e_v4⟩ := hk_div (x := q) (y := 4) (a := q.toInt) (b := 4) rfl rfl (by omega) (by omega)
      rw [q_v4]
      refine qm_Ru.go 3 (c' := (43, [.ref 38, .int b, .int be, .int ru, .int ov, .int q, l6, l7, l8, l9], [.int (q - q / 4 * 4), .int v4, .int b, .ref 28], (h.1, I, J, h.2.2.2))) rfl ?_
      obtain ⟨v5, q_v5, e_v5⟩ := hk_rem (x := q) (y := 4) (a := q.toInt) (b := 4) rfl rfl (by omega) (by omega)
      rw [q_v5]
      refine hk_inv (o := 28) (r := []) (as := [.ref 28, .int b, .int v4, .int v5]) rfl rfl (hH.1 28 (9, 8) rfl) rfl rfl rfl rfl (hq_try111 (h := (h.1, I, J, h.2.2.2)) h6 hH hT hBI hVI (b := b) (y := v4) (r := v5) (fun v6 J7 c_v6 d_v6 => ?_) (fun t8 J9 f10 g11 => ?_))
      · refine qm_Ru.go 2 (c' := (50, [.ref 38, .int b, .int be, .int ru, .int ov, .int q, .int v6, l7, l8, l9], [.int v6], (h.1, I, J7, h.2.2.2))) rfl ?_
        refine hk_zge (ix := v6.toInt) rfl rfl (fun z12 => by exfalso; omega) (fun z12 => ?_)
        refine qm_Ru.go 2 (c' := (118, [.ref 38, .int b, .int be, .int ru, .int ov, .int (q + 1), .int v6, l7, l8, l9], [], (h.1, I, J7, h.2.2.2))) rfl ?_
        obtain ⟨v13, q_v13, e_v13⟩ := hk_add (x := q) (y := 1) (a := q.toInt) (b := 1) rfl rfl (by omega) (by omega)
        rw [q_v13]
        refine qm_Ru.go 1 (c' := (13, [.ref 38, .int b, .int be, .int ru, .int ov, .int v13, .int v6, l7, l8, l9], [], (h.1, I, J7, h.2.2.2))) rfl ?_
        exact ih _ (by omega) (I) (J7) be ru ov v13 (.int v6) l7 l8 l9 hBI (fun o ho i => (e o ho i)) hVI (by omega) rfl
      · obtain ⟨f10_y, f10_r, f10_t, f10_f, f10_b⟩ := f10
        obtain ⟨g11_b, g11_n, _⟩ := g11
        refine qm_Ru.go 2 (c' := (50, [.ref 38, .int b, .int be, .int ru, .int ov, .int q, .int t8, l7, l8, l9], [.int t8], (h.1, I, J9, h.2.2.2))) rfl ?_
        refine hk_zge (ix := t8.toInt) rfl rfl (fun z14 => ?_) (fun z14 => by exfalso; omega)
        refine qm_Ru.go 3 (c' := (60, [.ref 38, .int b, .int be, .int ru, .int ov, .int q, .int t8, l7, l8, l9], [.int (q * 4)], (h.1, I, J9, h.2.2.2))) rfl ?_
        obtain ⟨v15, q_v15, e_v15⟩ := hk_mul (x := q) (y := 4) (a := q.toInt) (b := 4) rfl rfl (by omega) (by omega)
        rw [q_v15]
        refine qm_Ru.go 2 (c' := (63, [.ref 38, .int b, .int be, .int ru, .int ov, .int q, .int t8, l7, l8, l9], [.int (v15 + t8)], (h.1, I, J9, h.2.2.2))) rfl ?_
        obtain ⟨v16, q_v16, e_v16⟩ := hk_add (x := v15) (y := t8) (a := v15.toInt) (b := t8.toInt) rfl rfl (by omega) (by omega)
        rw [q_v16]
        refine qm_Ru.go 4 (c' := (69, [.ref 38, .int b, .int be, .int ru, .int ov, .int q, .int t8, .int v16, l8, l9], [.int v16, .int b, .ref 38], (h.1, I, J9, h.2.2.2))) rfl ?_
        refine hk_inv (o := 38) (r := []) (as := [.ref 38, .int b, .int v16]) rfl rfl (hH.1 38 (10, 5) rfl) rfl rfl rfl rfl (hs_brk111 (h := (h.1, I, J9, h.2.2.2)) h6 hH hT hBI (v_C_ru hVI) ⟨by show (0 : Int) ≤ b.toInt; omega, by show b.toInt ≤ (29 : Int); omega⟩ ⟨by show (0 : Int) ≤ v16.toInt; omega, by show v16.toInt ≤ (79 : Int); omega⟩ (wS_same hW rfl rfl) (by omega) (fun v19 I17 J18 _ hB_I17 e_I17 => ?_))
        have hV_I17 : v_C I17 := v_C_cg9 hVI (fun o ho i => e_I17 o (q9_brk111 ho) i)
        refine qm_Ru.go 4 (c' := (78, [.ref 38, .int b, .int be, .int ru, .int ov, .int q, .int t8, .int v16, .int v19, l9], [.int v16, .int b, .ref 38], (h.1, I17, J18, h.2.2.2))) rfl ?_
        obtain ⟨v20, q_v20⟩ : ∃ v_, h.2.1 6 0 = v_ := ⟨_, rfl⟩
        have b_v20 : (0 : Int) ≤ v20.toInt ∧ v20.toInt ≤ 30 := by rw [← q_v20]; exact hB 6 0
        refine hk_inv (o := 38) (r := []) (as := [.ref 38, .int b, .int v16]) rfl rfl (hH.1 38 (10, 5) rfl) rfl rfl rfl rfl (hs_ovw4 (h := (h.1, I17, J18, h.2.2.2)) h6 hH hB_I17 hV_I17 (b := b) (x := v16) (n := pI I 6 0) (by omega) (by omega) (by show (I17 6 0).toInt = pI I 6 0; rw [e_I17 6 rfl 0]; exact rfl) g11_n ((congrArg Int32.toInt (show (I17) 11 (b.toInt.toNat) = _ from ((e_I17 11 rfl (b.toInt.toNat)).trans ((e 11 rfl (b.toInt.toNat)).trans q_a11)))).trans (by omega)) (by show (I17 36 v16.toInt.toNat).toInt = -1; rw [e_I17 36 rfl _]; exact (show pI I 36 v16.toInt.toNat = -1 from by rw [show v16.toInt.toNat = (16 * v4.toInt + 4 * v5.toInt + t8.toInt).toNat from by omega]; exact f10_f)) (fun c => by show 0 ≤ (I17 36 (v16.toInt - 1).toNat).toInt; rw [e_I17 36 rfl _]; exact (show 0 ≤ pI I 36 (v16.toInt - 1).toNat from by rw [show (v16.toInt - 1).toNat = (16 * v4.toInt + 4 * v5.toInt + t8.toInt - 1).toNat from by omega]; exact f10_b (by omega))) ((congrArg Int32.toInt (show (I17) 12 (b.toInt.toNat) = _ from ((e_I17 12 rfl (b.toInt.toNat)).trans ((e 12 rfl (b.toInt.toNat)).trans q_a12)))).trans (by omega)) ((congrArg Int32.toInt (show (I17) 13 (b.toInt.toNat) = _ from ((e_I17 13 rfl (b.toInt.toNat)).trans ((e 13 rfl (b.toInt.toNat)).trans q_a13)))).trans (by omega)) ((congrArg Int32.toInt (show (I17) 14 (b.toInt.toNat) = _ from ((e_I17 14 rfl (b.toInt.toNat)).trans ((e 14 rfl (b.toInt.toNat)).trans q_a14)))).trans (by omega)) (fun v22 J21 => ?_))
        refine qm_Ru.go 3 (c' := (86, [.ref 38, .int b, .int be, .int ru, .int ov, .int q, .int t8, .int v16, .int v19, .int v22], [.int ru, .int v19], (h.1, I17, J21, h.2.2.2))) rfl ?_
        refine hk_clt (ix := v19.toInt) (iy := ru.toInt) rfl rfl rfl (fun z23 => ?_) (fun z23 => ?_)
        · refine qm_Ru.go 5 (c' := (111, [.ref 38, .int b, .int be, .int v19, .int v22, .int q, .int t8, .int v16, .int v19, .int v22], [.int q], (h.1, I17, J21, h.2.2.2))) rfl ?_
          refine qm_Ru.call (j := 235) (as := [.int q]) (c' := (114, [.ref 38, .int b, .int be, .int v19, .int v22, .int q, .int t8, .int v16, .int v19, .int v22], [], (h.1, I17, J21, h.2.2.2))) rfl rfl rfl ?_
          refine qm_Ru.go 4 (c' := (5, [.int q], [.int (q / 4), .int 10], (h.1, I17, J21, h.2.2.2))) rfl ?_
          rw [q_v4]
          refine qm_Ru.go 1 (c' := (6, [.int q], [.int (10 * v4)], (h.1, I17, J21, h.2.2.2))) rfl ?_
          obtain ⟨v25, q_v25, e_v25⟩ := hk_mul (x := 10) (y := v4) (a := 10) (b := v4.toInt) rfl rfl (by omega) (by omega)
          rw [q_v25]
          refine qm_Ru.go 3 (c' := (9, [.int q], [.int (q - q / 4 * 4), .int v25], (h.1, I17, J21, h.2.2.2))) rfl ?_
          rw [q_v5]
          refine qm_Ru.go 1 (c' := (10, [.int q], [.int (v25 + v5)], (h.1, I17, J21, h.2.2.2))) rfl ?_
          obtain ⟨v27, q_v27, e_v27⟩ := hk_add (x := v25) (y := v5) (a := v25.toInt) (b := v5.toInt) rfl rfl (by omega) (by omega)
          rw [q_v27]
          refine qm_Ru.rt (v := (some (.int v27))) (h' := (h.1, I17, J21, h.2.2.2)) rfl ?_
          refine qm_Ru.go 2 (c' := (118, [.ref 38, .int b, .int v27, .int v19, .int v22, .int (q + 1), .int t8, .int v16, .int v19, .int v22], [], (h.1, I17, J21, h.2.2.2))) rfl ?_
          obtain ⟨v28, q_v28, e_v28⟩ := hk_add (x := q) (y := 1) (a := q.toInt) (b := 1) rfl rfl (by omega) (by omega)
          rw [q_v28]
          refine qm_Ru.go 1 (c' := (13, [.ref 38, .int b, .int v27, .int v19, .int v22, .int v28, .int t8, .int v16, .int v19, .int v22], [], (h.1, I17, J21, h.2.2.2))) rfl ?_
          exact ih _ (by omega) (I17) (J21) v27 v19 v22 v28 (.int t8) (.int v16) (.int v19) (.int v22) hB_I17 (fun o ho i => ((e_I17 o (hk_ms rfl ho) i).trans (e o ho i))) hV_I17 (by omega) rfl
        · refine qm_Ru.go 2 (c' := (92, [.ref 38, .int b, .int be, .int ru, .int ov, .int q, .int t8, .int v16, .int v19, .int v22], [.int ru, .int v19], (h.1, I17, J21, h.2.2.2))) rfl ?_
          refine hk_cne (ix := v19.toInt) (iy := ru.toInt) rfl rfl rfl (fun z29 => ?_) (fun z29 => ?_)
          · refine qm_Ru.go 1 (c' := (118, [.ref 38, .int b, .int be, .int ru, .int ov, .int (q + 1), .int t8, .int v16, .int v19, .int v22], [], (h.1, I17, J21, h.2.2.2))) rfl ?_
            obtain ⟨v30, q_v30, e_v30⟩ := hk_add (x := q) (y := 1) (a := q.toInt) (b := 1) rfl rfl (by omega) (by omega)
            rw [q_v30]
            refine qm_Ru.go 1 (c' := (13, [.ref 38, .int b, .int be, .int ru, .int ov, .int v30, .int t8, .int v16, .int v19, .int v22], [], (h.1, I17, J21, h.2.2.2))) rfl ?_
            exact ih _ (by omega) (I17) (J21) be ru ov v30 (.int t8) (.int v16) (.int v19) (.int v22) hB_I17 (fun o ho i => ((e_I17 o (hk_ms rfl ho) i).trans (e o ho i))) hV_I17 (by omega) rfl
          · refine qm_Ru.go 2 (c' := (99, [.ref 38, .int b, .int be, .int ru, .int ov, .int q, .int t8, .int v16, .int v19, .int v22], [.int ov, .int v22], (h.1, I17, J21, h.2.2.2))) rfl ?_
            refine hk_cge (ix := v22.toInt) (iy := ov.toInt) rfl rfl rfl (fun z31 => ?_) (fun z31 => ?_)
            · refine qm_Ru.go 1 (c' := (118, [.ref 38, .int b, .int be, .int ru, .int ov, .int (q + 1), .int t8, .int v16, .int v19, .int v22], [], (h.1, I17, J21, h.2.2.2))) rfl ?_
              obtain ⟨v32, q_v32, e_v32⟩ := hk_add (x := q) (y := 1) (a := q.toInt) (b := 1) rfl rfl (by omega) (by omega)
              rw [q_v32]
              refine qm_Ru.go 1 (c' := (13, [.ref 38, .int b, .int be, .int ru, .int ov, .int v32, .int t8, .int v16, .int v19, .int v22], [], (h.1, I17, J21, h.2.2.2))) rfl ?_
              exact ih _ (by omega) (I17) (J21) be ru ov v32 (.int t8) (.int v16) (.int v19) (.int v22) hB_I17 (fun o ho i => ((e_I17 o (hk_ms rfl ho) i).trans (e o ho i))) hV_I17 (by omega) rfl
            · refine qm_Ru.go 5 (c' := (111, [.ref 38, .int b, .int be, .int v19, .int v22, .int q, .int t8, .int v16, .int v19, .int v22], [.int q], (h.1, I17, J21, h.2.2.2))) rfl ?_
              refine qm_Ru.call (j := 235) (as := [.int q]) (c' := (114, [.ref 38, .int b, .int be, .int v19, .int v22, .int q, .int t8, .int v16, .int v19, .int v22], [], (h.1, I17, J21, h.2.2.2))) rfl rfl rfl ?_
              refine qm_Ru.go 4 (c' := (5, [.int q], [.int (q / 4), .int 10], (h.1, I17, J21, h.2.2.2))) rfl ?_
              rw [q_v4]
              refine qm_Ru.go 1 (c' := (6, [.int q], [.int (10 * v4)], (h.1, I17, J21, h.2.2.2))) rfl ?_
              obtain ⟨v34, q_v34, e_v34⟩ := hk_mul (x := 10) (y := v4) (a := 10) (b := v4.toInt) rfl rfl (by omega) (by omega)
              rw [q_v34]
              refine qm_Ru.go 3 (c' := (9, [.int q], [.int (q - q / 4 * 4), .int v34], (h.1, I17, J21, h.2.2.2))) rfl ?_
              rw [q_v5]
              refine qm_Ru.go 1 (c' := (10, [.int q], [.int (v34 + v5)], (h.1, I17, J21, h.2.2.2))) rfl ?_
              obtain ⟨v36, q_v36, e_v36⟩ := hk_add (x := v34) (y := v5) (a := v34.toInt) (b := v5.toInt) rfl rfl (by omega) (by omega)
              rw [q_v36]
              refine qm_Ru.rt (v := (some (.int v36))) (h' := (h.1, I17, J21, h.2.2.2)) rfl ?_
              refine qm_Ru.go 2 (c' := (118, [.ref 38, .int b, .int v36, .int v19, .int v22, .int (q + 1), .int t8, .int v16, .int v19, .int v22], [], (h.1, I17, J21, h.2.2.2))) rfl ?_
              obtain ⟨v37, q_v37, e_v37⟩ := hk_add (x := q) (y := 1) (a := q.toInt) (b := 1) rfl rfl (by omega) (by omega)
              rw [q_v37]
              refine qm_Ru.go 1 (c' := (13, [.ref 38, .int b, .int v36, .int v19, .int v22, .int v37, .int t8, .int v16, .int v19, .int v22], [], (h.1, I17, J21, h.2.2.2))) rfl ?_
              exact ih _ (by omega) (I17) (J21) v36 v19 v22 v37 (.int t8) (.int v16) (.int v19) (.int v22) hB_I17 (fun o ho i => ((e_I17 o (hk_ms rfl ho) i).trans (e o ho i))) hV_I17 (by omega) rfl
theorem hs4_cbest111 {L : Nat} {xs : Nat → Int32} {d : Nat} {Z : Option Value → qm_H → Prop} {h : qm_H} (h6 : 6 ≤ L) (hH : hk_H h) (hB : hk_B h.2.1) (hT : h.2.2.2 0 9 = some 29 ∧ h.2.2.2 28 2 = some 111) (hW : wS h 111) {b : Int32} (b_b : (0 : Int) ≤ b.toInt ∧ b.toInt ≤ 29) {a11 : Int32} (q_a11 : h.2.1 11 (b.toInt.toNat) = a11) (f_a11 : a11.toInt = 0) {a12 : Int32} (q_a12 : h.2.1 12 (b.toInt.toNat) = a12) (f_a12 : a12.toInt = -1) {a13 : Int32} (q_a13 : h.2.1 13 (b.toInt.toNat) = a13) (f_a13 : a13.toInt = -1) {a14 : Int32} (q_a14 : h.2.1 14 (b.toInt.toNat) = a14) (f_a14 : a14.toInt = -1) (hV : v_C h.2.1) (k : ∀ (v : Int32) (I : Nat → Nat → Int32) (J : Nat → Nat → Int64), hk_B I → v_C I → (∀ o, [116, 192, 193, 194, 195, 196, 197, 198, 199, 200, 201, 202, 203, 204, 205, 206, 207, 208, 209, 210, 211, 212, 213, 214, 215, 216, 217, 218, 219, 220, 221, 222, 223, 224, 225, 226, 227, 228, 229, 230, 231, 232, 233].contains o = false → ∀ i, I o i = h.2.1 o i) → Z (some (.int v)) (h.1, I, J, h.2.2.2)) : qm_Ru (some (L, xs)) (d + 100) cd_233 (qm_ent 10 [.ref 38, .int b] h) Z := by
  refine qm_Ru.go 8 (c' := (13, [.ref 38, .int b, .int (-2), .int 1000000, .int 1000000, .int 0, .float 0, .float 0, .float 0, .float 0], [], h)) rfl ?_
  exact hl4_cbest111 h6 hH hB hT hW b_b q_a11 f_a11 q_a12 f_a12 q_a13 f_a13 q_a14 f_a14 k _ h.2.1 h.2.2.1 (-2) 1000000 1000000 0 _ _ _ _ hB (fun _ _ _ => rfl) hV (by decide) rfl
theorem hc4_cbest111 : hk_ct v_C (fun h => ((h.2.2.2 0 9 = some 29 ∧ h.2.2.2 28 2 = some 111) ∧ wS h 111) ∧ zAw h) (fun as I => ∃ b : Int32, as = [.ref 0, .int b]) 232 (some (-2147483648, 2147483647)) [116, 192, 193, 194, 195, 196, 197, 198, 199, 200, 201, 202, 203, 204, 205, 206, 207, 208, 209, 210, 211, 212, 213, 214, 215, 216, 217, 218, 219, 220, 221, 222, 223, 224, 225, 226, 227, 228, 229, 230, 231, 232, 233] 120 := by
  intro L xs d Z h as h6 hH hT2 hB hV hp hd k
  obtain ⟨⟨hT, hW⟩, hZ⟩ := hT2
  obtain ⟨b, rfl⟩ := hp
  obtain ⟨d, rfl⟩ : ∃ e, d = e + 120 := ⟨d - 120, by omega⟩
  show qm_Ru (some (L, xs)) (d + 120) cd_232 (qm_ent 2 [.ref 0, .int b] h) Z
  refine qm_Ru.go 1 (c' := (1, [.ref 0, .int b], [.ref 0], h)) rfl ?_
  refine hk_getr rfl (hH.1 0 (16, 10) rfl) rfl (hH.2 0 2 (some 6) rfl) ?_
  refine qm_Ru.go 1 (c' := (5, [.ref 0, .int b], [.int b, .ref 6], h)) rfl ?_
  refine hk_inv (o := 6) (r := []) (as := [.ref 6, .int b]) rfl rfl (hH.1 6 (6, 9) rfl) rfl rfl rfl rfl ?_
  refine qm_Ru.go 2 (c' := (2, [.ref 6, .int b], [.int b, .ref 6], h)) rfl ?_
  refine hk_inv (o := 6) (r := []) (as := [.ref 6, .int b]) rfl rfl (hH.1 6 (6, 9) rfl) rfl rfl rfl rfl ?_
  refine qm_Ru.go 1 (c' := (1, [.ref 6, .int b], [.int b], h)) rfl ?_
  refine hk_zlt (ix := b.toInt) rfl rfl (fun z1 => ?_) (fun z1 => ?_)
  · refine qm_Ru.go 1 (c' := (17, [.ref 6, .int b], [.int 0], h)) rfl ?_
    refine qm_Ru.rt (v := (some (.int 0))) (h' := h) rfl ?_
    refine qm_Ru.go 2 (c' := (22, [.ref 6, .int b], [.int 0], h)) rfl ?_
    refine qm_Ru.rt (v := (some (.int 0))) (h' := h) rfl ?_
    refine qm_Ru.go 2 (c' := (23, [.ref 0, .int b], [.int (-1)], h)) rfl ?_
    refine qm_Ru.rt (v := (some (.int (-1)))) (h' := h) rfl ?_
    exact k (some (.int (-1))) (h.2.1) (h.2.2.1) ⟨_, rfl, qa_in_full _⟩ hB hV (fun o ho i => rfl)
  · refine qm_Ru.go 2 (c' := (6, [.ref 6, .int b], [.ref 6, .int b], h)) rfl ?_
    obtain ⟨v2, q_v2⟩ : ∃ v_, h.2.1 6 0 = v_ := ⟨_, rfl⟩
    have b_v2 : (0 : Int) ≤ v2.toInt ∧ v2.toInt ≤ 30 := by rw [← q_v2]; exact hB 6 0
    refine hk_geti (v := v2) rfl (hH.1 6 (6, 9) rfl) rfl q_v2 ?_
    refine qm_Ru.go 0 (c' := (9, [.ref 6, .int b], [.int v2, .int b], h)) rfl ?_
    refine hk_cge (ix := b.toInt) (iy := v2.toInt) rfl rfl rfl (fun z3 => ?_) (fun z3 => ?_)
    · refine qm_Ru.go 1 (c' := (17, [.ref 6, .int b], [.int 0], h)) rfl ?_
      refine qm_Ru.rt (v := (some (.int 0))) (h' := h) rfl ?_
      refine qm_Ru.go 2 (c' := (22, [.ref 6, .int b], [.int 0], h)) rfl ?_
      refine qm_Ru.rt (v := (some (.int 0))) (h' := h) rfl ?_
      refine qm_Ru.go 2 (c' := (23, [.ref 0, .int b], [.int (-1)], h)) rfl ?_
      refine qm_Ru.rt (v := (some (.int (-1)))) (h' := h) rfl ?_
      exact k (some (.int (-1))) (h.2.1) (h.2.2.1) ⟨_, rfl, qa_in_full _⟩ hB hV (fun o ho i => rfl)
    · refine qm_Ru.go 2 (c' := (17, [.ref 6, .int b], [.int 1], h)) rfl ?_
      refine qm_Ru.rt (v := (some (.int 1))) (h' := h) rfl ?_
      refine qm_Ru.go 2 (c' := (9, [.ref 6, .int b], [.ref 6], h)) rfl ?_
      refine hk_getr rfl (hH.1 6 (6, 9) rfl) rfl (hH.2 6 5 (some 11) rfl) ?_
      refine qm_Ru.go 1 (c' := (13, [.ref 6, .int b], [.int b, .ref 11], h)) rfl ?_
      obtain ⟨v4, q_v4⟩ : ∃ v_, h.2.1 11 (b.toInt.toNat) = v_ := ⟨_, rfl⟩
      have b_v4 : (0 : Int) ≤ v4.toInt ∧ v4.toInt ≤ 2 := by rw [← q_v4]; exact hB 11 (b.toInt.toNat)
      refine hk_ial (v := v4) rfl (hH.1 11 (0, 30) rfl) (by omega) (by omega) q_v4 ?_
      refine qm_Ru.go 0 (c' := (14, [.ref 6, .int b], [.int v4], h)) rfl ?_
      refine hk_zne (ix := v4.toInt) rfl rfl (fun z5 => ?_) (fun z5 => ?_)
      · refine qm_Ru.go 1 (c' := (22, [.ref 6, .int b], [.int 0], h)) rfl ?_
        refine qm_Ru.rt (v := (some (.int 0))) (h' := h) rfl ?_
        refine qm_Ru.go 2 (c' := (23, [.ref 0, .int b], [.int (-1)], h)) rfl ?_
        refine qm_Ru.rt (v := (some (.int (-1)))) (h' := h) rfl ?_
        exact k (some (.int (-1))) (h.2.1) (h.2.2.1) ⟨_, rfl, qa_in_full _⟩ hB hV (fun o ho i => rfl)
      · refine qm_Ru.go 2 (c' := (22, [.ref 6, .int b], [.int 1], h)) rfl ?_
        refine qm_Ru.rt (v := (some (.int 1))) (h' := h) rfl ?_
        refine qm_Ru.go 2 (c' := (12, [.ref 0, .int b], [.ref 0], h)) rfl ?_
        refine hk_getr rfl (hH.1 0 (16, 10) rfl) rfl (hH.2 0 5 (some 38) rfl) ?_
        refine qm_Ru.go 1 (c' := (16, [.ref 0, .int b], [.int b, .ref 38], h)) rfl ?_
        have z6 := hZ (b.toInt.toNat) (by rw [q_v4]; omega) (by rw [q_v2]; omega)
        obtain ⟨v7, q_v7⟩ : ∃ v_, h.2.1 12 (b.toInt.toNat) = v_ := ⟨_, rfl⟩
        have f_v7 : v7.toInt = -1 := by rw [← q_v7]; exact z6.1
        obtain ⟨v8, q_v8⟩ : ∃ v_, h.2.1 13 (b.toInt.toNat) = v_ := ⟨_, rfl⟩
        have f_v8 : v8.toInt = -1 := by rw [← q_v8]; exact z6.2.1
        obtain ⟨v9, q_v9⟩ : ∃ v_, h.2.1 14 (b.toInt.toNat) = v_ := ⟨_, rfl⟩
        have f_v9 : v9.toInt = -1 := by rw [← q_v9]; exact z6.2.2
        refine hk_inv (o := 38) (r := []) (as := [.ref 38, .int b]) rfl rfl (hH.1 38 (10, 5) rfl) rfl rfl rfl rfl (hs4_cbest111 (h := h) h6 hH hB hT hW (b := b) (by omega) q_v4 (by omega) q_v7 (by omega) q_v8 (by omega) q_v9 (by omega) hV (fun v12 I10 J11 hB_I10 hV_I10 e_I10 => ?_))
        refine qm_Ru.go 1 (c' := (23, [.ref 0, .int b], [.int v12], (h.1, I10, J11, h.2.2.2))) rfl ?_
        refine qm_Ru.rt (v := (some (.int v12))) (h' := (h.1, I10, J11, h.2.2.2)) rfl ?_
        exact k (some (.int v12)) (I10) (J11) ⟨_, rfl, qa_in_full _⟩ hB_I10 hV_I10 (fun o ho i => ((e_I10 o (hk_ms rfl ho) i).trans rfl))
