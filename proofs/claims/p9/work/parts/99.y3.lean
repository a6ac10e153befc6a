/-! contracts of the reference by hand -/
theorem hs_pairb {L : Nat} {xs : Nat → Int32} {d : Nat} {Z : Option Value → qm_H → Prop} {h : qm_H} (h6 : 6 ≤ L) (hH : hk_H h) (hB : hk_B h.2.1) {ru a b : Int32} (b_ru : (0 : Int) ≤ ru.toInt ∧ ru.toInt ≤ 7) (b_a : (0 : Int) ≤ a.toInt ∧ a.toInt ≤ 29) (b_b : (0 : Int) ≤ b.toInt ∧ b.toInt ≤ 29) (hr : rule_ok h.2.1 (16 * (h.2.1 118 18).toInt.toNat + ru.toInt.toNat)) (k : ∀ (v : Int32) (I : Nat → Nat → Int32) (J : Nat → Nat → Int64), (0 : Int) ≤ v.toInt ∧ v.toInt ≤ 1 → hk_B I → (∀ o, [144, 145].contains o = false → ∀ i, I o i = h.2.1 o i) → Z (some (.int v)) (h.1, I, J, h.2.2.2)) : qm_Ru (some (L, xs)) (d + 60) cd_305 (qm_ent 4 [.ref 118, .int ru, .int a, .int b] h) Z := by
  refine qm_Ru.go 3 (c' := (3, [.ref 118, .int ru, .int a, .int b], [.int 0, .int a, .ref 118], h)) rfl ?_
  refine hk_inv (o := 118) (r := []) (as := [.ref 118, .int a, .int 0]) rfl rfl (hH.1 118 (17, 105) rfl) rfl rfl rfl rfl ?_
  refine qm_Ru.go 1 (c' := (1, [.ref 118, .int a, .int 0], [.ref 118], h)) rfl ?_
  refine hk_getr rfl (hH.1 118 (17, 105) rfl) rfl (hH.2 118 42 (some 144) rfl) ?_
  refine qm_Ru.go 2 (c' := (6, [.ref 118, .int a, .int 0], [.ref 118, .int 0, .ref 144], h)) rfl ?_
  refine hk_getr rfl (hH.1 118 (17, 105) rfl) rfl (hH.2 118 47 (some 148) rfl) ?_
  refine qm_Ru.go 1 (c' := (10, [.ref 118, .int a, .int 0], [.int a, .ref 148, .int 0, .ref 144], h)) rfl ?_
  obtain ⟨v1, q_v1⟩ : ∃ v, h.2.1 148 (a.toInt.toNat) = v := ⟨_, rfl⟩
  have b_v1 : (0 : Int) ≤ v1.toInt ∧ v1.toInt ≤ 5 := by rw [← q_v1]; exact hB 148 (a.toInt.toNat)
  refine hk_ial (v := v1) rfl (hH.1 148 (0, 30) rfl) (by omega) (by omega) q_v1 ?_
  refine qm_Ru.go 0 (c' := (11, [.ref 118, .int a, .int 0], [.int v1, .int 0, .ref 144], h)) rfl ?_
  refine hk_ias rfl (hH.1 144 (0, 13) rfl) (by decide) (by decide) ?_
  refine qm_Ru.go 1 (c' := (13, [.ref 118, .int a, .int 0], [.ref 118], (h.1, qm_up h.2.1 144 0 v1, h.2.2.1, h.2.2.2))) rfl ?_
  refine hk_getr rfl (hH.1 118 (17, 105) rfl) rfl (hH.2 118 42 (some 144) rfl) ?_
  refine qm_Ru.go 4 (c' := (20, [.ref 118, .int a, .int 0], [.ref 118, .int 1, .ref 144], (h.1, qm_up h.2.1 144 0 v1, h.2.2.1, h.2.2.2))) rfl ?_
  refine hk_getr rfl (hH.1 118 (17, 105) rfl) rfl (hH.2 118 45 (some 146) rfl) ?_
  refine qm_Ru.go 1 (c' := (24, [.ref 118, .int a, .int 0], [.int a, .ref 146, .int 1, .ref 144], (h.1, qm_up h.2.1 144 0 v1, h.2.2.1, h.2.2.2))) rfl ?_
  obtain ⟨v2, q_v2⟩ : ∃ v, h.2.1 146 (a.toInt.toNat) = v := ⟨_, rfl⟩
  have b_v2 : (0 : Int) ≤ v2.toInt ∧ v2.toInt ≤ 40 := by rw [← q_v2]; exact hB 146 (a.toInt.toNat)
  refine hk_ial (v := v2) rfl (hH.1 146 (0, 30) rfl) (by omega) (by omega) (show (qm_up h.2.1 144 0 v1) 146 (a.toInt.toNat) = _ from ((hk_ot rfl).trans q_v2)) ?_
  refine qm_Ru.go 0 (c' := (25, [.ref 118, .int a, .int 0], [.int v2, .int 1, .ref 144], (h.1, qm_up h.2.1 144 0 v1, h.2.2.1, h.2.2.2))) rfl ?_
  refine hk_ias rfl (hH.1 144 (0, 13) rfl) (by decide) (by decide) ?_
  refine qm_Ru.go 1 (c' := (27, [.ref 118, .int a, .int 0], [.ref 118], (h.1, qm_up (qm_up h.2.1 144 0 v1) 144 1 v2, h.2.2.1, h.2.2.2))) rfl ?_
  refine hk_getr rfl (hH.1 118 (17, 105) rfl) rfl (hH.2 118 42 (some 144) rfl) ?_
  refine qm_Ru.go 4 (c' := (34, [.ref 118, .int a, .int 0], [.ref 118, .int 2, .ref 144], (h.1, qm_up (qm_up h.2.1 144 0 v1) 144 1 v2, h.2.2.1, h.2.2.2))) rfl ?_
  refine hk_getr rfl (hH.1 118 (17, 105) rfl) rfl (hH.2 118 46 (some 147) rfl) ?_
  refine qm_Ru.go 1 (c' := (38, [.ref 118, .int a, .int 0], [.int a, .ref 147, .int 2, .ref 144], (h.1, qm_up (qm_up h.2.1 144 0 v1) 144 1 v2, h.2.2.1, h.2.2.2))) rfl ?_
  obtain ⟨v3, q_v3⟩ : ∃ v, h.2.1 147 (a.toInt.toNat) = v := ⟨_, rfl⟩
  have b_v3 : (0 : Int) ≤ v3.toInt ∧ v3.toInt ≤ 4 := by rw [← q_v3]; exact hB 147 (a.toInt.toNat)
  refine hk_ial (v := v3) rfl (hH.1 147 (0, 30) rfl) (by omega) (by omega) (show (qm_up (qm_up h.2.1 144 0 v1) 144 1 v2) 147 (a.toInt.toNat) = _ from ((hk_ot rfl).trans ((hk_ot rfl).trans q_v3))) ?_
  refine qm_Ru.go 0 (c' := (39, [.ref 118, .int a, .int 0], [.int v3, .int 2, .ref 144], (h.1, qm_up (qm_up h.2.1 144 0 v1) 144 1 v2, h.2.2.1, h.2.2.2))) rfl ?_
  refine hk_ias rfl (hH.1 144 (0, 13) rfl) (by decide) (by decide) ?_
  refine qm_Ru.go 1 (c' := (41, [.ref 118, .int a, .int 0], [.ref 118], (h.1, qm_up (qm_up (qm_up h.2.1 144 0 v1) 144 1 v2) 144 2 v3, h.2.2.1, h.2.2.2))) rfl ?_
  refine hk_getr rfl (hH.1 118 (17, 105) rfl) rfl (hH.2 118 42 (some 144) rfl) ?_
  refine qm_Ru.go 4 (c' := (48, [.ref 118, .int a, .int 0], [.ref 118, .int 3, .ref 144], (h.1, qm_up (qm_up (qm_up h.2.1 144 0 v1) 144 1 v2) 144 2 v3, h.2.2.1, h.2.2.2))) rfl ?_
  refine hk_getr rfl (hH.1 118 (17, 105) rfl) rfl (hH.2 118 50 (some 151) rfl) ?_
  refine qm_Ru.go 1 (c' := (52, [.ref 118, .int a, .int 0], [.int a, .ref 151, .int 3, .ref 144], (h.1, qm_up (qm_up (qm_up h.2.1 144 0 v1) 144 1 v2) 144 2 v3, h.2.2.1, h.2.2.2))) rfl ?_
  obtain ⟨v4, q_v4⟩ : ∃ v, h.2.1 151 (a.toInt.toNat) = v := ⟨_, rfl⟩
  have b_v4 : (0 : Int) ≤ v4.toInt ∧ v4.toInt ≤ 79 := by rw [← q_v4]; exact hB 151 (a.toInt.toNat)
  refine hk_ial (v := v4) rfl (hH.1 151 (0, 30) rfl) (by omega) (by omega) (show (qm_up (qm_up (qm_up h.2.1 144 0 v1) 144 1 v2) 144 2 v3) 151 (a.toInt.toNat) = _ from ((hk_ot rfl).trans ((hk_ot rfl).trans ((hk_ot rfl).trans q_v4)))) ?_
  refine qm_Ru.go 2 (c' := (56, [.ref 118, .int a, .int 0], [.int (v4 / 16), .int 3, .ref 144], (h.1, qm_up (qm_up (qm_up h.2.1 144 0 v1) 144 1 v2) 144 2 v3, h.2.2.1, h.2.2.2))) rfl ?_
  obtain ⟨v5, q_v5, e_v5⟩ := hk_div (x := v4) (y := 16) (a := v4.toInt) (b := 16) rfl rfl (by omega) (by omega)
  rw [q_v5]
  refine hk_ias rfl (hH.1 144 (0, 13) rfl) (by decide) (by decide) ?_
  refine qm_Ru.go 1 (c' := (58, [.ref 118, .int a, .int 0], [.ref 118], (h.1, qm_up (qm_up (qm_up (qm_up h.2.1 144 0 v1) 144 1 v2) 144 2 v3) 144 3 v5, h.2.2.1, h.2.2.2))) rfl ?_
  refine hk_getr rfl (hH.1 118 (17, 105) rfl) rfl (hH.2 118 42 (some 144) rfl) ?_
  refine qm_Ru.go 4 (c' := (65, [.ref 118, .int a, .int 0], [.ref 118, .int 4, .ref 144], (h.1, qm_up (qm_up (qm_up (qm_up h.2.1 144 0 v1) 144 1 v2) 144 2 v3) 144 3 v5, h.2.2.1, h.2.2.2))) rfl ?_
  refine hk_getr rfl (hH.1 118 (17, 105) rfl) rfl (hH.2 118 50 (some 151) rfl) ?_
  refine qm_Ru.go 1 (c' := (69, [.ref 118, .int a, .int 0], [.int a, .ref 151, .int 4, .ref 144], (h.1, qm_up (qm_up (qm_up (qm_up h.2.1 144 0 v1) 144 1 v2) 144 2 v3) 144 3 v5, h.2.2.1, h.2.2.2))) rfl ?_
  refine hk_ial (v := v4) rfl (hH.1 151 (0, 30) rfl) (by omega) (by omega) (show (qm_up (qm_up (qm_up (qm_up h.2.1 144 0 v1) 144 1 v2) 144 2 v3) 144 3 v5) 151 (a.toInt.toNat) = _ from ((hk_ot rfl).trans ((hk_ot rfl).trans ((hk_ot rfl).trans ((hk_ot rfl).trans q_v4))))) ?_
  refine qm_Ru.go 2 (c' := (72, [.ref 118, .int a, .int 0], [.int (v4 / 4), .int 4, .ref 144], (h.1, qm_up (qm_up (qm_up (qm_up h.2.1 144 0 v1) 144 1 v2) 144 2 v3) 144 3 v5, h.2.2.1, h.2.2.2))) rfl ?_
  obtain ⟨v6, q_v6, e_v6⟩ := hk_div (x := v4) (y := 4) (a := v4.toInt) (b := 4) rfl rfl (by omega) (by omega)
  rw [q_v6]
  refine qm_Ru.go 2 (c' := (74, [.ref 118, .int a, .int 0], [.int (v6 - v6 / 4 * 4), .int 4, .ref 144], (h.1, qm_up (qm_up (qm_up (qm_up h.2.1 144 0 v1) 144 1 v2) 144 2 v3) 144 3 v5, h.2.2.1, h.2.2.2))) rfl ?_
  obtain ⟨v7, q_v7, e_v7⟩ := hk_rem (x := v6) (y := 4) (a := v6.toInt) (b := 4) rfl rfl (by omega) (by omega)
  rw [q_v7]
  refine hk_ias rfl (hH.1 144 (0, 13) rfl) (by decide) (by decide) ?_
  refine qm_Ru.go 1 (c' := (76, [.ref 118, .int a, .int 0], [.ref 118], (h.1, qm_up (qm_up (qm_up (qm_up (qm_up h.2.1 144 0 v1) 144 1 v2) 144 2 v3) 144 3 v5) 144 4 v7, h.2.2.1, h.2.2.2))) rfl ?_
  refine hk_getr rfl (hH.1 118 (17, 105) rfl) rfl (hH.2 118 42 (some 144) rfl) ?_
  refine qm_Ru.go 4 (c' := (83, [.ref 118, .int a, .int 0], [.ref 118, .int 5, .ref 144], (h.1, qm_up (qm_up (qm_up (qm_up (qm_up h.2.1 144 0 v1) 144 1 v2) 144 2 v3) 144 3 v5) 144 4 v7, h.2.2.1, h.2.2.2))) rfl ?_
  refine hk_getr rfl (hH.1 118 (17, 105) rfl) rfl (hH.2 118 50 (some 151) rfl) ?_
  refine qm_Ru.go 1 (c' := (87, [.ref 118, .int a, .int 0], [.int a, .ref 151, .int 5, .ref 144], (h.1, qm_up (qm_up (qm_up (qm_up (qm_up h.2.1 144 0 v1) 144 1 v2) 144 2 v3) 144 3 v5) 144 4 v7, h.2.2.1, h.2.2.2))) rfl ?_
  refine hk_ial (v := v4) rfl (hH.1 151 (0, 30) rfl) (by omega) (by omega) (show (qm_up (qm_up (qm_up (qm_up (qm_up h.2.1 144 0 v1) 144 1 v2) 144 2 v3) 144 3 v5) 144 4 v7) 151 (a.toInt.toNat) = _ from ((hk_ot rfl).trans ((hk_ot rfl).trans ((hk_ot rfl).trans ((hk_ot rfl).trans ((hk_ot rfl).trans q_v4)))))) ?_
  refine qm_Ru.go 2 (c' := (90, [.ref 118, .int a, .int 0], [.int (v4 - v4 / 4 * 4), .int 5, .ref 144], (h.1, qm_up (qm_up (qm_up (qm_up (qm_up h.2.1 144 0 v1) 144 1 v2) 144 2 v3) 144 3 v5) 144 4 v7, h.2.2.1, h.2.2.2))) rfl ?_
  obtain ⟨v8, q_v8, e_v8⟩ := hk_rem (x := v4) (y := 4) (a := v4.toInt) (b := 4) rfl rfl (by omega) (by omega)
  rw [q_v8]
  refine hk_ias rfl (hH.1 144 (0, 13) rfl) (by decide) (by decide) ?_
  refine qm_Ru.go 0 (c' := (91, [.ref 118, .int a, .int 0], [], (h.1, qm_up (qm_up (qm_up (qm_up (qm_up (qm_up h.2.1 144 0 v1) 144 1 v2) 144 2 v3) 144 3 v5) 144 4 v7) 144 5 v8, h.2.2.1, h.2.2.2))) rfl ?_
  refine qm_Ru.rt (v := none) (h' := (h.1, qm_up (qm_up (qm_up (qm_up (qm_up (qm_up h.2.1 144 0 v1) 144 1 v2) 144 2 v3) 144 3 v5) 144 4 v7) 144 5 v8, h.2.2.1, h.2.2.2)) rfl ?_
  refine qm_Ru.go 1 (c' := (7, [.ref 118, .int ru, .int a, .int b], [.ref 118], (h.1, qm_up (qm_up (qm_up (qm_up (qm_up (qm_up h.2.1 144 0 v1) 144 1 v2) 144 2 v3) 144 3 v5) 144 4 v7) 144 5 v8, h.2.2.1, h.2.2.2))) rfl ?_
  refine hk_getr rfl (hH.1 118 (17, 105) rfl) rfl (hH.2 118 42 (some 144) rfl) ?_
  refine qm_Ru.go 3 (c' := (14, [.ref 118, .int ru, .int a, .int b], [.ref 118, .ref 118, .int 6, .ref 144], (h.1, qm_up (qm_up (qm_up (qm_up (qm_up (qm_up h.2.1 144 0 v1) 144 1 v2) 144 2 v3) 144 3 v5) 144 4 v7) 144 5 v8, h.2.2.1, h.2.2.2))) rfl ?_
  refine hk_getr rfl (hH.1 118 (17, 105) rfl) rfl (hH.2 118 50 (some 151) rfl) ?_
  refine qm_Ru.go 1 (c' := (18, [.ref 118, .int ru, .int a, .int b], [.int a, .ref 151, .ref 118, .int 6, .ref 144], (h.1, qm_up (qm_up (qm_up (qm_up (qm_up (qm_up h.2.1 144 0 v1) 144 1 v2) 144 2 v3) 144 3 v5) 144 4 v7) 144 5 v8, h.2.2.1, h.2.2.2))) rfl ?_
  refine hk_ial (v := v4) rfl (hH.1 151 (0, 30) rfl) (by omega) (by omega) (show (qm_up (qm_up (qm_up (qm_up (qm_up (qm_up h.2.1 144 0 v1) 144 1 v2) 144 2 v3) 144 3 v5) 144 4 v7) 144 5 v8) 151 (a.toInt.toNat) = _ from ((hk_ot rfl).trans ((hk_ot rfl).trans ((hk_ot rfl).trans ((hk_ot rfl).trans ((hk_ot rfl).trans ((hk_ot rfl).trans q_v4))))))) ?_
  refine qm_Ru.go 0 (c' := (19, [.ref 118, .int ru, .int a, .int b], [.int v4, .ref 118, .int 6, .ref 144], (h.1, qm_up (qm_up (qm_up (qm_up (qm_up (qm_up h.2.1 144 0 v1) 144 1 v2) 144 2 v3) 144 3 v5) 144 4 v7) 144 5 v8, h.2.2.1, h.2.2.2))) rfl ?_
  refine hk_inv (o := 118) (r := [.int 6, .ref 144]) (as := [.ref 118, .int v4]) rfl rfl (hH.1 118 (17, 105) rfl) rfl rfl rfl rfl ?_
  refine qm_Ru.go 1 (c' := (1, [.ref 118, .int v4], [.ref 118], (h.1, qm_up (qm_up (qm_up (qm_up (qm_up (qm_up h.2.1 144 0 v1) 144 1 v2) 144 2 v3) 144 3 v5) 144 4 v7) 144 5 v8, h.2.2.1, h.2.2.2))) rfl ?_
  refine hk_getr rfl (hH.1 118 (17, 105) rfl) rfl (hH.2 118 25 (some 130) rfl) ?_
  refine qm_Ru.go 2 (c' := (7, [.ref 118, .int v4], [.ref 118, .int 20, .ref 130], (h.1, qm_up (qm_up (qm_up (qm_up (qm_up (qm_up h.2.1 144 0 v1) 144 1 v2) 144 2 v3) 144 3 v5) 144 4 v7) 144 5 v8, h.2.2.1, h.2.2.2))) rfl ?_
  obtain ⟨v9, q_v9⟩ : ∃ v, h.2.1 118 18 = v := ⟨_, rfl⟩
  have b_v9 : (0 : Int) ≤ v9.toInt ∧ v9.toInt ≤ 1 := by rw [← q_v9]; exact hB 118 18
  refine hk_geti (v := v9) rfl (hH.1 118 (17, 105) rfl) rfl (show (qm_up (qm_up (qm_up (qm_up (qm_up (qm_up h.2.1 144 0 v1) 144 1 v2) 144 2 v3) 144 3 v5) 144 4 v7) 144 5 v8) 118 18 = _ from ((hk_ot rfl).trans ((hk_ot rfl).trans ((hk_ot rfl).trans ((hk_ot rfl).trans ((hk_ot rfl).trans ((hk_ot rfl).trans q_v9))))))) ?_
  refine qm_Ru.go 1 (c' := (11, [.ref 118, .int v4], [.int (20 * v9), .ref 130], (h.1, qm_up (qm_up (qm_up (qm_up (qm_up (qm_up h.2.1 144 0 v1) 144 1 v2) 144 2 v3) 144 3 v5) 144 4 v7) 144 5 v8, h.2.2.1, h.2.2.2))) rfl ?_
  obtain ⟨v10, q_v10, e_v10⟩ := hk_mul (x := 20) (y := v9) (a := 20) (b := v9.toInt) rfl rfl (by omega) (by omega)
  rw [q_v10]
  refine qm_Ru.go 3 (c' := (14, [.ref 118, .int v4], [.int (v4 / 4), .int v10, .ref 130], (h.1, qm_up (qm_up (qm_up (qm_up (qm_up (qm_up h.2.1 144 0 v1) 144 1 v2) 144 2 v3) 144 3 v5) 144 4 v7) 144 5 v8, h.2.2.1, h.2.2.2))) rfl ?_
  rw [q_v6]
  refine qm_Ru.go 1 (c' := (15, [.ref 118, .int v4], [.int (v10 + v6), .ref 130], (h.1, qm_up (qm_up (qm_up (qm_up (qm_up (qm_up h.2.1 144 0 v1) 144 1 v2) 144 2 v3) 144 3 v5) 144 4 v7) 144 5 v8, h.2.2.1, h.2.2.2))) rfl ?_
  obtain ⟨v12, q_v12, e_v12⟩ := hk_add (x := v10) (y := v6) (a := v10.toInt) (b := v6.toInt) rfl rfl (by omega) (by omega)
  rw [q_v12]
  obtain ⟨v13, q_v13⟩ : ∃ v, h.2.1 130 (v12.toInt.toNat) = v := ⟨_, rfl⟩
  have b_v13 : (0 : Int) ≤ v13.toInt ∧ v13.toInt ≤ 1 := by rw [← q_v13]; exact hB 130 (v12.toInt.toNat)
  refine hk_bal (v := v13) rfl (hH.1 130 (2, 40) rfl) (by decide) (by omega) (by omega) (show (qm_up (qm_up (qm_up (qm_up (qm_up (qm_up h.2.1 144 0 v1) 144 1 v2) 144 2 v3) 144 3 v5) 144 4 v7) 144 5 v8) 130 (v12.toInt.toNat) = _ from ((hk_ot rfl).trans ((hk_ot rfl).trans ((hk_ot rfl).trans ((hk_ot rfl).trans ((hk_ot rfl).trans ((hk_ot rfl).trans q_v13))))))) ?_
  refine qm_Ru.go 0 (c' := (16, [.ref 118, .int v4], [.int v13], (h.1, qm_up (qm_up (qm_up (qm_up (qm_up (qm_up h.2.1 144 0 v1) 144 1 v2) 144 2 v3) 144 3 v5) 144 4 v7) 144 5 v8, h.2.2.1, h.2.2.2))) rfl ?_
  refine hk_zeq (ix := v13.toInt) rfl rfl (fun z14 => ?_) (fun z14 => ?_)
  · refine qm_Ru.go 1 (c' := (24, [.ref 118, .int v4], [.int 0], (h.1, qm_up (qm_up (qm_up (qm_up (qm_up (qm_up h.2.1 144 0 v1) 144 1 v2) 144 2 v3) 144 3 v5) 144 4 v7) 144 5 v8, h.2.2.1, h.2.2.2))) rfl ?_
    refine qm_Ru.rt (v := (some (.int 0))) (h' := (h.1, qm_up (qm_up (qm_up (qm_up (qm_up (qm_up h.2.1 144 0 v1) 144 1 v2) 144 2 v3) 144 3 v5) 144 4 v7) 144 5 v8, h.2.2.1, h.2.2.2)) rfl ?_
    refine qm_Ru.go 0 (c' := (22, [.ref 118, .int ru, .int a, .int b], [.int 0, .int 6, .ref 144], (h.1, qm_up (qm_up (qm_up (qm_up (qm_up (qm_up h.2.1 144 0 v1) 144 1 v2) 144 2 v3) 144 3 v5) 144 4 v7) 144 5 v8, h.2.2.1, h.2.2.2))) rfl ?_
    refine hk_ias rfl (hH.1 144 (0, 13) rfl) (by decide) (by decide) ?_
    refine qm_Ru.go 3 (c' := (27, [.ref 118, .int ru, .int a, .int b], [.int 7, .int b, .ref 118], (h.1, qm_up (qm_up (qm_up (qm_up (qm_up (qm_up (qm_up h.2.1 144 0 v1) 144 1 v2) 144 2 v3) 144 3 v5) 144 4 v7) 144 5 v8) 144 6 0, h.2.2.1, h.2.2.2))) rfl ?_
    refine hk_inv (o := 118) (r := []) (as := [.ref 118, .int b, .int 7]) rfl rfl (hH.1 118 (17, 105) rfl) rfl rfl rfl rfl ?_
    refine qm_Ru.go 1 (c' := (1, [.ref 118, .int b, .int 7], [.ref 118], (h.1, qm_up (qm_up (qm_up (qm_up (qm_up (qm_up (qm_up h.2.1 144 0 v1) 144 1 v2) 144 2 v3) 144 3 v5) 144 4 v7) 144 5 v8) 144 6 0, h.2.2.1, h.2.2.2))) rfl ?_
    refine hk_getr rfl (hH.1 118 (17, 105) rfl) rfl (hH.2 118 42 (some 144) rfl) ?_
    refine qm_Ru.go 2 (c' := (6, [.ref 118, .int b, .int 7], [.ref 118, .int 7, .ref 144], (h.1, qm_up (qm_up (qm_up (qm_up (qm_up (qm_up (qm_up h.2.1 144 0 v1) 144 1 v2) 144 2 v3) 144 3 v5) 144 4 v7) 144 5 v8) 144 6 0, h.2.2.1, h.2.2.2))) rfl ?_
    refine hk_getr rfl (hH.1 118 (17, 105) rfl) rfl (hH.2 118 47 (some 148) rfl) ?_
    refine qm_Ru.go 1 (c' := (10, [.ref 118, .int b, .int 7], [.int b, .ref 148, .int 7, .ref 144], (h.1, qm_up (qm_up (qm_up (qm_up (qm_up (qm_up (qm_up h.2.1 144 0 v1) 144 1 v2) 144 2 v3) 144 3 v5) 144 4 v7) 144 5 v8) 144 6 0, h.2.2.1, h.2.2.2))) rfl ?_
    obtain ⟨v15, q_v15⟩ : ∃ v, h.2.1 148 (b.toInt.toNat) = v := ⟨_, rfl⟩
    have b_v15 : (0 : Int) ≤ v15.toInt ∧ v15.toInt ≤ 5 := by rw [← q_v15]; exact hB 148 (b.toInt.toNat)
    refine hk_ial (v := v15) rfl (hH.1 148 (0, 30) rfl) (by omega) (by omega) (show (qm_up (qm_up (qm_up (qm_up (qm_up (qm_up (qm_up h.2.1 144 0 v1) 144 1 v2) 144 2 v3) 144 3 v5) 144 4 v7) 144 5 v8) 144 6 0) 148 (b.toInt.toNat) = _ from ((hk_ot rfl).trans ((hk_ot rfl).trans ((hk_ot rfl).trans ((hk_ot rfl).trans ((hk_ot rfl).trans ((hk_ot rfl).trans ((hk_ot rfl).trans q_v15)))))))) ?_
    refine qm_Ru.go 0 (c' := (11, [.ref 118, .int b, .int 7], [.int v15, .int 7, .ref 144], (h.1, qm_up (qm_up (qm_up (qm_up (qm_up (qm_up (qm_up h.2.1 144 0 v1) 144 1 v2) 144 2 v3) 144 3 v5) 144 4 v7) 144 5 v8) 144 6 0, h.2.2.1, h.2.2.2))) rfl ?_
    refine hk_ias rfl (hH.1 144 (0, 13) rfl) (by decide) (by decide) ?_
    refine qm_Ru.go 1 (c' := (13, [.ref 118, .int b, .int 7], [.ref 118], (h.1, qm_up (qm_up (qm_up (qm_up (qm_up (qm_up (qm_up (qm_up h.2.1 144 0 v1) 144 1 v2) 144 2 v3) 144 3 v5) 144 4 v7) 144 5 v8) 144 6 0) 144 7 v15, h.2.2.1, h.2.2.2))) rfl ?_
    refine hk_getr rfl (hH.1 118 (17, 105) rfl) rfl (hH.2 118 42 (some 144) rfl) ?_
    refine qm_Ru.go 4 (c' := (20, [.ref 118, .int b, .int 7], [.ref 118, .int 8, .ref 144], (h.1, qm_up (qm_up (qm_up (qm_up (qm_up (qm_up (qm_up (qm_up h.2.1 144 0 v1) 144 1 v2) 144 2 v3) 144 3 v5) 144 4 v7) 144 5 v8) 144 6 0) 144 7 v15, h.2.2.1, h.2.2.2))) rfl ?_
    refine hk_getr rfl (hH.1 118 (17, 105) rfl) rfl (hH.2 118 45 (some 146) rfl) ?_
    refine qm_Ru.go 1 (c' := (24, [.ref 118, .int b, .int 7], [.int b, .ref 146, .int 8, .ref 144], (h.1, qm_up (qm_up (qm_up (qm_up (qm_up (qm_up (qm_up (qm_up h.2.1 144 0 v1) 144 1 v2) 144 2 v3) 144 3 v5) 144 4 v7) 144 5 v8) 144 6 0) 144 7 v15, h.2.2.1, h.2.2.2))) rfl ?_
    obtain ⟨v16, q_v16⟩ : ∃ v, h.2.1 146 (b.toInt.toNat) = v := ⟨_, rfl⟩
    have b_v16 : (0 : Int) ≤ v16.toInt ∧ v16.toInt ≤ 40 := by rw [← q_v16]; exact hB 146 (b.toInt.toNat)
    refine hk_ial (v := v16) rfl (hH.1 146 (0, 30) rfl) (by omega) (by omega) (show (qm_up (qm_up (qm_up (qm_up (qm_up (qm_up (qm_up (qm_up h.2.1 144 0 v1) 144 1 v2) 144 2 v3) 144 3 v5) 144 4 v7) 144 5 v8) 144 6 0) 144 7 v15) 146 (b.toInt.toNat) = _ from ((hk_ot rfl).trans ((hk_ot rfl).trans ((hk_ot rfl).trans ((hk_ot rfl).trans ((hk_ot rfl).trans ((hk_ot rfl).trans ((hk_ot rfl).trans ((hk_ot rfl).trans q_v16))))))))) ?_
    refine qm_Ru.go 0 (c' := (25, [.ref 118, .int b, .int 7], [.int v16, .int 8, .ref 144], (h.1, qm_up (qm_up (qm_up (qm_up (qm_up (qm_up (qm_up (qm_up h.2.1 144 0 v1) 144 1 v2) 144 2 v3) 144 3 v5) 144 4 v7) 144 5 v8) 144 6 0) 144 7 v15, h.2.2.1, h.2.2.2))) rfl ?_
    refine hk_ias rfl (hH.1 144 (0, 13) rfl) (by decide) (by decide) ?_
    refine qm_Ru.go 1 (c' := (27, [.ref 118, .int b, .int 7], [.ref 118], (h.1, qm_up (qm_up (qm_up (qm_up (qm_up (qm_up (qm_up (qm_up (qm_up h.2.1 144 0 v1) 144 1 v2) 144 2 v3) 144 3 v5) 144 4 v7) 144 5 v8) 144 6 0) 144 7 v15) 144 8 v16, h.2.2.1, h.2.2.2))) rfl ?_
    refine hk_getr rfl (hH.1 118 (17, 105) rfl) rfl (hH.2 118 42 (some 144) rfl) ?_
    refine qm_Ru.go 4 (c' := (34, [.ref 118, .int b, .int 7], [.ref 118, .int 9, .ref 144], (h.1, qm_up (qm_up (qm_up (qm_up (qm_up (qm_up (qm_up (qm_up (qm_up h.2.1 144 0 v1) 144 1 v2) 144 2 v3) 144 3 v5) 144 4 v7) 144 5 v8) 144 6 0) 144 7 v15) 144 8 v16, h.2.2.1, h.2.2.2))) rfl ?_
    refine hk_getr rfl (hH.1 118 (17, 105) rfl) rfl (hH.2 118 46 (some 147) rfl) ?_
    refine qm_Ru.go 1 (c' := (38, [.ref 118, .int b, .int 7], [.int b, .ref 147, .int 9, .ref 144], (h.1, qm_up (qm_up (qm_up (qm_up (qm_up (qm_up (qm_up (qm_up (qm_up h.2.1 144 0 v1) 144 1 v2) 144 2 v3) 144 3 v5) 144 4 v7) 144 5 v8) 144 6 0) 144 7 v15) 144 8 v16, h.2.2.1, h.2.2.2))) rfl ?_
    obtain ⟨v17, q_v17⟩ : ∃ v, h.2.1 147 (b.toInt.toNat) = v := ⟨_, rfl⟩
    have b_v17 : (0 : Int) ≤ v17.toInt ∧ v17.toInt ≤ 4 := by rw [← q_v17]; exact hB 147 (b.toInt.toNat)
    refine hk_ial (v := v17) rfl (hH.1 147 (0, 30) rfl) (by omega) (by omega) (show (qm_up (qm_up (qm_up (qm_up (qm_up (qm_up (qm_up (qm_up (qm_up h.2.1 144 0 v1) 144 1 v2) 144 2 v3) 144 3 v5) 144 4 v7) 144 5 v8) 144 6 0) 144 7 v15) 144 8 v16) 147 (b.toInt.toNat) = _ from ((hk_ot rfl).trans ((hk_ot rfl).trans ((hk_ot rfl).trans ((hk_ot rfl).trans ((hk_ot rfl).trans ((hk_ot rfl).trans ((hk_ot rfl).trans ((hk_ot rfl).trans ((hk_ot rfl).trans q_v17)))))))))) ?_
    refine qm_Ru.go 0 (c' := (39, [.ref 118, .int b, .int 7], [.int v17, .int 9, .ref 144], (h.1, qm_up (qm_up (qm_up (qm_up (qm_up (qm_up (qm_up (qm_up (qm_up h.2.1 144 0 v1) 144 1 v2) 144 2 v3) 144 3 v5) 144 4 v7) 144 5 v8) 144 6 0) 144 7 v15) 144 8 v16, h.2.2.1, h.2.2.2))) rfl ?_
    refine hk_ias rfl (hH.1 144 (0, 13) rfl) (by decide) (by decide) ?_
    refine qm_Ru.go 1 (c' := (41, [.ref 118, .int b, .int 7], [.ref 118], (h.1, qm_up (qm_up (qm_up (qm_up (qm_up (qm_up (qm_up (qm_up (qm_up (qm_up h.2.1 144 0 v1) 144 1 v2) 144 2 v3) 144 3 v5) 144 4 v7) 144 5 v8) 144 6 0) 144 7 v15) 144 8 v16) 144 9 v17, h.2.2.1, h.2.2.2))) rfl ?_
    refine hk_getr rfl (hH.1 118 (17, 105) rfl) rfl (hH.2 118 42 (some 144) rfl) ?_
    refine qm_Ru.go 4 (c' := (48, [.ref 118, .int b, .int 7], [.ref 118, .int 10, .ref 144], (h.1, qm_up (qm_up (qm_up (qm_up (qm_up (qm_up (qm_up (qm_up (qm_up (qm_up h.2.1 144 0 v1) 144 1 v2) 144 2 v3) 144 3 v5) 144 4 v7) 144 5 v8) 144 6 0) 144 7 v15) 144 8 v16) 144 9 v17, h.2.2.1, h.2.2.2))) rfl ?_
    refine hk_getr rfl (hH.1 118 (17, 105) rfl) rfl (hH.2 118 50 (some 151) rfl) ?_
    refine qm_Ru.go 1 (c' := (52, [.ref 118, .int b, .int 7], [.int b, .ref 151, .int 10, .ref 144], (h.1, qm_up (qm_up (qm_up (qm_up (qm_up (qm_up (qm_up (qm_up (qm_up (qm_up h.2.1 144 0 v1) 144 1 v2) 144 2 v3) 144 3 v5) 144 4 v7) 144 5 v8) 144 6 0) 144 7 v15) 144 8 v16) 144 9 v17, h.2.2.1, h.2.2.2))) rfl ?_
    obtain ⟨v18, q_v18⟩ : ∃ v, h.2.1 151 (b.toInt.toNat) = v := ⟨_, rfl⟩
    have b_v18 : (0 : Int) ≤ v18.toInt ∧ v18.toInt ≤ 79 := by rw [← q_v18]; exact hB 151 (b.toInt.toNat)
    refine hk_ial (v := v18) rfl (hH.1 151 (0, 30) rfl) (by omega) (by omega) (show (qm_up (qm_up (qm_up (qm_up (qm_up (qm_up (qm_up (qm_up (qm_up (qm_up h.2.1 144 0 v1) 144 1 v2) 144 2 v3) 144 3 v5) 144 4 v7) 144 5 v8) 144 6 0) 144 7 v15) 144 8 v16) 144 9 v17) 151 (b.toInt.toNat) = _ from ((hk_ot rfl).trans ((hk_ot rfl).trans ((hk_ot rfl).trans ((hk_ot rfl).trans ((hk_ot rfl).trans ((hk_ot rfl).trans ((hk_ot rfl).trans ((hk_ot rfl).trans ((hk_ot rfl).trans ((hk_ot rfl).trans q_v18))))))))))) ?_
    refine qm_Ru.go 2 (c' := (56, [.ref 118, .int b, .int 7], [.int (v18 / 16), .int 10, .ref 144], (h.1, qm_up (qm_up (qm_up (qm_up (qm_up (qm_up (qm_up (qm_up (qm_up (qm_up h.2.1 144 0 v1) 144 1 v2) 144 2 v3) 144 3 v5) 144 4 v7) 144 5 v8) 144 6 0) 144 7 v15) 144 8 v16) 144 9 v17, h.2.2.1, h.2.2.2))) rfl ?_
    obtain ⟨v19, q_v19, e_v19⟩ := hk_div (x := v18) (y := 16) (a := v18.toInt) (b := 16) rfl rfl (by omega) (by omega)
    rw [q_v19]
    refine hk_ias rfl (hH.1 144 (0, 13) rfl) (by decide) (by decide) ?_
    refine qm_Ru.go 1 (c' := (58, [.ref 118, .int b, .int 7], [.ref 118], (h.1, qm_up (qm_up (qm_up (qm_up (qm_up (qm_up (qm_up (qm_up (qm_up (qm_up (qm_up h.2.1 144 0 v1) 144 1 v2) 144 2 v3) 144 3 v5) 144 4 v7) 144 5 v8) 144 6 0) 144 7 v15) 144 8 v16) 144 9 v17) 144 10 v19, h.2.2.1, h.2.2.2))) rfl ?_
    refine hk_getr rfl (hH.1 118 (17, 105) rfl) rfl (hH.2 118 42 (some 144) rfl) ?_
    refine qm_Ru.go 4 (c' := (65, [.ref 118, .int b, .int 7], [.ref 118, .int 11, .ref 144], (h.1, qm_up (qm_up (qm_up (qm_up (qm_up (qm_up (qm_up (qm_up (qm_up (qm_up (qm_up h.2.1 144 0 v1) 144 1 v2) 144 2 v3) 144 3 v5) 144 4 v7) 144 5 v8) 144 6 0) 144 7 v15) 144 8 v16) 144 9 v17) 144 10 v19, h.2.2.1, h.2.2.2))) rfl ?_
    refine hk_getr rfl (hH.1 118 (17, 105) rfl) rfl (hH.2 118 50 (some 151) rfl) ?_
    refine qm_Ru.go 1 (c' := (69, [.ref 118, .int b, .int 7], [.int b, .ref 151, .int 11, .ref 144], (h.1, qm_up (qm_up (qm_up (qm_up (qm_up (qm_up (qm_up (qm_up (qm_up (qm_up (qm_up h.2.1 144 0 v1) 144 1 v2) 144 2 v3) 144 3 v5) 144 4 v7) 144 5 v8) 144 6 0) 144 7 v15) 144 8 v16) 144 9 v17) 144 10 v19, h.2.2.1, h.2.2.2))) rfl ?_
    refine hk_ial (v := v18) rfl (hH.1 151 (0, 30) rfl) (by omega) (by omega) (show (qm_up (qm_up (qm_up (qm_up (qm_up (qm_up (qm_up (qm_up (qm_up (qm_up (qm_up h.2.1 144 0 v1) 144 1 v2) 144 2 v3) 144 3 v5) 144 4 v7) 144 5 v8) 144 6 0) 144 7 v15) 144 8 v16) 144 9 v17) 144 10 v19) 151 (b.toInt.toNat) = _ from ((hk_ot rfl).trans ((hk_ot rfl).trans ((hk_ot rfl).trans ((hk_ot rfl).trans ((hk_ot rfl).trans ((hk_ot rfl).trans ((hk_ot rfl).trans ((hk_ot rfl).trans ((hk_ot rfl).trans ((hk_ot rfl).trans ((hk_ot rfl).trans q_v18)))))))))))) ?_
    refine qm_Ru.go 2 (c' := (72, [.ref 118, .int b, .int 7], [.int (v18 / 4), .int 11, .ref 144], (h.1, qm_up (qm_up (qm_up (qm_up (qm_up (qm_up (qm_up (qm_up (qm_up (qm_up (qm_up h.2.1 144 0 v1) 144 1 v2) 144 2 v3) 144 3 v5) 144 4 v7) 144 5 v8) 144 6 0) 144 7 v15) 144 8 v16) 144 9 v17) 144 10 v19, h.2.2.1, h.2.2.2))) rfl ?_
    obtain ⟨v20, q_v20, e_v20⟩ := hk_div (x := v18) (y := 4) (a := v18.toInt) (b := 4) rfl rfl (by omega) (by omega)
    rw [q_v20]
    refine qm_Ru.go 2 (c' := (74, [.ref 118, .int b, .int 7], [.int (v20 - v20 / 4 * 4), .int 11, .ref 144], (h.1, qm_up (qm_up (qm_up (qm_up (qm_up (qm_up (qm_up (qm_up (qm_up (qm_up (qm_up h.2.1 144 0 v1) 144 1 v2) 144 2 v3) 144 3 v5) 144 4 v7) 144 5 v8) 144 6 0) 144 7 v15) 144 8 v16) 144 9 v17) 144 10 v19, h.2.2.1, h.2.2.2))) rfl ?_
    obtain ⟨v21, q_v21, e_v21⟩ := hk_rem (x := v20) (y := 4) (a := v20.toInt) (b := 4) rfl rfl (by omega) (by omega)
    rw [q_v21]
    refine hk_ias rfl (hH.1 144 (0, 13) rfl) (by decide) (by decide) ?_
    refine qm_Ru.go 1 (c' := (76, [.ref 118, .int b, .int 7], [.ref 118], (h.1, qm_up (qm_up (qm_up (qm_up (qm_up (qm_up (qm_up (qm_up (qm_up (qm_up (qm_up (qm_up h.2.1 144 0 v1) 144 1 v2) 144 2 v3) 144 3 v5) 144 4 v7) 144 5 v8) 144 6 0) 144 7 v15) 144 8 v16) 144 9 v17) 144 10 v19) 144 11 v21, h.2.2.1, h.2.2.2))) rfl ?_
    refine hk_getr rfl (hH.1 118 (17, 105) rfl) rfl (hH.2 118 42 (some 144) rfl) ?_
    refine qm_Ru.go 4 (c' := (83, [.ref 118, .int b, .int 7], [.ref 118, .int 12, .ref 144], (h.1, qm_up (qm_up (qm_up (qm_up (qm_up (qm_up (qm_up (qm_up (qm_up (qm_up (qm_up (qm_up h.2.1 144 0 v1) 144 1 v2) 144 2 v3) 144 3 v5) 144 4 v7) 144 5 v8) 144 6 0) 144 7 v15) 144 8 v16) 144 9 v17) 144 10 v19) 144 11 v21, h.2.2.1, h.2.2.2))) rfl ?_
    refine hk_getr rfl (hH.1 118 (17, 105) rfl) rfl (hH.2 118 50 (some 151) rfl) ?_
    refine qm_Ru.go 1 (c' := (87, [.ref 118, .int b, .int 7], [.int b, .ref 151, .int 12, .ref 144], (h.1, qm_up (qm_up (qm_up (qm_up (qm_up (qm_up (qm_up (qm_up (qm_up (qm_up (qm_up (qm_up h.2.1 144 0 v1) 144 1 v2) 144 2 v3) 144 3 v5) 144 4 v7) 144 5 v8) 144 6 0) 144 7 v15) 144 8 v16) 144 9 v17) 144 10 v19) 144 11 v21, h.2.2.1, h.2.2.2))) rfl ?_
    refine hk_ial (v := v18) rfl (hH.1 151 (0, 30) rfl) (by omega) (by omega) (show (qm_up (qm_up (qm_up (qm_up (qm_up (qm_up (qm_up (qm_up (qm_up (qm_up (qm_up (qm_up h.2.1 144 0 v1) 144 1 v2) 144 2 v3) 144 3 v5) 144 4 v7) 144 5 v8) 144 6 0) 144 7 v15) 144 8 v16) 144 9 v17) 144 10 v19) 144 11 v21) 151 (b.toInt.toNat) = _ from ((hk_ot rfl).trans ((hk_ot rfl).trans ((hk_ot rfl).trans ((hk_ot rfl).trans ((hk_ot rfl).trans ((hk_ot rfl).trans ((hk_ot rfl).trans ((hk_ot rfl).trans ((hk_ot rfl).trans ((hk_ot rfl).trans ((hk_ot rfl).trans ((hk_ot rfl).trans q_v18))))))))))))) ?_
    refine qm_Ru.go 2 (c' := (90, [.ref 118, .int b, .int 7], [.int (v18 - v18 / 4 * 4), .int 12, .ref 144], (h.1, qm_up (qm_up (qm_up (qm_up (qm_up (qm_up (qm_up (qm_up (qm_up (qm_up (qm_up (qm_up h.2.1 144 0 v1) 144 1 v2) 144 2 v3) 144 3 v5) 144 4 v7) 144 5 v8) 144 6 0) 144 7 v15) 144 8 v16) 144 9 v17) 144 10 v19) 144 11 v21, h.2.2.1, h.2.2.2))) rfl ?_
    obtain ⟨v22, q_v22, e_v22⟩ := hk_rem (x := v18) (y := 4) (a := v18.toInt) (b := 4) rfl rfl (by omega) (by omega)
    rw [q_v22]
    refine hk_ias rfl (hH.1 144 (0, 13) rfl) (by decide) (by decide) ?_
    refine qm_Ru.go 0 (c' := (91, [.ref 118, .int b, .int 7], [], (h.1, qm_up (qm_up (qm_up (qm_up (qm_up (qm_up (qm_up (qm_up (qm_up (qm_up (qm_up (qm_up (qm_up h.2.1 144 0 v1) 144 1 v2) 144 2 v3) 144 3 v5) 144 4 v7) 144 5 v8) 144 6 0) 144 7 v15) 144 8 v16) 144 9 v17) 144 10 v19) 144 11 v21) 144 12 v22, h.2.2.1, h.2.2.2))) rfl ?_
    refine qm_Ru.rt (v := none) (h' := (h.1, qm_up (qm_up (qm_up (qm_up (qm_up (qm_up (qm_up (qm_up (qm_up (qm_up (qm_up (qm_up (qm_up h.2.1 144 0 v1) 144 1 v2) 144 2 v3) 144 3 v5) 144 4 v7) 144 5 v8) 144 6 0) 144 7 v15) 144 8 v16) 144 9 v17) 144 10 v19) 144 11 v21) 144 12 v22, h.2.2.1, h.2.2.2)) rfl ?_
    refine qm_Ru.go 3 (c' := (34, [.ref 118, .int ru, .int a, .int b], [.ref 118, .int 16, .ref 118], (h.1, qm_up (qm_up (qm_up (qm_up (qm_up (qm_up (qm_up (qm_up (qm_up (qm_up (qm_up (qm_up (qm_up h.2.1 144 0 v1) 144 1 v2) 144 2 v3) 144 3 v5) 144 4 v7) 144 5 v8) 144 6 0) 144 7 v15) 144 8 v16) 144 9 v17) 144 10 v19) 144 11 v21) 144 12 v22, h.2.2.1, h.2.2.2))) rfl ?_
    refine hk_geti (v := v9) rfl (hH.1 118 (17, 105) rfl) rfl (show (qm_up (qm_up (qm_up (qm_up (qm_up (qm_up (qm_up (qm_up (qm_up (qm_up (qm_up (qm_up (qm_up h.2.1 144 0 v1) 144 1 v2) 144 2 v3) 144 3 v5) 144 4 v7) 144 5 v8) 144 6 0) 144 7 v15) 144 8 v16) 144 9 v17) 144 10 v19) 144 11 v21) 144 12 v22) 118 18 = _ from ((hk_ot rfl).trans ((hk_ot rfl).trans ((hk_ot rfl).trans ((hk_ot rfl).trans ((hk_ot rfl).trans ((hk_ot rfl).trans ((hk_ot rfl).trans ((hk_ot rfl).trans ((hk_ot rfl).trans ((hk_ot rfl).trans ((hk_ot rfl).trans ((hk_ot rfl).trans ((hk_ot rfl).trans q_v9)))))))))))))) ?_
    refine qm_Ru.go 1 (c' := (38, [.ref 118, .int ru, .int a, .int b], [.int (16 * v9), .ref 118], (h.1, qm_up (qm_up (qm_up (qm_up (qm_up (qm_up (qm_up (qm_up (qm_up (qm_up (qm_up (qm_up (qm_up h.2.1 144 0 v1) 144 1 v2) 144 2 v3) 144 3 v5) 144 4 v7) 144 5 v8) 144 6 0) 144 7 v15) 144 8 v16) 144 9 v17) 144 10 v19) 144 11 v21) 144 12 v22, h.2.2.1, h.2.2.2))) rfl ?_
    obtain ⟨v23, q_v23, e_v23⟩ := hk_mul (x := 16) (y := v9) (a := 16) (b := v9.toInt) rfl rfl (by omega) (by omega)
    rw [q_v23]
    refine qm_Ru.go 2 (c' := (40, [.ref 118, .int ru, .int a, .int b], [.int (v23 + ru), .ref 118], (h.1, qm_up (qm_up (qm_up (qm_up (qm_up (qm_up (qm_up (qm_up (qm_up (qm_up (qm_up (qm_up (qm_up h.2.1 144 0 v1) 144 1 v2) 144 2 v3) 144 3 v5) 144 4 v7) 144 5 v8) 144 6 0) 144 7 v15) 144 8 v16) 144 9 v17) 144 10 v19) 144 11 v21) 144 12 v22, h.2.2.1, h.2.2.2))) rfl ?_
    obtain ⟨v24, q_v24, e_v24⟩ := hk_add (x := v23) (y := ru) (a := v23.toInt) (b := ru.toInt) rfl rfl (by omega) (by omega)
    rw [q_v24]
    refine hk_inv (o := 118) (r := []) (as := [.ref 118, .int v24]) rfl rfl (hH.1 118 (17, 105) rfl) rfl rfl rfl rfl (hs_holds (h := (h.1, qm_up (qm_up (qm_up (qm_up (qm_up (qm_up (qm_up (qm_up (qm_up (qm_up (qm_up (qm_up (qm_up h.2.1 144 0 v1) 144 1 v2) 144 2 v3) 144 3 v5) 144 4 v7) 144 5 v8) 144 6 0) 144 7 v15) 144 8 v16) 144 9 v17) 144 10 v19) 144 11 v21) 144 12 v22, h.2.2.1, h.2.2.2)) h6 hH (hb_up (o := 144) (k := 12) (x := v22) (hb_up (o := 144) (k := 11) (x := v21) (hb_up (o := 144) (k := 10) (x := v19) (hb_up (o := 144) (k := 9) (x := v17) (hb_up (o := 144) (k := 8) (x := v16) (hb_up (o := 144) (k := 7) (x := v15) (hb_up (o := 144) (k := 6) (x := 0) (hb_up (o := 144) (k := 5) (x := v8) (hb_up (o := 144) (k := 4) (x := v7) (hb_up (o := 144) (k := 3) (x := v5) (hb_up (o := 144) (k := 2) (x := v3) (hb_up (o := 144) (k := 1) (x := v2) (hb_up (o := 144) (k := 0) (x := v1) hB (qa_in_full _)) (qa_in_full _)) (qa_in_full _)) (qa_in_full _)) (qa_in_full _)) (qa_in_full _)) (qa_in_full _)) (qa_in_full _)) (qa_in_full _)) (qa_in_full _)) (qa_in_full _)) (qa_in_full _)) (qa_in_full _)) (by omega) (by have g := hr; rw [q_v9] at g; rw [show v24.toInt.toNat = 16 * v9.toInt.toNat + ru.toInt.toNat from by omega]; exact rule_cg g ((pI_sk rfl).trans ((pI_sk rfl).trans ((pI_sk rfl).trans ((pI_sk rfl).trans ((pI_sk rfl).trans ((pI_sk rfl).trans ((pI_sk rfl).trans ((pI_sk rfl).trans ((pI_sk rfl).trans ((pI_sk rfl).trans ((pI_sk rfl).trans ((pI_sk rfl).trans ((pI_sk rfl).trans rfl))))))))))))) ((pI_sk rfl).trans ((pI_sk rfl).trans ((pI_sk rfl).trans ((pI_sk rfl).trans ((pI_sk rfl).trans ((pI_sk rfl).trans ((pI_sk rfl).trans ((pI_sk rfl).trans ((pI_sk rfl).trans ((pI_sk rfl).trans ((pI_sk rfl).trans ((pI_sk rfl).trans ((pI_sk rfl).trans rfl))))))))))))) ((pI_sk rfl).trans ((pI_sk rfl).trans ((pI_sk rfl).trans ((pI_sk rfl).trans ((pI_sk rfl).trans ((pI_sk rfl).trans ((pI_sk rfl).trans ((pI_sk rfl).trans ((pI_sk rfl).trans ((pI_sk rfl).trans ((pI_sk rfl).trans ((pI_sk rfl).trans ((pI_sk rfl).trans rfl))))))))))))) ((pI_sk rfl).trans ((pI_sk rfl).trans ((pI_sk rfl).trans ((pI_sk rfl).trans ((pI_sk rfl).trans ((pI_sk rfl).trans ((pI_sk rfl).trans ((pI_sk rfl).trans ((pI_sk rfl).trans ((pI_sk rfl).trans ((pI_sk rfl).trans ((pI_sk rfl).trans ((pI_sk rfl).trans rfl))))))))))))) ((pI_sk rfl).trans ((pI_sk rfl).trans ((pI_sk rfl).trans ((pI_sk rfl).trans ((pI_sk rfl).trans ((pI_sk rfl).trans ((pI_sk rfl).trans ((pI_sk rfl).trans ((pI_sk rfl).trans ((pI_sk rfl).trans ((pI_sk rfl).trans ((pI_sk rfl).trans ((pI_sk rfl).trans rfl))))))))))))) ((pI_sk rfl).trans ((pI_sk rfl).trans ((pI_sk rfl).trans ((pI_sk rfl).trans ((pI_sk rfl).trans ((pI_sk rfl).trans ((pI_sk rfl).trans ((pI_sk rfl).trans ((pI_sk rfl).trans ((pI_sk rfl).trans ((pI_sk rfl).trans ((pI_sk rfl).trans ((pI_sk rfl).trans rfl))))))))))))) ((pI_sk rfl).trans ((pI_sk rfl).trans ((pI_sk rfl).trans ((pI_sk rfl).trans ((pI_sk rfl).trans ((pI_sk rfl).trans ((pI_sk rfl).trans ((pI_sk rfl).trans ((pI_sk rfl).trans ((pI_sk rfl).trans ((pI_sk rfl).trans ((pI_sk rfl).trans ((pI_sk rfl).trans rfl)))))))))))))) (fun v27 I25 J26 b_v27 hB_I25 e_I25 => ?_))
    refine qm_Ru.go 0 (c' := (43, [.ref 118, .int ru, .int a, .int b], [.int v27], (h.1, I25, J26, h.2.2.2))) rfl ?_
    refine hk_rtb rfl (by omega) ?_
    exact k v27 (I25) (J26) (by omega) hB_I25 (fun o ho i => ((e_I25 o (hk_ms rfl ho) i).trans ((hk_mod ho rfl).trans ((hk_mod ho rfl).trans ((hk_mod ho rfl).trans ((hk_mod ho rfl).trans ((hk_mod ho rfl).trans ((hk_mod ho rfl).trans ((hk_mod ho rfl).trans ((hk_mod ho rfl).trans ((hk_mod ho rfl).trans ((hk_mod ho rfl).trans ((hk_mod ho rfl).trans ((hk_mod ho rfl).trans ((hk_mod ho rfl).trans rfl)))))))))))))))
  · refine qm_Ru.go 2 (c' := (24, [.ref 118, .int v4], [.int 1], (h.1, qm_up (qm_up (qm_up (qm_up (qm_up (qm_up h.2.1 144 0 v1) 144 1 v2) 144 2 v3) 144 3 v5) 144 4 v7) 144 5 v8, h.2.2.1, h.2.2.2))) rfl ?_
    refine qm_Ru.rt (v := (some (.int 1))) (h' := (h.1, qm_up (qm_up (qm_up (qm_up (qm_up (qm_up h.2.1 144 0 v1) 144 1 v2) 144 2 v3) 144 3 v5) 144 4 v7) 144 5 v8, h.2.2.1, h.2.2.2)) rfl ?_
    refine qm_Ru.go 0 (c' := (22, [.ref 118, .int ru, .int a, .int b], [.int 1, .int 6, .ref 144], (h.1, qm_up (qm_up (qm_up (qm_up (qm_up (qm_up h.2.1 144 0 v1) 144 1 v2) 144 2 v3) 144 3 v5) 144 4 v7) 144 5 v8, h.2.2.1, h.2.2.2))) rfl ?_
    refine hk_ias rfl (hH.1 144 (0, 13) rfl) (by decide) (by decide) ?_
    refine qm_Ru.go 3 (c' := (27, [.ref 118, .int ru, .int a, .int b], [.int 7, .int b, .ref 118], (h.1, qm_up (qm_up (qm_up (qm_up (qm_up (qm_up (qm_up h.2.1 144 0 v1) 144 1 v2) 144 2 v3) 144 3 v5) 144 4 v7) 144 5 v8) 144 6 1, h.2.2.1, h.2.2.2))) rfl ?_
    refine hk_inv (o := 118) (r := []) (as := [.ref 118, .int b, .int 7]) rfl rfl (hH.1 118 (17, 105) rfl) rfl rfl rfl rfl ?_
    refine qm_Ru.go 1 (c' := (1, [.ref 118, .int b, .int 7], [.ref 118], (h.1, qm_up (qm_up (qm_up (qm_up (qm_up (qm_up (qm_up h.2.1 144 0 v1) 144 1 v2) 144 2 v3) 144 3 v5) 144 4 v7) 144 5 v8) 144 6 1, h.2.2.1, h.2.2.2))) rfl ?_
    refine hk_getr rfl (hH.1 118 (17, 105) rfl) rfl (hH.2 118 42 (some 144) rfl) ?_
    refine qm_Ru.go 2 (c' := (6, [.ref 118, .int b, .int 7], [.ref 118, .int 7, .ref 144], (h.1, qm_up (qm_up (qm_up (qm_up (qm_up (qm_up (qm_up h.2.1 144 0 v1) 144 1 v2) 144 2 v3) 144 3 v5) 144 4 v7) 144 5 v8) 144 6 1, h.2.2.1, h.2.2.2))) rfl ?_
    refine hk_getr rfl (hH.1 118 (17, 105) rfl) rfl (hH.2 118 47 (some 148) rfl) ?_
    refine qm_Ru.go 1 (c' := (10, [.ref 118, .int b, .int 7], [.int b, .ref 148, .int 7, .ref 144], (h.1, qm_up (qm_up (qm_up (qm_up (qm_up (qm_up (qm_up h.2.1 144 0 v1) 144 1 v2) 144 2 v3) 144 3 v5) 144 4 v7) 144 5 v8) 144 6 1, h.2.2.1, h.2.2.2))) rfl ?_
    obtain ⟨v28, q_v28⟩ : ∃ v, h.2.1 148 (b.toInt.toNat) = v := ⟨_, rfl⟩
    have b_v28 : (0 : Int) ≤ v28.toInt ∧ v28.toInt ≤ 5 := by rw [← q_v28]; exact hB 148 (b.toInt.toNat)
    refine hk_ial (v := v28) rfl (hH.1 148 (0, 30) rfl) (by omega) (by omega) (show (qm_up (qm_up (qm_up (qm_up (qm_up (qm_up (qm_up h.2.1 144 0 v1) 144 1 v2) 144 2 v3) 144 3 v5) 144 4 v7) 144 5 v8) 144 6 1) 148 (b.toInt.toNat) = _ from ((hk_ot rfl).trans ((hk_ot rfl).trans ((hk_ot rfl).trans ((hk_ot rfl).trans ((hk_ot rfl).trans ((hk_ot rfl).trans ((hk_ot rfl).trans q_v28)))))))) ?_
    refine qm_Ru.go 0 (c' := (11, [.ref 118, .int b, .int 7], [.int v28, .int 7, .ref 144], (h.1, qm_up (qm_up (qm_up (qm_up (qm_up (qm_up (qm_up h.2.1 144 0 v1) 144 1 v2) 144 2 v3) 144 3 v5) 144 4 v7) 144 5 v8) 144 6 1, h.2.2.1, h.2.2.2))) rfl ?_
    refine hk_ias rfl (hH.1 144 (0, 13) rfl) (by decide) (by decide) ?_
    refine qm_Ru.go 1 (c' := (13, [.ref 118, .int b, .int 7], [.ref 118], (h.1, qm_up (qm_up (qm_up (qm_up (qm_up (qm_up (qm_up (qm_up h.2.1 144 0 v1) 144 1 v2) 144 2 v3) 144 3 v5) 144 4 v7) 144 5 v8) 144 6 1) 144 7 v28, h.2.2.1, h.2.2.2))) rfl ?_
    refine hk_getr rfl (hH.1 118 (17, 105) rfl) rfl (hH.2 118 42 (some 144) rfl) ?_
    refine qm_Ru.go 4 (c' := (20, [.ref 118, .int b, .int 7], [.ref 118, .int 8, .ref 144], (h.1, qm_up (qm_up (qm_up (qm_up (qm_up (qm_up (qm_up (qm_up h.2.1 144 0 v1) 144 1 v2) 144 2 v3) 144 3 v5) 144 4 v7) 144 5 v8) 144 6 1) 144 7 v28, h.2.2.1, h.2.2.2))) rfl ?_
    refine hk_getr rfl (hH.1 118 (17, 105) rfl) rfl (hH.2 118 45 (some 146) rfl) ?_
    refine qm_Ru.go 1 (c' := (24, [.ref 118, .int b, .int 7], [.int b, .ref 146, .int 8, .ref 144], (h.1, qm_up (qm_up (qm_up (qm_up (qm_up (qm_up (qm_up (qm_up h.2.1 144 0 v1) 144 1 v2) 144 2 v3) 144 3 v5) 144 4 v7) 144 5 v8) 144 6 1) 144 7 v28, h.2.2.1, h.2.2.2))) rfl ?_
    obtain ⟨v29, q_v29⟩ : ∃ v, h.2.1 146 (b.toInt.toNat) = v := ⟨_, rfl⟩
    have b_v29 : (0 : Int) ≤ v29.toInt ∧ v29.toInt ≤ 40 := by rw [← q_v29]; exact hB 146 (b.toInt.toNat)
    refine hk_ial (v := v29) rfl (hH.1 146 (0, 30) rfl) (by omega) (by omega) (show (qm_up (qm_up (qm_up (qm_up (qm_up (qm_up (qm_up (qm_up h.2.1 144 0 v1) 144 1 v2) 144 2 v3) 144 3 v5) 144 4 v7) 144 5 v8) 144 6 1) 144 7 v28) 146 (b.toInt.toNat) = _ from ((hk_ot rfl).trans ((hk_ot rfl).trans ((hk_ot rfl).trans ((hk_ot rfl).trans ((hk_ot rfl).trans ((hk_ot rfl).trans ((hk_ot rfl).trans ((hk_ot rfl).trans q_v29))))))))) ?_
    refine qm_Ru.go 0 (c' := (25, [.ref 118, .int b, .int 7], [.int v29, .int 8, .ref 144], (h.1, qm_up (qm_up (qm_up (qm_up (qm_up (qm_up (qm_up (qm_up h.2.1 144 0 v1) 144 1 v2) 144 2 v3) 144 3 v5) 144 4 v7) 144 5 v8) 144 6 1) 144 7 v28, h.2.2.1, h.2.2.2))) rfl ?_
    refine hk_ias rfl (hH.1 144 (0, 13) rfl) (by decide) (by decide) ?_
    refine qm_Ru.go 1 (c' := (27, [.ref 118, .int b, .int 7], [.ref 118], (h.1, qm_up (qm_up (qm_up (qm_up (qm_up (qm_up (qm_up (qm_up (qm_up h.2.1 144 0 v1) 144 1 v2) 144 2 v3) 144 3 v5) 144 4 v7) 144 5 v8) 144 6 1) 144 7 v28) 144 8 v29, h.2.2.1, h.2.2.2))) rfl ?_
    refine hk_getr rfl (hH.1 118 (17, 105) rfl) rfl (hH.2 118 42 (some 144) rfl) ?_
    refine qm_Ru.go 4 (c' := (34, [.ref 118, .int b, .int 7], [.ref 118, .int 9, .ref 144], (h.1, qm_up (qm_up (qm_up (qm_up (qm_up (qm_up (qm_up (qm_up (qm_up h.2.1 144 0 v1) 144 1 v2) 144 2 v3) 144 3 v5) 144 4 v7) 144 5 v8) 144 6 1) 144 7 v28) 144 8 v29, h.2.2.1, h.2.2.2))) rfl ?_
    refine hk_getr rfl (hH.1 118 (17, 105) rfl) rfl (hH.2 118 46 (some 147) rfl) ?_
    refine qm_Ru.go 1 (c' := (38, [.ref 118, .int b, .int 7], [.int b, .ref 147, .int 9, .ref 144], (h.1, qm_up (qm_up (qm_up (qm_up (qm_up (qm_up (qm_up (qm_up (qm_up h.2.1 144 0 v1) 144 1 v2) 144 2 v3) 144 3 v5) 144 4 v7) 144 5 v8) 144 6 1) 144 7 v28) 144 8 v29, h.2.2.1, h.2.2.2))) rfl ?_
    obtain ⟨v30, q_v30⟩ : ∃ v, h.2.1 147 (b.toInt.toNat) = v := ⟨_, rfl⟩
    have b_v30 : (0 : Int) ≤ v30.toInt ∧ v30.toInt ≤ 4 := by rw [← q_v30]; exact hB 147 (b.toInt.toNat)
    refine hk_ial (v := v30) rfl (hH.1 147 (0, 30) rfl) (by omega) (by omega) (show (qm_up (qm_up (qm_up (qm_up (qm_up (qm_up (qm_up (qm_up (qm_up h.2.1 144 0 v1) 144 1 v2) 144 2 v3) 144 3 v5) 144 4 v7) 144 5 v8) 144 6 1) 144 7 v28) 144 8 v29) 147 (b.toInt.toNat) = _ from ((hk_ot rfl).trans ((hk_ot rfl).trans ((hk_ot rfl).trans ((hk_ot rfl).trans ((hk_ot rfl).trans ((hk_ot rfl).trans ((hk_ot rfl).trans ((hk_ot rfl).trans ((hk_ot rfl).trans q_v30)))))))))) ?_
    refine qm_Ru.go 0 (c' := (39, [.ref 118, .int b, .int 7], [.int v30, .int 9, .ref 144], (h.1, qm_up (qm_up (qm_up (qm_up (qm_up (qm_up (qm_up (qm_up (qm_up h.2.1 144 0 v1) 144 1 v2) 144 2 v3) 144 3 v5) 144 4 v7) 144 5 v8) 144 6 1) 144 7 v28) 144 8 v29, h.2.2.1, h.2.2.2))) rfl ?_
    refine hk_ias rfl (hH.1 144 (0, 13) rfl) (by decide) (by decide) ?_
    refine qm_Ru.go 1 (c' := (41, [.ref 118, .int b, .int 7], [.ref 118], (h.1, qm_up (qm_up (qm_up (qm_up (qm_up (qm_up (qm_up (qm_up (qm_up (qm_up h.2.1 144 0 v1) 144 1 v2) 144 2 v3) 144 3 v5) 144 4 v7) 144 5 v8) 144 6 1) 144 7 v28) 144 8 v29) 144 9 v30, h.2.2.1, h.2.2.2))) rfl ?_
    refine hk_getr rfl (hH.1 118 (17, 105) rfl) rfl (hH.2 118 42 (some 144) rfl) ?_
    refine qm_Ru.go 4 (c' := (48, [.ref 118, .int b, .int 7], [.ref 118, .int 10, .ref 144], (h.1, qm_up (qm_up (qm_up (qm_up (qm_up (qm_up (qm_up (qm_up (qm_up (qm_up h.2.1 144 0 v1) 144 1 v2) 144 2 v3) 144 3 v5) 144 4 v7) 144 5 v8) 144 6 1) 144 7 v28) 144 8 v29) 144 9 v30, h.2.2.1, h.2.2.2))) rfl ?_
    refine hk_getr rfl (hH.1 118 (17, 105) rfl) rfl (hH.2 118 50 (some 151) rfl) ?_
    refine qm_Ru.go 1 (c' := (52, [.ref 118, .int b, .int 7], [.int b, .ref 151, .int 10, .ref 144], (h.1, qm_up (qm_up (qm_up (qm_up (qm_up (qm_up (qm_up (qm_up (qm_up (qm_up h.2.1 144 0 v1) 144 1 v2) 144 2 v3) 144 3 v5) 144 4 v7) 144 5 v8) 144 6 1) 144 7 v28) 144 8 v29) 144 9 v30, h.2.2.1, h.2.2.2))) rfl ?_
    obtain ⟨v31, q_v31⟩ : ∃ v, h.2.1 151 (b.toInt.toNat) = v := ⟨_, rfl⟩
    have b_v31 : (0 : Int) ≤ v31.toInt ∧ v31.toInt ≤ 79 := by rw [← q_v31]; exact hB 151 (b.toInt.toNat)
    refine hk_ial (v := v31) rfl (hH.1 151 (0, 30) rfl) (by omega) (by omega) (show (qm_up (qm_up (qm_up (qm_up (qm_up (qm_up (qm_up (qm_up (qm_up (qm_up h.2.1 144 0 v1) 144 1 v2) 144 2 v3) 144 3 v5) 144 4 v7) 144 5 v8) 144 6 1) 144 7 v28) 144 8 v29) 144 9 v30) 151 (b.toInt.toNat) = _ from ((hk_ot rfl).trans ((hk_ot rfl).trans ((hk_ot rfl).trans ((hk_ot rfl).trans ((hk_ot rfl).trans ((hk_ot rfl).trans ((hk_ot rfl).trans ((hk_ot rfl).trans ((hk_ot rfl).trans ((hk_ot rfl).trans q_v31))))))))))) ?_
    refine qm_Ru.go 2 (c' := (56, [.ref 118, .int b, .int 7], [.int (v31 / 16), .int 10, .ref 144], (h.1, qm_up (qm_up (qm_up (qm_up (qm_up (qm_up (qm_up (qm_up (qm_up (qm_up h.2.1 144 0 v1) 144 1 v2) 144 2 v3) 144 3 v5) 144 4 v7) 144 5 v8) 144 6 1) 144 7 v28) 144 8 v29) 144 9 v30, h.2.2.1, h.2.2.2))) rfl ?_
    obtain ⟨v32, q_v32, e_v32⟩ := hk_div (x := v31) (y := 16) (a := v31.toInt) (b := 16) rfl rfl (by omega) (by omega)
    rw [q_v32]
    refine hk_ias rfl (hH.1 144 (0, 13) rfl) (by decide) (by decide) ?_
    refine qm_Ru.go 1 (c' := (58, [.ref 118, .int b, .int 7], [.ref 118], (h.1, qm_up (qm_up (qm_up (qm_up (qm_up (qm_up (qm_up (qm_up (qm_up (qm_up (qm_up h.2.1 144 0 v1) 144 1 v2) 144 2 v3) 144 3 v5) 144 4 v7) 144 5 v8) 144 6 1) 144 7 v28) 144 8 v29) 144 9 v30) 144 10 v32, h.2.2.1, h.2.2.2))) rfl ?_
    refine hk_getr rfl (hH.1 118 (17, 105) rfl) rfl (hH.2 118 42 (some 144) rfl) ?_
    refine qm_Ru.go 4 (c' := (65, [.ref 118, .int b, .int 7], [.ref 118, .int 11, .ref 144], (h.1, qm_up (qm_up (qm_up (qm_up (qm_up (qm_up (qm_up (qm_up (qm_up (qm_up (qm_up h.2.1 144 0 v1) 144 1 v2) 144 2 v3) 144 3 v5) 144 4 v7) 144 5 v8) 144 6 1) 144 7 v28) 144 8 v29) 144 9 v30) 144 10 v32, h.2.2.1, h.2.2.2))) rfl ?_
    refine hk_getr rfl (hH.1 118 (17, 105) rfl) rfl (hH.2 118 50 (some 151) rfl) ?_
    refine qm_Ru.go 1 (c' := (69, [.ref 118, .int b, .int 7], [.int b, .ref 151, .int 11, .ref 144], (h.1, qm_up (qm_up (qm_up (qm_up (qm_up (qm_up (qm_up (qm_up (qm_up (qm_up (qm_up h.2.1 144 0 v1) 144 1 v2) 144 2 v3) 144 3 v5) 144 4 v7) 144 5 v8) 144 6 1) 144 7 v28) 144 8 v29) 144 9 v30) 144 10 v32, h.2.2.1, h.2.2.2))) rfl ?_
    refine hk_ial (v := v31) rfl (hH.1 151 (0, 30) rfl) (by omega) (by omega) (show (qm_up (qm_up (qm_up (qm_up (qm_up (qm_up (qm_up (qm_up (qm_up (qm_up (qm_up h.2.1 144 0 v1) 144 1 v2) 144 2 v3) 144 3 v5) 144 4 v7) 144 5 v8) 144 6 1) 144 7 v28) 144 8 v29) 144 9 v30) 144 10 v32) 151 (b.toInt.toNat) = _ from ((hk_ot rfl).trans ((hk_ot rfl).trans ((hk_ot rfl).trans ((hk_ot rfl).trans ((hk_ot rfl).trans ((hk_ot rfl).trans ((hk_ot rfl).trans ((hk_ot rfl).trans ((hk_ot rfl).trans ((hk_ot rfl).trans ((hk_ot rfl).trans q_v31)))))))))))) ?_
    refine qm_Ru.go 2 (c' := (72, [.ref 118, .int b, .int 7], [.int (v31 / 4), .int 11, .ref 144], (h.1, qm_up (qm_up (qm_up (qm_up (qm_up (qm_up (qm_up (qm_up (qm_up (qm_up (qm_up h.2.1 144 0 v1) 144 1 v2) 144 2 v3) 144 3 v5) 144 4 v7) 144 5 v8) 144 6 1) 144 7 v28) 144 8 v29) 144 9 v30) 144 10 v32, h.2.2.1, h.2.2.2))) rfl ?_
    obtain ⟨v33, q_v33, e_v33⟩ := hk_div (x := v31) (y := 4) (a := v31.toInt) (b := 4) rfl rfl (by omega) (by omega)
    rw [q_v33]
    refine qm_Ru.go 2 (c' := (74, [.ref 118, .int b, .int 7], [.int (v33 - v33 / 4 * 4), .int 11, .ref 144], (h.1, qm_up (qm_up (qm_up (qm_up (qm_up (qm_up (qm_up (qm_up (qm_up (qm_up (qm_up h.2.1 144 0 v1) 144 1 v2) 144 2 v3) 144 3 v5) 144 4 v7) 144 5 v8) 144 6 1) 144 7 v28) 144 8 v29) 144 9 v30) 144 10 v32, h.2.2.1, h.2.2.2))) rfl ?_
    obtain ⟨v34, q_v34, e_v34⟩ := hk_rem (x := v33) (y := 4) (a := v33.toInt) (b := 4) rfl rfl (by omega) (by omega)
    rw [q_v34]
    refine hk_ias rfl (hH.1 144 (0, 13) rfl) (by decide) (by decide) ?_
    refine qm_Ru.go 1 (c' := (76, [.ref 118, .int b, .int 7], [.ref 118], (h.1, qm_up (qm_up (qm_up (qm_up (qm_up (qm_up (qm_up (qm_up (qm_up (qm_up (qm_up (qm_up h.2.1 144 0 v1) 144 1 v2) 144 2 v3) 144 3 v5) 144 4 v7) 144 5 v8) 144 6 1) 144 7 v28) 144 8 v29) 144 9 v30) 144 10 v32) 144 11 v34, h.2.2.1, h.2.2.2))) rfl ?_
    refine hk_getr rfl (hH.1 118 (17, 105) rfl) rfl (hH.2 118 42 (some 144) rfl) ?_
    refine qm_Ru.go 4 (c' := (83, [.ref 118, .int b, .int 7], [.ref 118, .int 12, .ref 144], (h.1, qm_up (qm_up (qm_up (qm_up (qm_up (qm_up (qm_up (qm_up (qm_up (qm_up (qm_up (qm_up h.2.1 144 0 v1) 144 1 v2) 144 2 v3) 144 3 v5) 144 4 v7) 144 5 v8) 144 6 1) 144 7 v28) 144 8 v29) 144 9 v30) 144 10 v32) 144 11 v34, h.2.2.1, h.2.2.2))) rfl ?_
    refine hk_getr rfl (hH.1 118 (17, 105) rfl) rfl (hH.2 118 50 (some 151) rfl) ?_
    refine qm_Ru.go 1 (c' := (87, [.ref 118, .int b, .int 7], [.int b, .ref 151, .int 12, .ref 144], (h.1, qm_up (qm_up (qm_up (qm_up (qm_up (qm_up (qm_up (qm_up (qm_up (qm_up (qm_up (qm_up h.2.1 144 0 v1) 144 1 v2) 144 2 v3) 144 3 v5) 144 4 v7) 144 5 v8) 144 6 1) 144 7 v28) 144 8 v29) 144 9 v30) 144 10 v32) 144 11 v34, h.2.2.1, h.2.2.2))) rfl ?_
    refine hk_ial (v := v31) rfl (hH.1 151 (0, 30) rfl) (by omega) (by omega) (show (qm_up (qm_up (qm_up (qm_up (qm_up (qm_up (qm_up (qm_up (qm_up (qm_up (qm_up (qm_up h.2.1 144 0 v1) 144 1 v2) 144 2 v3) 144 3 v5) 144 4 v7) 144 5 v8) 144 6 1) 144 7 v28) 144 8 v29) 144 9 v30) 144 10 v32) 144 11 v34) 151 (b.toInt.toNat) = _ from ((hk_ot rfl).trans ((hk_ot rfl).trans ((hk_ot rfl).trans ((hk_ot rfl).trans ((hk_ot rfl).trans ((hk_ot rfl).trans ((hk_ot rfl).trans ((hk_ot rfl).trans ((hk_ot rfl).trans ((hk_ot rfl).trans ((hk_ot rfl).trans ((hk_ot rfl).trans q_v31))))))))))))) ?_
    refine qm_Ru.go 2 (c' := (90, [.ref 118, .int b, .int 7], [.int (v31 - v31 / 4 * 4), .int 12, .ref 144], (h.1, qm_up (qm_up (qm_up (qm_up (qm_up (qm_up (qm_up (qm_up (qm_up (qm_up (qm_up (qm_up h.2.1 144 0 v1) 144 1 v2) 144 2 v3) 144 3 v5) 144 4 v7) 144 5 v8) 144 6 1) 144 7 v28) 144 8 v29) 144 9 v30) 144 10 v32) 144 11 v34, h.2.2.1, h.2.2.2))) rfl ?_
    obtain ⟨v35, q_v35, e_v35⟩ := hk_rem (x := v31) (y := 4) (a := v31.toInt) (b := 4) rfl rfl (by omega) (by omega)
    rw [q_v35]
    refine hk_ias rfl (hH.1 144 (0, 13) rfl) (by decide) (by decide) ?_
    refine qm_Ru.go 0 (c' := (91, [.ref 118, .int b, .int 7], [], (h.1, qm_up (qm_up (qm_up (qm_up (qm_up (qm_up (qm_up (qm_up (qm_up (qm_up (qm_up (qm_up (qm_up h.2.1 144 0 v1) 144 1 v2) 144 2 v3) 144 3 v5) 144 4 v7) 144 5 v8) 144 6 1) 144 7 v28) 144 8 v29) 144 9 v30) 144 10 v32) 144 11 v34) 144 12 v35, h.2.2.1, h.2.2.2))) rfl ?_
    refine qm_Ru.rt (v := none) (h' := (h.1, qm_up (qm_up (qm_up (qm_up (qm_up (qm_up (qm_up (qm_up (qm_up (qm_up (qm_up (qm_up (qm_up h.2.1 144 0 v1) 144 1 v2) 144 2 v3) 144 3 v5) 144 4 v7) 144 5 v8) 144 6 1) 144 7 v28) 144 8 v29) 144 9 v30) 144 10 v32) 144 11 v34) 144 12 v35, h.2.2.1, h.2.2.2)) rfl ?_
    refine qm_Ru.go 3 (c' := (34, [.ref 118, .int ru, .int a, .int b], [.ref 118, .int 16, .ref 118], (h.1, qm_up (qm_up (qm_up (qm_up (qm_up (qm_up (qm_up (qm_up (qm_up (qm_up (qm_up (qm_up (qm_up h.2.1 144 0 v1) 144 1 v2) 144 2 v3) 144 3 v5) 144 4 v7) 144 5 v8) 144 6 1) 144 7 v28) 144 8 v29) 144 9 v30) 144 10 v32) 144 11 v34) 144 12 v35, h.2.2.1, h.2.2.2))) rfl ?_
    refine hk_geti (v := v9) rfl (hH.1 118 (17, 105) rfl) rfl (show (qm_up (qm_up (qm_up (qm_up (qm_up (qm_up (qm_up (qm_up (qm_up (qm_up (qm_up (qm_up (qm_up h.2.1 144 0 v1) 144 1 v2) 144 2 v3) 144 3 v5) 144 4 v7) 144 5 v8) 144 6 1) 144 7 v28) 144 8 v29) 144 9 v30) 144 10 v32) 144 11 v34) 144 12 v35) 118 18 = _ from ((hk_ot rfl).trans ((hk_ot rfl).trans ((hk_ot rfl).trans ((hk_ot rfl).trans ((hk_ot rfl).trans ((hk_ot rfl).trans ((hk_ot rfl).trans ((hk_ot rfl).trans ((hk_ot rfl).trans ((hk_ot rfl).trans ((hk_ot rfl).trans ((hk_ot rfl).trans ((hk_ot rfl).trans q_v9)))))))))))))) ?_
    refine qm_Ru.go 1 (c' := (38, [.ref 118, .int ru, .int a, .int b], [.int (16 * v9), .ref 118], (h.1, qm_up (qm_up (qm_up (qm_up (qm_up (qm_up (qm_up (qm_up (qm_up (qm_up (qm_up (qm_up (qm_up h.2.1 144 0 v1) 144 1 v2) 144 2 v3) 144 3 v5) 144 4 v7) 144 5 v8) 144 6 1) 144 7 v28) 144 8 v29) 144 9 v30) 144 10 v32) 144 11 v34) 144 12 v35, h.2.2.1, h.2.2.2))) rfl ?_
    obtain ⟨v36, q_v36, e_v36⟩ := hk_mul (x := 16) (y := v9) (a := 16) (b := v9.toInt) rfl rfl (by omega) (by omega)
    rw [q_v36]
    refine qm_Ru.go 2 (c' := (40, [.ref 118, .int ru, .int a, .int b], [.int (v36 + ru), .ref 118], (h.1, qm_up (qm_up (qm_up (qm_up (qm_up (qm_up (qm_up (qm_up (qm_up (qm_up (qm_up (qm_up (qm_up h.2.1 144 0 v1) 144 1 v2) 144 2 v3) 144 3 v5) 144 4 v7) 144 5 v8) 144 6 1) 144 7 v28) 144 8 v29) 144 9 v30) 144 10 v32) 144 11 v34) 144 12 v35, h.2.2.1, h.2.2.2))) rfl ?_
    obtain ⟨v37, q_v37, e_v37⟩ := hk_add (x := v36) (y := ru) (a := v36.toInt) (b := ru.toInt) rfl rfl (by omega) (by omega)
    rw [q_v37]
    refine hk_inv (o := 118) (r := []) (as := [.ref 118, .int v37]) rfl rfl (hH.1 118 (17, 105) rfl) rfl rfl rfl rfl (hs_holds (h := (h.1, qm_up (qm_up (qm_up (qm_up (qm_up (qm_up (qm_up (qm_up (qm_up (qm_up (qm_up (qm_up (qm_up h.2.1 144 0 v1) 144 1 v2) 144 2 v3) 144 3 v5) 144 4 v7) 144 5 v8) 144 6 1) 144 7 v28) 144 8 v29) 144 9 v30) 144 10 v32) 144 11 v34) 144 12 v35, h.2.2.1, h.2.2.2)) h6 hH (hb_up (o := 144) (k := 12) (x := v35) (hb_up (o := 144) (k := 11) (x := v34) (hb_up (o := 144) (k := 10) (x := v32) (hb_up (o := 144) (k := 9) (x := v30) (hb_up (o := 144) (k := 8) (x := v29) (hb_up (o := 144) (k := 7) (x := v28) (hb_up (o := 144) (k := 6) (x := 1) (hb_up (o := 144) (k := 5) (x := v8) (hb_up (o := 144) (k := 4) (x := v7) (hb_up (o := 144) (k := 3) (x := v5) (hb_up (o := 144) (k := 2) (x := v3) (hb_up (o := 144) (k := 1) (x := v2) (hb_up (o := 144) (k := 0) (x := v1) hB (qa_in_full _)) (qa_in_full _)) (qa_in_full _)) (qa_in_full _)) (qa_in_full _)) (qa_in_full _)) (qa_in_full _)) (qa_in_full _)) (qa_in_full _)) (qa_in_full _)) (qa_in_full _)) (qa_in_full _)) (qa_in_full _)) (by omega) (by have g := hr; rw [q_v9] at g; rw [show v37.toInt.toNat = 16 * v9.toInt.toNat + ru.toInt.toNat from by omega]; exact rule_cg g ((pI_sk rfl).trans ((pI_sk rfl).trans ((pI_sk rfl).trans ((pI_sk rfl).trans ((pI_sk rfl).trans ((pI_sk rfl).trans ((pI_sk rfl).trans ((pI_sk rfl).trans ((pI_sk rfl).trans ((pI_sk rfl).trans ((pI_sk rfl).trans ((pI_sk rfl).trans ((pI_sk rfl).trans rfl))))))))))))) ((pI_sk rfl).trans ((pI_sk rfl).trans ((pI_sk rfl).trans ((pI_sk rfl).trans ((pI_sk rfl).trans ((pI_sk rfl).trans ((pI_sk rfl).trans ((pI_sk rfl).trans ((pI_sk rfl).trans ((pI_sk rfl).trans ((pI_sk rfl).trans ((pI_sk rfl).trans ((pI_sk rfl).trans rfl))))))))))))) ((pI_sk rfl).trans ((pI_sk rfl).trans ((pI_sk rfl).trans ((pI_sk rfl).trans ((pI_sk rfl).trans ((pI_sk rfl).trans ((pI_sk rfl).trans ((pI_sk rfl).trans ((pI_sk rfl).trans ((pI_sk rfl).trans ((pI_sk rfl).trans ((pI_sk rfl).trans ((pI_sk rfl).trans rfl))))))))))))) ((pI_sk rfl).trans ((pI_sk rfl).trans ((pI_sk rfl).trans ((pI_sk rfl).trans ((pI_sk rfl).trans ((pI_sk rfl).trans ((pI_sk rfl).trans ((pI_sk rfl).trans ((pI_sk rfl).trans ((pI_sk rfl).trans ((pI_sk rfl).trans ((pI_sk rfl).trans ((pI_sk rfl).trans rfl))))))))))))) ((pI_sk rfl).trans ((pI_sk rfl).trans ((pI_sk rfl).trans ((pI_sk rfl).trans ((pI_sk rfl).trans ((pI_sk rfl).trans ((pI_sk rfl).trans ((pI_sk rfl).trans ((pI_sk rfl).trans ((pI_sk rfl).trans ((pI_sk rfl).trans ((pI_sk rfl).trans ((pI_sk rfl).trans rfl))))))))))))) ((pI_sk rfl).trans ((pI_sk rfl).trans ((pI_sk rfl).trans ((pI_sk rfl).trans ((pI_sk rfl).trans ((pI_sk rfl).trans ((pI_sk rfl).trans ((pI_sk rfl).trans ((pI_sk rfl).trans ((pI_sk rfl).trans ((pI_sk rfl).trans ((pI_sk rfl).trans ((pI_sk rfl).trans rfl))))))))))))) ((pI_sk rfl).trans ((pI_sk rfl).trans ((pI_sk rfl).trans ((pI_sk rfl).trans ((pI_sk rfl).trans ((pI_sk rfl).trans ((pI_sk rfl).trans ((pI_sk rfl).trans ((pI_sk rfl).trans ((pI_sk rfl).trans ((pI_sk rfl).trans ((pI_sk rfl).trans ((pI_sk rfl).trans rfl)))))))))))))) (fun v40 I38 J39 b_v40 hB_I38 e_I38 => ?_))
    refine qm_Ru.go 0 (c' := (43, [.ref 118, .int ru, .int a, .int b], [.int v40], (h.1, I38, J39, h.2.2.2))) rfl ?_
    refine hk_rtb rfl (by omega) ?_
    exact k v40 (I38) (J39) (by omega) hB_I38 (fun o ho i => ((e_I38 o (hk_ms rfl ho) i).trans ((hk_mod ho rfl).trans ((hk_mod ho rfl).trans ((hk_mod ho rfl).trans ((hk_mod ho rfl).trans ((hk_mod ho rfl).trans ((hk_mod ho rfl).trans ((hk_mod ho rfl).trans ((hk_mod ho rfl).trans ((hk_mod ho rfl).trans ((hk_mod ho rfl).trans ((hk_mod ho rfl).trans ((hk_mod ho rfl).trans ((hk_mod ho rfl).trans rfl)))))))))))))))
theorem hs_placeb {L : Nat} {xs : Nat → Int32} {d : Nat} {Z : Option Value → qm_H → Prop} {h : qm_H} (h6 : 6 ≤ L) (hH : hk_H h) (hB : hk_B h.2.1) {ru a : Int32} (b_ru : (0 : Int) ≤ ru.toInt ∧ ru.toInt ≤ 7) (b_a : (0 : Int) ≤ a.toInt ∧ a.toInt ≤ 29) (hr : rule_ok h.2.1 (16 * (h.2.1 118 18).toInt.toNat + 8 + ru.toInt.toNat)) (k : ∀ (v : Int32) (I : Nat → Nat → Int32) (J : Nat → Nat → Int64), (0 : Int) ≤ v.toInt ∧ v.toInt ≤ 1 → hk_B I → (∀ o, [144, 145].contains o = false → ∀ i, I o i = h.2.1 o i) → Z (some (.int v)) (h.1, I, J, h.2.2.2)) : qm_Ru (some (L, xs)) (d + 60) cd_314 (qm_ent 4 [.ref 118, .int ru, .int a] h) Z := by
  refine qm_Ru.go 3 (c' := (3, [.ref 118, .int ru, .int a, .float 0], [.int 0, .int a, .ref 118], h)) rfl ?_
  refine hk_inv (o := 118) (r := []) (as := [.ref 118, .int a, .int 0]) rfl rfl (hH.1 118 (17, 105) rfl) rfl rfl rfl rfl ?_
  refine qm_Ru.go 1 (c' := (1, [.ref 118, .int a, .int 0], [.ref 118], h)) rfl ?_
  refine hk_getr rfl (hH.1 118 (17, 105) rfl) rfl (hH.2 118 42 (some 144) rfl) ?_
  refine qm_Ru.go 2 (c' := (6, [.ref 118, .int a, .int 0], [.ref 118, .int 0, .ref 144], h)) rfl ?_
  refine hk_getr rfl (hH.1 118 (17, 105) rfl) rfl (hH.2 118 47 (some 148) rfl) ?_
  refine qm_Ru.go 1 (c' := (10, [.ref 118, .int a, .int 0], [.int a, .ref 148, .int 0, .ref 144], h)) rfl ?_
  obtain ⟨v1, q_v1⟩ : ∃ v, h.2.1 148 (a.toInt.toNat) = v := ⟨_, rfl⟩
  have b_v1 : (0 : Int) ≤ v1.toInt ∧ v1.toInt ≤ 5 := by rw [← q_v1]; exact hB 148 (a.toInt.toNat)
  refine hk_ial (v := v1) rfl (hH.1 148 (0, 30) rfl) (by omega) (by omega) q_v1 ?_
  refine qm_Ru.go 0 (c' := (11, [.ref 118, .int a, .int 0], [.int v1, .int 0, .ref 144], h)) rfl ?_
  refine hk_ias rfl (hH.1 144 (0, 13) rfl) (by decide) (by decide) ?_
  refine qm_Ru.go 1 (c' := (13, [.ref 118, .int a, .int 0], [.ref 118], (h.1, qm_up h.2.1 144 0 v1, h.2.2.1, h.2.2.2))) rfl ?_
  refine hk_getr rfl (hH.1 118 (17, 105) rfl) rfl (hH.2 118 42 (some 144) rfl) ?_
  refine qm_Ru.go 4 (c' := (20, [.ref 118, .int a, .int 0], [.ref 118, .int 1, .ref 144], (h.1, qm_up h.2.1 144 0 v1, h.2.2.1, h.2.2.2))) rfl ?_
  refine hk_getr rfl (hH.1 118 (17, 105) rfl) rfl (hH.2 118 45 (some 146) rfl) ?_
  refine qm_Ru.go 1 (c' := (24, [.ref 118, .int a, .int 0], [.int a, .ref 146, .int 1, .ref 144], (h.1, qm_up h.2.1 144 0 v1, h.2.2.1, h.2.2.2))) rfl ?_
  obtain ⟨v2, q_v2⟩ : ∃ v, h.2.1 146 (a.toInt.toNat) = v := ⟨_, rfl⟩
  have b_v2 : (0 : Int) ≤ v2.toInt ∧ v2.toInt ≤ 40 := by rw [← q_v2]; exact hB 146 (a.toInt.toNat)
  refine hk_ial (v := v2) rfl (hH.1 146 (0, 30) rfl) (by omega) (by omega) (show (qm_up h.2.1 144 0 v1) 146 (a.toInt.toNat) = _ from ((hk_ot rfl).trans q_v2)) ?_
  refine qm_Ru.go 0 (c' := (25, [.ref 118, .int a, .int 0], [.int v2, .int 1, .ref 144], (h.1, qm_up h.2.1 144 0 v1, h.2.2.1, h.2.2.2))) rfl ?_
  refine hk_ias rfl (hH.1 144 (0, 13) rfl) (by decide) (by decide) ?_
  refine qm_Ru.go 1 (c' := (27, [.ref 118, .int a, .int 0], [.ref 118], (h.1, qm_up (qm_up h.2.1 144 0 v1) 144 1 v2, h.2.2.1, h.2.2.2))) rfl ?_
  refine hk_getr rfl (hH.1 118 (17, 105) rfl) rfl (hH.2 118 42 (some 144) rfl) ?_
  refine qm_Ru.go 4 (c' := (34, [.ref 118, .int a, .int 0], [.ref 118, .int 2, .ref 144], (h.1, qm_up (qm_up h.2.1 144 0 v1) 144 1 v2, h.2.2.1, h.2.2.2))) rfl ?_
  refine hk_getr rfl (hH.1 118 (17, 105) rfl) rfl (hH.2 118 46 (some 147) rfl) ?_
  refine qm_Ru.go 1 (c' := (38, [.ref 118, .int a, .int 0], [.int a, .ref 147, .int 2, .ref 144], (h.1, qm_up (qm_up h.2.1 144 0 v1) 144 1 v2, h.2.2.1, h.2.2.2))) rfl ?_
  obtain ⟨v3, q_v3⟩ : ∃ v, h.2.1 147 (a.toInt.toNat) = v := ⟨_, rfl⟩
  have b_v3 : (0 : Int) ≤ v3.toInt ∧ v3.toInt ≤ 4 := by rw [← q_v3]; exact hB 147 (a.toInt.toNat)
  refine hk_ial (v := v3) rfl (hH.1 147 (0, 30) rfl) (by omega) (by omega) (show (qm_up (qm_up h.2.1 144 0 v1) 144 1 v2) 147 (a.toInt.toNat) = _ from ((hk_ot rfl).trans ((hk_ot rfl).trans q_v3))) ?_
  refine qm_Ru.go 0 (c' := (39, [.ref 118, .int a, .int 0], [.int v3, .int 2, .ref 144], (h.1, qm_up (qm_up h.2.1 144 0 v1) 144 1 v2, h.2.2.1, h.2.2.2))) rfl ?_
  refine hk_ias rfl (hH.1 144 (0, 13) rfl) (by decide) (by decide) ?_
  refine qm_Ru.go 1 (c' := (41, [.ref 118, .int a, .int 0], [.ref 118], (h.1, qm_up (qm_up (qm_up h.2.1 144 0 v1) 144 1 v2) 144 2 v3, h.2.2.1, h.2.2.2))) rfl ?_
  refine hk_getr rfl (hH.1 118 (17, 105) rfl) rfl (hH.2 118 42 (some 144) rfl) ?_
  refine qm_Ru.go 4 (c' := (48, [.ref 118, .int a, .int 0], [.ref 118, .int 3, .ref 144], (h.1, qm_up (qm_up (qm_up h.2.1 144 0 v1) 144 1 v2) 144 2 v3, h.2.2.1, h.2.2.2))) rfl ?_
  refine hk_getr rfl (hH.1 118 (17, 105) rfl) rfl (hH.2 118 50 (some 151) rfl) ?_
  refine qm_Ru.go 1 (c' := (52, [.ref 118, .int a, .int 0], [.int a, .ref 151, .int 3, .ref 144], (h.1, qm_up (qm_up (qm_up h.2.1 144 0 v1) 144 1 v2) 144 2 v3, h.2.2.1, h.2.2.2))) rfl ?_
  obtain ⟨v4, q_v4⟩ : ∃ v, h.2.1 151 (a.toInt.toNat) = v := ⟨_, rfl⟩
  have b_v4 : (0 : Int) ≤ v4.toInt ∧ v4.toInt ≤ 79 := by rw [← q_v4]; exact hB 151 (a.toInt.toNat)
  refine hk_ial (v := v4) rfl (hH.1 151 (0, 30) rfl) (by omega) (by omega) (show (qm_up (qm_up (qm_up h.2.1 144 0 v1) 144 1 v2) 144 2 v3) 151 (a.toInt.toNat) = _ from ((hk_ot rfl).trans ((hk_ot rfl).trans ((hk_ot rfl).trans q_v4)))) ?_
  refine qm_Ru.go 2 (c' := (56, [.ref 118, .int a, .int 0], [.int (v4 / 16), .int 3, .ref 144], (h.1, qm_up (qm_up (qm_up h.2.1 144 0 v1) 144 1 v2) 144 2 v3, h.2.2.1, h.2.2.2))) rfl ?_
  obtain ⟨v5, q_v5, e_v5⟩ := hk_div (x := v4) (y := 16) (a := v4.toInt) (b := 16) rfl rfl (by omega) (by omega)
  rw [q_v5]
  refine hk_ias rfl (hH.1 144 (0, 13) rfl) (by decide) (by decide) ?_
  refine qm_Ru.go 1 (c' := (58, [.ref 118, .int a, .int 0], [.ref 118], (h.1, qm_up (qm_up (qm_up (qm_up h.2.1 144 0 v1) 144 1 v2) 144 2 v3) 144 3 v5, h.2.2.1, h.2.2.2))) rfl ?_
  refine hk_getr rfl (hH.1 118 (17, 105) rfl) rfl (hH.2 118 42 (some 144) rfl) ?_
  refine qm_Ru.go 4 (c' := (65, [.ref 118, .int a, .int 0], [.ref 118, .int 4, .ref 144], (h.1, qm_up (qm_up (qm_up (qm_up h.2.1 144 0 v1) 144 1 v2) 144 2 v3) 144 3 v5, h.2.2.1, h.2.2.2))) rfl ?_
  refine hk_getr rfl (hH.1 118 (17, 105) rfl) rfl (hH.2 118 50 (some 151) rfl) ?_
  refine qm_Ru.go 1 (c' := (69, [.ref 118, .int a, .int 0], [.int a, .ref 151, .int 4, .ref 144], (h.1, qm_up (qm_up (qm_up (qm_up h.2.1 144 0 v1) 144 1 v2) 144 2 v3) 144 3 v5, h.2.2.1, h.2.2.2))) rfl ?_
  refine hk_ial (v := v4) rfl (hH.1 151 (0, 30) rfl) (by omega) (by omega) (show (qm_up (qm_up (qm_up (qm_up h.2.1 144 0 v1) 144 1 v2) 144 2 v3) 144 3 v5) 151 (a.toInt.toNat) = _ from ((hk_ot rfl).trans ((hk_ot rfl).trans ((hk_ot rfl).trans ((hk_ot rfl).trans q_v4))))) ?_
  refine qm_Ru.go 2 (c' := (72, [.ref 118, .int a, .int 0], [.int (v4 / 4), .int 4, .ref 144], (h.1, qm_up (qm_up (qm_up (qm_up h.2.1 144 0 v1) 144 1 v2) 144 2 v3) 144 3 v5, h.2.2.1, h.2.2.2))) rfl ?_
  obtain ⟨v6, q_v6, e_v6⟩ := hk_div (x := v4) (y := 4) (a := v4.toInt) (b := 4) rfl rfl (by omega) (by omega)
  rw [q_v6]
  refine qm_Ru.go 2 (c' := (74, [.ref 118, .int a, .int 0], [.int (v6 - v6 / 4 * 4), .int 4, .ref 144], (h.1, qm_up (qm_up (qm_up (qm_up h.2.1 144 0 v1) 144 1 v2) 144 2 v3) 144 3 v5, h.2.2.1, h.2.2.2))) rfl ?_
  obtain ⟨v7, q_v7, e_v7⟩ := hk_rem (x := v6) (y := 4) (a := v6.toInt) (b := 4) rfl rfl (by omega) (by omega)
  rw [q_v7]
  refine hk_ias rfl (hH.1 144 (0, 13) rfl) (by decide) (by decide) ?_
  refine qm_Ru.go 1 (c' := (76, [.ref 118, .int a, .int 0], [.ref 118], (h.1, qm_up (qm_up (qm_up (qm_up (qm_up h.2.1 144 0 v1) 144 1 v2) 144 2 v3) 144 3 v5) 144 4 v7, h.2.2.1, h.2.2.2))) rfl ?_
  refine hk_getr rfl (hH.1 118 (17, 105) rfl) rfl (hH.2 118 42 (some 144) rfl) ?_
  refine qm_Ru.go 4 (c' := (83, [.ref 118, .int a, .int 0], [.ref 118, .int 5, .ref 144], (h.1, qm_up (qm_up (qm_up (qm_up (qm_up h.2.1 144 0 v1) 144 1 v2) 144 2 v3) 144 3 v5) 144 4 v7, h.2.2.1, h.2.2.2))) rfl ?_
  refine hk_getr rfl (hH.1 118 (17, 105) rfl) rfl (hH.2 118 50 (some 151) rfl) ?_
  refine qm_Ru.go 1 (c' := (87, [.ref 118, .int a, .int 0], [.int a, .ref 151, .int 5, .ref 144], (h.1, qm_up (qm_up (qm_up (qm_up (qm_up h.2.1 144 0 v1) 144 1 v2) 144 2 v3) 144 3 v5) 144 4 v7, h.2.2.1, h.2.2.2))) rfl ?_
  refine hk_ial (v := v4) rfl (hH.1 151 (0, 30) rfl) (by omega) (by omega) (show (qm_up (qm_up (qm_up (qm_up (qm_up h.2.1 144 0 v1) 144 1 v2) 144 2 v3) 144 3 v5) 144 4 v7) 151 (a.toInt.toNat) = _ from ((hk_ot rfl).trans ((hk_ot rfl).trans ((hk_ot rfl).trans ((hk_ot rfl).trans ((hk_ot rfl).trans q_v4)))))) ?_
  refine qm_Ru.go 2 (c' := (90, [.ref 118, .int a, .int 0], [.int (v4 - v4 / 4 * 4), .int 5, .ref 144], (h.1, qm_up (qm_up (qm_up (qm_up (qm_up h.2.1 144 0 v1) 144 1 v2) 144 2 v3) 144 3 v5) 144 4 v7, h.2.2.1, h.2.2.2))) rfl ?_
  obtain ⟨v8, q_v8, e_v8⟩ := hk_rem (x := v4) (y := 4) (a := v4.toInt) (b := 4) rfl rfl (by omega) (by omega)
  rw [q_v8]
  refine hk_ias rfl (hH.1 144 (0, 13) rfl) (by decide) (by decide) ?_
  refine qm_Ru.go 0 (c' := (91, [.ref 118, .int a, .int 0], [], (h.1, qm_up (qm_up (qm_up (qm_up (qm_up (qm_up h.2.1 144 0 v1) 144 1 v2) 144 2 v3) 144 3 v5) 144 4 v7) 144 5 v8, h.2.2.1, h.2.2.2))) rfl ?_
  refine qm_Ru.rt (v := none) (h' := (h.1, qm_up (qm_up (qm_up (qm_up (qm_up (qm_up h.2.1 144 0 v1) 144 1 v2) 144 2 v3) 144 3 v5) 144 4 v7) 144 5 v8, h.2.2.1, h.2.2.2)) rfl ?_
  refine qm_Ru.go 1 (c' := (7, [.ref 118, .int ru, .int a, .float 0], [.ref 118], (h.1, qm_up (qm_up (qm_up (qm_up (qm_up (qm_up h.2.1 144 0 v1) 144 1 v2) 144 2 v3) 144 3 v5) 144 4 v7) 144 5 v8, h.2.2.1, h.2.2.2))) rfl ?_
  refine hk_getr rfl (hH.1 118 (17, 105) rfl) rfl (hH.2 118 42 (some 144) rfl) ?_
  refine qm_Ru.go 3 (c' := (14, [.ref 118, .int ru, .int a, .float 0], [.ref 118, .ref 118, .int 6, .ref 144], (h.1, qm_up (qm_up (qm_up (qm_up (qm_up (qm_up h.2.1 144 0 v1) 144 1 v2) 144 2 v3) 144 3 v5) 144 4 v7) 144 5 v8, h.2.2.1, h.2.2.2))) rfl ?_
  refine hk_getr rfl (hH.1 118 (17, 105) rfl) rfl (hH.2 118 50 (some 151) rfl) ?_
  refine qm_Ru.go 1 (c' := (18, [.ref 118, .int ru, .int a, .float 0], [.int a, .ref 151, .ref 118, .int 6, .ref 144], (h.1, qm_up (qm_up (qm_up (qm_up (qm_up (qm_up h.2.1 144 0 v1) 144 1 v2) 144 2 v3) 144 3 v5) 144 4 v7) 144 5 v8, h.2.2.1, h.2.2.2))) rfl ?_
  refine hk_ial (v := v4) rfl (hH.1 151 (0, 30) rfl) (by omega) (by omega) (show (qm_up (qm_up (qm_up (qm_up (qm_up (qm_up h.2.1 144 0 v1) 144 1 v2) 144 2 v3) 144 3 v5) 144 4 v7) 144 5 v8) 151 (a.toInt.toNat) = _ from ((hk_ot rfl).trans ((hk_ot rfl).trans ((hk_ot rfl).trans ((hk_ot rfl).trans ((hk_ot rfl).trans ((hk_ot rfl).trans q_v4))))))) ?_
  refine qm_Ru.go 0 (c' := (19, [.ref 118, .int ru, .int a, .float 0], [.int v4, .ref 118, .int 6, .ref 144], (h.1, qm_up (qm_up (qm_up (qm_up (qm_up (qm_up h.2.1 144 0 v1) 144 1 v2) 144 2 v3) 144 3 v5) 144 4 v7) 144 5 v8, h.2.2.1, h.2.2.2))) rfl ?_
  refine hk_inv (o := 118) (r := [.int 6, .ref 144]) (as := [.ref 118, .int v4]) rfl rfl (hH.1 118 (17, 105) rfl) rfl rfl rfl rfl ?_
  refine qm_Ru.go 1 (c' := (1, [.ref 118, .int v4], [.ref 118], (h.1, qm_up (qm_up (qm_up (qm_up (qm_up (qm_up h.2.1 144 0 v1) 144 1 v2) 144 2 v3) 144 3 v5) 144 4 v7) 144 5 v8, h.2.2.1, h.2.2.2))) rfl ?_
  refine hk_getr rfl (hH.1 118 (17, 105) rfl) rfl (hH.2 118 25 (some 130) rfl) ?_
  refine qm_Ru.go 2 (c' := (7, [.ref 118, .int v4], [.ref 118, .int 20, .ref 130], (h.1, qm_up (qm_up (qm_up (qm_up (qm_up (qm_up h.2.1 144 0 v1) 144 1 v2) 144 2 v3) 144 3 v5) 144 4 v7) 144 5 v8, h.2.2.1, h.2.2.2))) rfl ?_
  obtain ⟨v9, q_v9⟩ : ∃ v, h.2.1 118 18 = v := ⟨_, rfl⟩
  have b_v9 : (0 : Int) ≤ v9.toInt ∧ v9.toInt ≤ 1 := by rw [← q_v9]; exact hB 118 18
  refine hk_geti (v := v9) rfl (hH.1 118 (17, 105) rfl) rfl (show (qm_up (qm_up (qm_up (qm_up (qm_up (qm_up h.2.1 144 0 v1) 144 1 v2) 144 2 v3) 144 3 v5) 144 4 v7) 144 5 v8) 118 18 = _ from ((hk_ot rfl).trans ((hk_ot rfl).trans ((hk_ot rfl).trans ((hk_ot rfl).trans ((hk_ot rfl).trans ((hk_ot rfl).trans q_v9))))))) ?_
  refine qm_Ru.go 1 (c' := (11, [.ref 118, .int v4], [.int (20 * v9), .ref 130], (h.1, qm_up (qm_up (qm_up (qm_up (qm_up (qm_up h.2.1 144 0 v1) 144 1 v2) 144 2 v3) 144 3 v5) 144 4 v7) 144 5 v8, h.2.2.1, h.2.2.2))) rfl ?_
  obtain ⟨v10, q_v10, e_v10⟩ := hk_mul (x := 20) (y := v9) (a := 20) (b := v9.toInt) rfl rfl (by omega) (by omega)
  rw [q_v10]
  refine qm_Ru.go 3 (c' := (14, [.ref 118, .int v4], [.int (v4 / 4), .int v10, .ref 130], (h.1, qm_up (qm_up (qm_up (qm_up (qm_up (qm_up h.2.1 144 0 v1) 144 1 v2) 144 2 v3) 144 3 v5) 144 4 v7) 144 5 v8, h.2.2.1, h.2.2.2))) rfl ?_
  rw [q_v6]
  refine qm_Ru.go 1 (c' := (15, [.ref 118, .int v4], [.int (v10 + v6), .ref 130], (h.1, qm_up (qm_up (qm_up (qm_up (qm_up (qm_up h.2.1 144 0 v1) 144 1 v2) 144 2 v3) 144 3 v5) 144 4 v7) 144 5 v8, h.2.2.1, h.2.2.2))) rfl ?_
  obtain ⟨v12, q_v12, e_v12⟩ := hk_add (x := v10) (y := v6) (a := v10.toInt) (b := v6.toInt) rfl rfl (by omega) (by omega)
  rw [q_v12]
  obtain ⟨v13, q_v13⟩ : ∃ v, h.2.1 130 (v12.toInt.toNat) = v := ⟨_, rfl⟩
  have b_v13 : (0 : Int) ≤ v13.toInt ∧ v13.toInt ≤ 1 := by rw [← q_v13]; exact hB 130 (v12.toInt.toNat)
  refine hk_bal (v := v13) rfl (hH.1 130 (2, 40) rfl) (by decide) (by omega) (by omega) (show (qm_up (qm_up (qm_up (qm_up (qm_up (qm_up h.2.1 144 0 v1) 144 1 v2) 144 2 v3) 144 3 v5) 144 4 v7) 144 5 v8) 130 (v12.toInt.toNat) = _ from ((hk_ot rfl).trans ((hk_ot rfl).trans ((hk_ot rfl).trans ((hk_ot rfl).trans ((hk_ot rfl).trans ((hk_ot rfl).trans q_v13))))))) ?_
  refine qm_Ru.go 0 (c' := (16, [.ref 118, .int v4], [.int v13], (h.1, qm_up (qm_up (qm_up (qm_up (qm_up (qm_up h.2.1 144 0 v1) 144 1 v2) 144 2 v3) 144 3 v5) 144 4 v7) 144 5 v8, h.2.2.1, h.2.2.2))) rfl ?_
  refine hk_zeq (ix := v13.toInt) rfl rfl (fun z14 => ?_) (fun z14 => ?_)
  · refine qm_Ru.go 1 (c' := (24, [.ref 118, .int v4], [.int 0], (h.1, qm_up (qm_up (qm_up (qm_up (qm_up (qm_up h.2.1 144 0 v1) 144 1 v2) 144 2 v3) 144 3 v5) 144 4 v7) 144 5 v8, h.2.2.1, h.2.2.2))) rfl ?_
    refine qm_Ru.rt (v := (some (.int 0))) (h' := (h.1, qm_up (qm_up (qm_up (qm_up (qm_up (qm_up h.2.1 144 0 v1) 144 1 v2) 144 2 v3) 144 3 v5) 144 4 v7) 144 5 v8, h.2.2.1, h.2.2.2)) rfl ?_
    refine qm_Ru.go 0 (c' := (22, [.ref 118, .int ru, .int a, .float 0], [.int 0, .int 6, .ref 144], (h.1, qm_up (qm_up (qm_up (qm_up (qm_up (qm_up h.2.1 144 0 v1) 144 1 v2) 144 2 v3) 144 3 v5) 144 4 v7) 144 5 v8, h.2.2.1, h.2.2.2))) rfl ?_
    refine hk_ias rfl (hH.1 144 (0, 13) rfl) (by decide) (by decide) ?_
    refine qm_Ru.go 6 (c' := (33, [.ref 118, .int ru, .int a, .int 7], [.ref 118], (h.1, qm_up (qm_up (qm_up (qm_up (qm_up (qm_up (qm_up h.2.1 144 0 v1) 144 1 v2) 144 2 v3) 144 3 v5) 144 4 v7) 144 5 v8) 144 6 0, h.2.2.1, h.2.2.2))) rfl ?_
    refine hk_getr rfl (hH.1 118 (17, 105) rfl) rfl (hH.2 118 42 (some 144) rfl) ?_
    refine qm_Ru.go 2 (c' := (38, [.ref 118, .int ru, .int a, .int 7], [.int 0, .int 7, .ref 144], (h.1, qm_up (qm_up (qm_up (qm_up (qm_up (qm_up (qm_up h.2.1 144 0 v1) 144 1 v2) 144 2 v3) 144 3 v5) 144 4 v7) 144 5 v8) 144 6 0, h.2.2.1, h.2.2.2))) rfl ?_
    refine hk_ias rfl (hH.1 144 (0, 13) rfl) (by decide) (by decide) ?_
    refine qm_Ru.go 6 (c' := (33, [.ref 118, .int ru, .int a, .int 8], [.ref 118], (h.1, qm_up (qm_up (qm_up (qm_up (qm_up (qm_up (qm_up (qm_up h.2.1 144 0 v1) 144 1 v2) 144 2 v3) 144 3 v5) 144 4 v7) 144 5 v8) 144 6 0) 144 7 0, h.2.2.1, h.2.2.2))) rfl ?_
    refine hk_getr rfl (hH.1 118 (17, 105) rfl) rfl (hH.2 118 42 (some 144) rfl) ?_
    refine qm_Ru.go 2 (c' := (38, [.ref 118, .int ru, .int a, .int 8], [.int 0, .int 8, .ref 144], (h.1, qm_up (qm_up (qm_up (qm_up (qm_up (qm_up (qm_up (qm_up h.2.1 144 0 v1) 144 1 v2) 144 2 v3) 144 3 v5) 144 4 v7) 144 5 v8) 144 6 0) 144 7 0, h.2.2.1, h.2.2.2))) rfl ?_
    refine hk_ias rfl (hH.1 144 (0, 13) rfl) (by decide) (by decide) ?_
    refine qm_Ru.go 6 (c' := (33, [.ref 118, .int ru, .int a, .int 9], [.ref 118], (h.1, qm_up (qm_up (qm_up (qm_up (qm_up (qm_up (qm_up (qm_up (qm_up h.2.1 144 0 v1) 144 1 v2) 144 2 v3) 144 3 v5) 144 4 v7) 144 5 v8) 144 6 0) 144 7 0) 144 8 0, h.2.2.1, h.2.2.2))) rfl ?_
    refine hk_getr rfl (hH.1 118 (17, 105) rfl) rfl (hH.2 118 42 (some 144) rfl) ?_
    refine qm_Ru.go 2 (c' := (38, [.ref 118, .int ru, .int a, .int 9], [.int 0, .int 9, .ref 144], (h.1, qm_up (qm_up (qm_up (qm_up (qm_up (qm_up (qm_up (qm_up (qm_up h.2.1 144 0 v1) 144 1 v2) 144 2 v3) 144 3 v5) 144 4 v7) 144 5 v8) 144 6 0) 144 7 0) 144 8 0, h.2.2.1, h.2.2.2))) rfl ?_
    refine hk_ias rfl (hH.1 144 (0, 13) rfl) (by decide) (by decide) ?_
    refine qm_Ru.go 6 (c' := (33, [.ref 118, .int ru, .int a, .int 10], [.ref 118], (h.1, qm_up (qm_up (qm_up (qm_up (qm_up (qm_up (qm_up (qm_up (qm_up (qm_up h.2.1 144 0 v1) 144 1 v2) 144 2 v3) 144 3 v5) 144 4 v7) 144 5 v8) 144 6 0) 144 7 0) 144 8 0) 144 9 0, h.2.2.1, h.2.2.2))) rfl ?_
    refine hk_getr rfl (hH.1 118 (17, 105) rfl) rfl (hH.2 118 42 (some 144) rfl) ?_
    refine qm_Ru.go 2 (c' := (38, [.ref 118, .int ru, .int a, .int 10], [.int 0, .int 10, .ref 144], (h.1, qm_up (qm_up (qm_up (qm_up (qm_up (qm_up (qm_up (qm_up (qm_up (qm_up h.2.1 144 0 v1) 144 1 v2) 144 2 v3) 144 3 v5) 144 4 v7) 144 5 v8) 144 6 0) 144 7 0) 144 8 0) 144 9 0, h.2.2.1, h.2.2.2))) rfl ?_
    refine hk_ias rfl (hH.1 144 (0, 13) rfl) (by decide) (by decide) ?_
    refine qm_Ru.go 6 (c' := (33, [.ref 118, .int ru, .int a, .int 11], [.ref 118], (h.1, qm_up (qm_up (qm_up (qm_up (qm_up (qm_up (qm_up (qm_up (qm_up (qm_up (qm_up h.2.1 144 0 v1) 144 1 v2) 144 2 v3) 144 3 v5) 144 4 v7) 144 5 v8) 144 6 0) 144 7 0) 144 8 0) 144 9 0) 144 10 0, h.2.2.1, h.2.2.2))) rfl ?_
    refine hk_getr rfl (hH.1 118 (17, 105) rfl) rfl (hH.2 118 42 (some 144) rfl) ?_
    refine qm_Ru.go 2 (c' := (38, [.ref 118, .int ru, .int a, .int 11], [.int 0, .int 11, .ref 144], (h.1, qm_up (qm_up (qm_up (qm_up (qm_up (qm_up (qm_up (qm_up (qm_up (qm_up (qm_up h.2.1 144 0 v1) 144 1 v2) 144 2 v3) 144 3 v5) 144 4 v7) 144 5 v8) 144 6 0) 144 7 0) 144 8 0) 144 9 0) 144 10 0, h.2.2.1, h.2.2.2))) rfl ?_
    refine hk_ias rfl (hH.1 144 (0, 13) rfl) (by decide) (by decide) ?_
    refine qm_Ru.go 6 (c' := (33, [.ref 118, .int ru, .int a, .int 12], [.ref 118], (h.1, qm_up (qm_up (qm_up (qm_up (qm_up (qm_up (qm_up (qm_up (qm_up (qm_up (qm_up (qm_up h.2.1 144 0 v1) 144 1 v2) 144 2 v3) 144 3 v5) 144 4 v7) 144 5 v8) 144 6 0) 144 7 0) 144 8 0) 144 9 0) 144 10 0) 144 11 0, h.2.2.1, h.2.2.2))) rfl ?_
    refine hk_getr rfl (hH.1 118 (17, 105) rfl) rfl (hH.2 118 42 (some 144) rfl) ?_
    refine qm_Ru.go 2 (c' := (38, [.ref 118, .int ru, .int a, .int 12], [.int 0, .int 12, .ref 144], (h.1, qm_up (qm_up (qm_up (qm_up (qm_up (qm_up (qm_up (qm_up (qm_up (qm_up (qm_up (qm_up h.2.1 144 0 v1) 144 1 v2) 144 2 v3) 144 3 v5) 144 4 v7) 144 5 v8) 144 6 0) 144 7 0) 144 8 0) 144 9 0) 144 10 0) 144 11 0, h.2.2.1, h.2.2.2))) rfl ?_
    refine hk_ias rfl (hH.1 144 (0, 13) rfl) (by decide) (by decide) ?_
    refine qm_Ru.go 8 (c' := (49, [.ref 118, .int ru, .int a, .int 13], [.ref 118, .int 16, .ref 118], (h.1, qm_up (qm_up (qm_up (qm_up (qm_up (qm_up (qm_up (qm_up (qm_up (qm_up (qm_up (qm_up (qm_up h.2.1 144 0 v1) 144 1 v2) 144 2 v3) 144 3 v5) 144 4 v7) 144 5 v8) 144 6 0) 144 7 0) 144 8 0) 144 9 0) 144 10 0) 144 11 0) 144 12 0, h.2.2.1, h.2.2.2))) rfl ?_
    refine hk_geti (v := v9) rfl (hH.1 118 (17, 105) rfl) rfl (show (qm_up (qm_up (qm_up (qm_up (qm_up (qm_up (qm_up (qm_up (qm_up (qm_up (qm_up (qm_up (qm_up h.2.1 144 0 v1) 144 1 v2) 144 2 v3) 144 3 v5) 144 4 v7) 144 5 v8) 144 6 0) 144 7 0) 144 8 0) 144 9 0) 144 10 0) 144 11 0) 144 12 0) 118 18 = _ from ((hk_ot rfl).trans ((hk_ot rfl).trans ((hk_ot rfl).trans ((hk_ot rfl).trans ((hk_ot rfl).trans ((hk_ot rfl).trans ((hk_ot rfl).trans ((hk_ot rfl).trans ((hk_ot rfl).trans ((hk_ot rfl).trans ((hk_ot rfl).trans ((hk_ot rfl).trans ((hk_ot rfl).trans q_v9)))))))))))))) ?_
    refine qm_Ru.go 1 (c' := (53, [.ref 118, .int ru, .int a, .int 13], [.int (16 * v9), .ref 118], (h.1, qm_up (qm_up (qm_up (qm_up (qm_up (qm_up (qm_up (qm_up (qm_up (qm_up (qm_up (qm_up (qm_up h.2.1 144 0 v1) 144 1 v2) 144 2 v3) 144 3 v5) 144 4 v7) 144 5 v8) 144 6 0) 144 7 0) 144 8 0) 144 9 0) 144 10 0) 144 11 0) 144 12 0, h.2.2.1, h.2.2.2))) rfl ?_
    obtain ⟨v15, q_v15, e_v15⟩ := hk_mul (x := 16) (y := v9) (a := 16) (b := v9.toInt) rfl rfl (by omega) (by omega)
    rw [q_v15]
    refine qm_Ru.go 2 (c' := (56, [.ref 118, .int ru, .int a, .int 13], [.int (v15 + 8), .ref 118], (h.1, qm_up (qm_up (qm_up (qm_up (qm_up (qm_up (qm_up (qm_up (qm_up (qm_up (qm_up (qm_up (qm_up h.2.1 144 0 v1) 144 1 v2) 144 2 v3) 144 3 v5) 144 4 v7) 144 5 v8) 144 6 0) 144 7 0) 144 8 0) 144 9 0) 144 10 0) 144 11 0) 144 12 0, h.2.2.1, h.2.2.2))) rfl ?_
    obtain ⟨v16, q_v16, e_v16⟩ := hk_add (x := v15) (y := 8) (a := v15.toInt) (b := 8) rfl rfl (by omega) (by omega)
    rw [q_v16]
    refine qm_Ru.go 2 (c' := (58, [.ref 118, .int ru, .int a, .int 13], [.int (v16 + ru), .ref 118], (h.1, qm_up (qm_up (qm_up (qm_up (qm_up (qm_up (qm_up (qm_up (qm_up (qm_up (qm_up (qm_up (qm_up h.2.1 144 0 v1) 144 1 v2) 144 2 v3) 144 3 v5) 144 4 v7) 144 5 v8) 144 6 0) 144 7 0) 144 8 0) 144 9 0) 144 10 0) 144 11 0) 144 12 0, h.2.2.1, h.2.2.2))) rfl ?_
    obtain ⟨v17, q_v17, e_v17⟩ := hk_add (x := v16) (y := ru) (a := v16.toInt) (b := ru.toInt) rfl rfl (by omega) (by omega)
    rw [q_v17]
    refine hk_inv (o := 118) (r := []) (as := [.ref 118, .int v17]) rfl rfl (hH.1 118 (17, 105) rfl) rfl rfl rfl rfl (hs_holds (h := (h.1, qm_up (qm_up (qm_up (qm_up (qm_up (qm_up (qm_up (qm_up (qm_up (qm_up (qm_up (qm_up (qm_up h.2.1 144 0 v1) 144 1 v2) 144 2 v3) 144 3 v5) 144 4 v7) 144 5 v8) 144 6 0) 144 7 0) 144 8 0) 144 9 0) 144 10 0) 144 11 0) 144 12 0, h.2.2.1, h.2.2.2)) h6 hH (hb_up (o := 144) (k := 12) (x := 0) (hb_up (o := 144) (k := 11) (x := 0) (hb_up (o := 144) (k := 10) (x := 0) (hb_up (o := 144) (k := 9) (x := 0) (hb_up (o := 144) (k := 8) (x := 0) (hb_up (o := 144) (k := 7) (x := 0) (hb_up (o := 144) (k := 6) (x := 0) (hb_up (o := 144) (k := 5) (x := v8) (hb_up (o := 144) (k := 4) (x := v7) (hb_up (o := 144) (k := 3) (x := v5) (hb_up (o := 144) (k := 2) (x := v3) (hb_up (o := 144) (k := 1) (x := v2) (hb_up (o := 144) (k := 0) (x := v1) hB (qa_in_full _)) (qa_in_full _)) (qa_in_full _)) (qa_in_full _)) (qa_in_full _)) (qa_in_full _)) (qa_in_full _)) (qa_in_full _)) (qa_in_full _)) (qa_in_full _)) (qa_in_full _)) (qa_in_full _)) (qa_in_full _)) (by omega) (by have g := hr; rw [q_v9] at g; rw [show v17.toInt.toNat = 16 * v9.toInt.toNat + 8 + ru.toInt.toNat from by omega]; exact rule_cg g ((pI_sk rfl).trans ((pI_sk rfl).trans ((pI_sk rfl).trans ((pI_sk rfl).trans ((pI_sk rfl).trans ((pI_sk rfl).trans ((pI_sk rfl).trans ((pI_sk rfl).trans ((pI_sk rfl).trans ((pI_sk rfl).trans ((pI_sk rfl).trans ((pI_sk rfl).trans ((pI_sk rfl).trans rfl))))))))))))) ((pI_sk rfl).trans ((pI_sk rfl).trans ((pI_sk rfl).trans ((pI_sk rfl).trans ((pI_sk rfl).trans ((pI_sk rfl).trans ((pI_sk rfl).trans ((pI_sk rfl).trans ((pI_sk rfl).trans ((pI_sk rfl).trans ((pI_sk rfl).trans ((pI_sk rfl).trans ((pI_sk rfl).trans rfl))))))))))))) ((pI_sk rfl).trans ((pI_sk rfl).trans ((pI_sk rfl).trans ((pI_sk rfl).trans ((pI_sk rfl).trans ((pI_sk rfl).trans ((pI_sk rfl).trans ((pI_sk rfl).trans ((pI_sk rfl).trans ((pI_sk rfl).trans ((pI_sk rfl).trans ((pI_sk rfl).trans ((pI_sk rfl).trans rfl))))))))))))) ((pI_sk rfl).trans ((pI_sk rfl).trans ((pI_sk rfl).trans ((pI_sk rfl).trans ((pI_sk rfl).trans ((pI_sk rfl).trans ((pI_sk rfl).trans ((pI_sk rfl).trans ((pI_sk rfl).trans ((pI_sk rfl).trans ((pI_sk rfl).trans ((pI_sk rfl).trans ((pI_sk rfl).trans rfl))))))))))))) ((pI_sk rfl).trans ((pI_sk rfl).trans ((pI_sk rfl).trans ((pI_sk rfl).trans ((pI_sk rfl).trans ((pI_sk rfl).trans ((pI_sk rfl).trans ((pI_sk rfl).trans ((pI_sk rfl).trans ((pI_sk rfl).trans ((pI_sk rfl).trans ((pI_sk rfl).trans ((pI_sk rfl).trans rfl))))))))))))) ((pI_sk rfl).trans ((pI_sk rfl).trans ((pI_sk rfl).trans ((pI_sk rfl).trans ((pI_sk rfl).trans ((pI_sk rfl).trans ((pI_sk rfl).trans ((pI_sk rfl).trans ((pI_sk rfl).trans ((pI_sk rfl).trans ((pI_sk rfl).trans ((pI_sk rfl).trans ((pI_sk rfl).trans rfl))))))))))))) ((pI_sk rfl).trans ((pI_sk rfl).trans ((pI_sk rfl).trans ((pI_sk rfl).trans ((pI_sk rfl).trans ((pI_sk rfl).trans ((pI_sk rfl).trans ((pI_sk rfl).trans ((pI_sk rfl).trans ((pI_sk rfl).trans ((pI_sk rfl).trans ((pI_sk rfl).trans ((pI_sk rfl).trans rfl)))))))))))))) (fun v20 I18 J19 b_v20 hB_I18 e_I18 => ?_))
    refine qm_Ru.go 0 (c' := (61, [.ref 118, .int ru, .int a, .int 13], [.int v20], (h.1, I18, J19, h.2.2.2))) rfl ?_
    refine hk_rtb rfl (by omega) ?_
    exact k v20 (I18) (J19) (by omega) hB_I18 (fun o ho i => ((e_I18 o (hk_ms rfl ho) i).trans ((hk_mod ho rfl).trans ((hk_mod ho rfl).trans ((hk_mod ho rfl).trans ((hk_mod ho rfl).trans ((hk_mod ho rfl).trans ((hk_mod ho rfl).trans ((hk_mod ho rfl).trans ((hk_mod ho rfl).trans ((hk_mod ho rfl).trans ((hk_mod ho rfl).trans ((hk_mod ho rfl).trans ((hk_mod ho rfl).trans ((hk_mod ho rfl).trans rfl)))))))))))))))
  · refine qm_Ru.go 2 (c' := (24, [.ref 118, .int v4], [.int 1], (h.1, qm_up (qm_up (qm_up (qm_up (qm_up (qm_up h.2.1 144 0 v1) 144 1 v2) 144 2 v3) 144 3 v5) 144 4 v7) 144 5 v8, h.2.2.1, h.2.2.2))) rfl ?_
    refine qm_Ru.rt (v := (some (.int 1))) (h' := (h.1, qm_up (qm_up (qm_up (qm_up (qm_up (qm_up h.2.1 144 0 v1) 144 1 v2) 144 2 v3) 144 3 v5) 144 4 v7) 144 5 v8, h.2.2.1, h.2.2.2)) rfl ?_
    refine qm_Ru.go 0 (c' := (22, [.ref 118, .int ru, .int a, .float 0], [.int 1, .int 6, .ref 144], (h.1, qm_up (qm_up (qm_up (qm_up (qm_up (qm_up h.2.1 144 0 v1) 144 1 v2) 144 2 v3) 144 3 v5) 144 4 v7) 144 5 v8, h.2.2.1, h.2.2.2))) rfl ?_
    refine hk_ias rfl (hH.1 144 (0, 13) rfl) (by decide) (by decide) ?_
    refine qm_Ru.go 6 (c' := (33, [.ref 118, .int ru, .int a, .int 7], [.ref 118], (h.1, qm_up (qm_up (qm_up (qm_up (qm_up (qm_up (qm_up h.2.1 144 0 v1) 144 1 v2) 144 2 v3) 144 3 v5) 144 4 v7) 144 5 v8) 144 6 1, h.2.2.1, h.2.2.2))) rfl ?_
    refine hk_getr rfl (hH.1 118 (17, 105) rfl) rfl (hH.2 118 42 (some 144) rfl) ?_
    refine qm_Ru.go 2 (c' := (38, [.ref 118, .int ru, .int a, .int 7], [.int 0, .int 7, .ref 144], (h.1, qm_up (qm_up (qm_up (qm_up (qm_up (qm_up (qm_up h.2.1 144 0 v1) 144 1 v2) 144 2 v3) 144 3 v5) 144 4 v7) 144 5 v8) 144 6 1, h.2.2.1, h.2.2.2))) rfl ?_
    refine hk_ias rfl (hH.1 144 (0, 13) rfl) (by decide) (by decide) ?_
    refine qm_Ru.go 6 (c' := (33, [.ref 118, .int ru, .int a, .int 8], [.ref 118], (h.1, qm_up (qm_up (qm_up (qm_up (qm_up (qm_up (qm_up (qm_up h.2.1 144 0 v1) 144 1 v2) 144 2 v3) 144 3 v5) 144 4 v7) 144 5 v8) 144 6 1) 144 7 0, h.2.2.1, h.2.2.2))) rfl ?_
    refine hk_getr rfl (hH.1 118 (17, 105) rfl) rfl (hH.2 118 42 (some 144) rfl) ?_
    refine qm_Ru.go 2 (c' := (38, [.ref 118, .int ru, .int a, .int 8], [.int 0, .int 8, .ref 144], (h.1, qm_up (qm_up (qm_up (qm_up (qm_up (qm_up (qm_up (qm_up h.2.1 144 0 v1) 144 1 v2) 144 2 v3) 144 3 v5) 144 4 v7) 144 5 v8) 144 6 1) 144 7 0, h.2.2.1, h.2.2.2))) rfl ?_
    refine hk_ias rfl (hH.1 144 (0, 13) rfl) (by decide) (by decide) ?_
    refine qm_Ru.go 6 (c' := (33, [.ref 118, .int ru, .int a, .int 9], [.ref 118], (h.1, qm_up (qm_up (qm_up (qm_up (qm_up (qm_up (qm_up (qm_up (qm_up h.2.1 144 0 v1) 144 1 v2) 144 2 v3) 144 3 v5) 144 4 v7) 144 5 v8) 144 6 1) 144 7 0) 144 8 0, h.2.2.1, h.2.2.2))) rfl ?_
    refine hk_getr rfl (hH.1 118 (17, 105) rfl) rfl (hH.2 118 42 (some 144) rfl) ?_
    refine qm_Ru.go 2 (c' := (38, [.ref 118, .int ru, .int a, .int 9], [.int 0, .int 9, .ref 144], (h.1, qm_up (qm_up (qm_up (qm_up (qm_up (qm_up (qm_up (qm_up (qm_up h.2.1 144 0 v1) 144 1 v2) 144 2 v3) 144 3 v5) 144 4 v7) 144 5 v8) 144 6 1) 144 7 0) 144 8 0, h.2.2.1, h.2.2.2))) rfl ?_
    refine hk_ias rfl (hH.1 144 (0, 13) rfl) (by decide) (by decide) ?_
    refine qm_Ru.go 6 (c' := (33, [.ref 118, .int ru, .int a, .int 10], [.ref 118], (h.1, qm_up (qm_up (qm_up (qm_up (qm_up (qm_up (qm_up (qm_up (qm_up (qm_up h.2.1 144 0 v1) 144 1 v2) 144 2 v3) 144 3 v5) 144 4 v7) 144 5 v8) 144 6 1) 144 7 0) 144 8 0) 144 9 0, h.2.2.1, h.2.2.2))) rfl ?_
    refine hk_getr rfl (hH.1 118 (17, 105) rfl) rfl (hH.2 118 42 (some 144) rfl) ?_
    refine qm_Ru.go 2 (c' := (38, [.ref 118, .int ru, .int a, .int 10], [.int 0, .int 10, .ref 144], (h.1, qm_up (qm_up (qm_up (qm_up (qm_up (qm_up (qm_up (qm_up (qm_up (qm_up h.2.1 144 0 v1) 144 1 v2) 144 2 v3) 144 3 v5) 144 4 v7) 144 5 v8) 144 6 1) 144 7 0) 144 8 0) 144 9 0, h.2.2.1, h.2.2.2))) rfl ?_
    refine hk_ias rfl (hH.1 144 (0, 13) rfl) (by decide) (by decide) ?_
    refine qm_Ru.go 6 (c' := (33, [.ref 118, .int ru, .int a, .int 11], [.ref 118], (h.1, qm_up (qm_up (qm_up (qm_up (qm_up (qm_up (qm_up (qm_up (qm_up (qm_up (qm_up h.2.1 144 0 v1) 144 1 v2) 144 2 v3) 144 3 v5) 144 4 v7) 144 5 v8) 144 6 1) 144 7 0) 144 8 0) 144 9 0) 144 10 0, h.2.2.1, h.2.2.2))) rfl ?_
    refine hk_getr rfl (hH.1 118 (17, 105) rfl) rfl (hH.2 118 42 (some 144) rfl) ?_
    refine qm_Ru.go 2 (c' := (38, [.ref 118, .int ru, .int a, .int 11], [.int 0, .int 11, .ref 144], (h.1, qm_up (qm_up (qm_up (qm_up (qm_up (qm_up (qm_up (qm_up (qm_up (qm_up (qm_up h.2.1 144 0 v1) 144 1 v2) 144 2 v3) 144 3 v5) 144 4 v7) 144 5 v8) 144 6 1) 144 7 0) 144 8 0) 144 9 0) 144 10 0, h.2.2.1, h.2.2.2))) rfl ?_
    refine hk_ias rfl (hH.1 144 (0, 13) rfl) (by decide) (by decide) ?_
    refine qm_Ru.go 6 (c' := (33, [.ref 118, .int ru, .int a, .int 12], [.ref 118], (h.1, qm_up (qm_up (qm_up (qm_up (qm_up (qm_up (qm_up (qm_up (qm_up (qm_up (qm_up (qm_up h.2.1 144 0 v1) 144 1 v2) 144 2 v3) 144 3 v5) 144 4 v7) 144 5 v8) 144 6 1) 144 7 0) 144 8 0) 144 9 0) 144 10 0) 144 11 0, h.2.2.1, h.2.2.2))) rfl ?_
    refine hk_getr rfl (hH.1 118 (17, 105) rfl) rfl (hH.2 118 42 (some 144) rfl) ?_
    refine qm_Ru.go 2 (c' := (38, [.ref 118, .int ru, .int a, .int 12], [.int 0, .int 12, .ref 144], (h.1, qm_up (qm_up (qm_up (qm_up (qm_up (qm_up (qm_up (qm_up (qm_up (qm_up (qm_up (qm_up h.2.1 144 0 v1) 144 1 v2) 144 2 v3) 144 3 v5) 144 4 v7) 144 5 v8) 144 6 1) 144 7 0) 144 8 0) 144 9 0) 144 10 0) 144 11 0, h.2.2.1, h.2.2.2))) rfl ?_
    refine hk_ias rfl (hH.1 144 (0, 13) rfl) (by decide) (by decide) ?_
    refine qm_Ru.go 8 (c' := (49, [.ref 118, .int ru, .int a, .int 13], [.ref 118, .int 16, .ref 118], (h.1, qm_up (qm_up (qm_up (qm_up (qm_up (qm_up (qm_up (qm_up (qm_up (qm_up (qm_up (qm_up (qm_up h.2.1 144 0 v1) 144 1 v2) 144 2 v3) 144 3 v5) 144 4 v7) 144 5 v8) 144 6 1) 144 7 0) 144 8 0) 144 9 0) 144 10 0) 144 11 0) 144 12 0, h.2.2.1, h.2.2.2))) rfl ?_
    refine hk_geti (v := v9) rfl (hH.1 118 (17, 105) rfl) rfl (show (qm_up (qm_up (qm_up (qm_up (qm_up (qm_up (qm_up (qm_up (qm_up (qm_up (qm_up (qm_up (qm_up h.2.1 144 0 v1) 144 1 v2) 144 2 v3) 144 3 v5) 144 4 v7) 144 5 v8) 144 6 1) 144 7 0) 144 8 0) 144 9 0) 144 10 0) 144 11 0) 144 12 0) 118 18 = _ from ((hk_ot rfl).trans ((hk_ot rfl).trans ((hk_ot rfl).trans ((hk_ot rfl).trans ((hk_ot rfl).trans ((hk_ot rfl).trans ((hk_ot rfl).trans ((hk_ot rfl).trans ((hk_ot rfl).trans ((hk_ot rfl).trans ((hk_ot rfl).trans ((hk_ot rfl).trans ((hk_ot rfl).trans q_v9)))))))))))))) ?_
    refine qm_Ru.go 1 (c' := (53, [.ref 118, .int ru, .int a, .int 13], [.int (16 * v9), .ref 118], (h.1, qm_up (qm_up (qm_up (qm_up (qm_up (qm_up (qm_up (qm_up (qm_up (qm_up (qm_up (qm_up (qm_up h.2.1 144 0 v1) 144 1 v2) 144 2 v3) 144 3 v5) 144 4 v7) 144 5 v8) 144 6 1) 144 7 0) 144 8 0) 144 9 0) 144 10 0) 144 11 0) 144 12 0, h.2.2.1, h.2.2.2))) rfl ?_
    obtain ⟨v21, q_v21, e_v21⟩ := hk_mul (x := 16) (y := v9) (a := 16) (b := v9.toInt) rfl rfl (by omega) (by omega)
    rw [q_v21]
    refine qm_Ru.go 2 (c' := (56, [.ref 118, .int ru, .int a, .int 13], [.int (v21 + 8), .ref 118], (h.1, qm_up (qm_up (qm_up (qm_up (qm_up (qm_up (qm_up (qm_up (qm_up (qm_up (qm_up (qm_up (qm_up h.2.1 144 0 v1) 144 1 v2) 144 2 v3) 144 3 v5) 144 4 v7) 144 5 v8) 144 6 1) 144 7 0) 144 8 0) 144 9 0) 144 10 0) 144 11 0) 144 12 0, h.2.2.1, h.2.2.2))) rfl ?_
    obtain ⟨v22, q_v22, e_v22⟩ := hk_add (x := v21) (y := 8) (a := v21.toInt) (b := 8) rfl rfl (by omega) (by omega)
    rw [q_v22]
    refine qm_Ru.go 2 (c' := (58, [.ref 118, .int ru, .int a, .int 13], [.int (v22 + ru), .ref 118], (h.1, qm_up (qm_up (qm_up (qm_up (qm_up (qm_up (qm_up (qm_up (qm_up (qm_up (qm_up (qm_up (qm_up h.2.1 144 0 v1) 144 1 v2) 144 2 v3) 144 3 v5) 144 4 v7) 144 5 v8) 144 6 1) 144 7 0) 144 8 0) 144 9 0) 144 10 0) 144 11 0) 144 12 0, h.2.2.1, h.2.2.2))) rfl ?_
    obtain ⟨v23, q_v23, e_v23⟩ := hk_add (x := v22) (y := ru) (a := v22.toInt) (b := ru.toInt) rfl rfl (by omega) (by omega)
    rw [q_v23]
    refine hk_inv (o := 118) (r := []) (as := [.ref 118, .int v23]) rfl rfl (hH.1 118 (17, 105) rfl) rfl rfl rfl rfl (hs_holds (h := (h.1, qm_up (qm_up (qm_up (qm_up (qm_up (qm_up (qm_up (qm_up (qm_up (qm_up (qm_up (qm_up (qm_up h.2.1 144 0 v1) 144 1 v2) 144 2 v3) 144 3 v5) 144 4 v7) 144 5 v8) 144 6 1) 144 7 0) 144 8 0) 144 9 0) 144 10 0) 144 11 0) 144 12 0, h.2.2.1, h.2.2.2)) h6 hH (hb_up (o := 144) (k := 12) (x := 0) (hb_up (o := 144) (k := 11) (x := 0) (hb_up (o := 144) (k := 10) (x := 0) (hb_up (o := 144) (k := 9) (x := 0) (hb_up (o := 144) (k := 8) (x := 0) (hb_up (o := 144) (k := 7) (x := 0) (hb_up (o := 144) (k := 6) (x := 1) (hb_up (o := 144) (k := 5) (x := v8) (hb_up (o := 144) (k := 4) (x := v7) (hb_up (o := 144) (k := 3) (x := v5) (hb_up (o := 144) (k := 2) (x := v3) (hb_up (o := 144) (k := 1) (x := v2) (hb_up (o := 144) (k := 0) (x := v1) hB (qa_in_full _)) (qa_in_full _)) (qa_in_full _)) (qa_in_full _)) (qa_in_full _)) (qa_in_full _)) (qa_in_full _)) (qa_in_full _)) (qa_in_full _)) (qa_in_full _)) (qa_in_full _)) (qa_in_full _)) (qa_in_full _)) (by omega) (by have g := hr; rw [q_v9] at g; rw [show v23.toInt.toNat = 16 * v9.toInt.toNat + 8 + ru.toInt.toNat from by omega]; exact rule_cg g ((pI_sk rfl).trans ((pI_sk rfl).trans ((pI_sk rfl).trans ((pI_sk rfl).trans ((pI_sk rfl).trans ((pI_sk rfl).trans ((pI_sk rfl).trans ((pI_sk rfl).trans ((pI_sk rfl).trans ((pI_sk rfl).trans ((pI_sk rfl).trans ((pI_sk rfl).trans ((pI_sk rfl).trans rfl))))))))))))) ((pI_sk rfl).trans ((pI_sk rfl).trans ((pI_sk rfl).trans ((pI_sk rfl).trans ((pI_sk rfl).trans ((pI_sk rfl).trans ((pI_sk rfl).trans ((pI_sk rfl).trans ((pI_sk rfl).trans ((pI_sk rfl).trans ((pI_sk rfl).trans ((pI_sk rfl).trans ((pI_sk rfl).trans rfl))))))))))))) ((pI_sk rfl).trans ((pI_sk rfl).trans ((pI_sk rfl).trans ((pI_sk rfl).trans ((pI_sk rfl).trans ((pI_sk rfl).trans ((pI_sk rfl).trans ((pI_sk rfl).trans ((pI_sk rfl).trans ((pI_sk rfl).trans ((pI_sk rfl).trans ((pI_sk rfl).trans ((pI_sk rfl).trans rfl))))))))))))) ((pI_sk rfl).trans ((pI_sk rfl).trans ((pI_sk rfl).trans ((pI_sk rfl).trans ((pI_sk rfl).trans ((pI_sk rfl).trans ((pI_sk rfl).trans ((pI_sk rfl).trans ((pI_sk rfl).trans ((pI_sk rfl).trans ((pI_sk rfl).trans ((pI_sk rfl).trans ((pI_sk rfl).trans rfl))))))))))))) ((pI_sk rfl).trans ((pI_sk rfl).trans ((pI_sk rfl).trans ((pI_sk rfl).trans ((pI_sk rfl).trans ((pI_sk rfl).trans ((pI_sk rfl).trans ((pI_sk rfl).trans ((pI_sk rfl).trans ((pI_sk rfl).trans ((pI_sk rfl).trans ((pI_sk rfl).trans ((pI_sk rfl).trans rfl))))))))))))) ((pI_sk rfl).trans ((pI_sk rfl).trans ((pI_sk rfl).trans ((pI_sk rfl).trans ((pI_sk rfl).trans ((pI_sk rfl).trans ((pI_sk rfl).trans ((pI_sk rfl).trans ((pI_sk rfl).trans ((pI_sk rfl).trans ((pI_sk rfl).trans ((pI_sk rfl).trans ((pI_sk rfl).trans rfl))))))))))))) ((pI_sk rfl).trans ((pI_sk rfl).trans ((pI_sk rfl).trans ((pI_sk rfl).trans ((pI_sk rfl).trans ((pI_sk rfl).trans ((pI_sk rfl).trans ((pI_sk rfl).trans ((pI_sk rfl).trans ((pI_sk rfl).trans ((pI_sk rfl).trans ((pI_sk rfl).trans ((pI_sk rfl).trans rfl)))))))))))))) (fun v26 I24 J25 b_v26 hB_I24 e_I24 => ?_))
    refine qm_Ru.go 0 (c' := (61, [.ref 118, .int ru, .int a, .int 13], [.int v26], (h.1, I24, J25, h.2.2.2))) rfl ?_
    refine hk_rtb rfl (by omega) ?_
    exact k v26 (I24) (J25) (by omega) hB_I24 (fun o ho i => ((e_I24 o (hk_ms rfl ho) i).trans ((hk_mod ho rfl).trans ((hk_mod ho rfl).trans ((hk_mod ho rfl).trans ((hk_mod ho rfl).trans ((hk_mod ho rfl).trans ((hk_mod ho rfl).trans ((hk_mod ho rfl).trans ((hk_mod ho rfl).trans ((hk_mod ho rfl).trans ((hk_mod ho rfl).trans ((hk_mod ho rfl).trans ((hk_mod ho rfl).trans ((hk_mod ho rfl).trans rfl)))))))))))))))
theorem hl_pin {L : Nat} {xs : Nat → Int32} {d : Nat} {Z : Option Value → qm_H → Prop} {h : qm_H} (h6 : 6 ≤ L) (hH : hk_H h) (hB : hk_B h.2.1) {ru i0 : Int32} (b_ru : (0 : Int) ≤ ru.toInt ∧ ru.toInt ≤ 7) (hr : rule_ok h.2.1 (16 * (h.2.1 118 18).toInt.toNat + ru.toInt.toNat)) {a : Int32} (b_a : (0 : Int) ≤ a.toInt ∧ a.toInt ≤ 29) (ko : ∀ (I : Nat → Nat → Int32) (J : Nat → Nat → Int64) (n a2 b : Int32), hk_B I → (∀ o, [118, 144, 145].contains o = false → ∀ i, I o i = h.2.1 o i) → (∀ i, i ≠ 57 → I 118 i = h.2.1 118 i) → a2.toInt = a.toInt + 1 → qm_Ru (some (L, xs)) (d + 70) cd_304 (10, [.ref 118, .int ru, .int i0, .int n, .int a2, .int b], [], (h.1, I, J, h.2.2.2)) Z) : ∀ (m : Nat) (I : Nat → Nat → Int32) (J : Nat → Nat → Int64) (n : Int32) (b : Int32), hk_B I → (∀ o, [118, 144, 145].contains o = false → ∀ i, I o i = h.2.1 o i) → (∀ i, i ≠ 57 → I 118 i = h.2.1 118 i) → ((0 : Int) ≤ b.toInt ∧ b.toInt ≤ 30) → (30 - b.toInt).toNat = m → qm_Ru (some (L, xs)) (d + 70) cd_304 (22, [.ref 118, .int ru, .int i0, .int n, .int a, .int b], [], (h.1, I, J, h.2.2.2)) Z := by
  intro m
  induction m using Nat.strongRecOn with
  | ind m ih =>
    intro I J n b hBI e e8 hb hm
    refine qm_Ru.go 2 (c' := (25, [.ref 118, .int ru, .int i0, .int n, .int a, .int b], [.ref 118, .int b], (h.1, I, J, h.2.2.2))) rfl ?_
    obtain ⟨v1, q_v1⟩ : ∃ v, h.2.1 118 44 = v := ⟨_, rfl⟩
    have b_v1 : (0 : Int) ≤ v1.toInt ∧ v1.toInt ≤ 30 := by rw [← q_v1]; exact hB 118 44
    refine hk_geti (v := v1) rfl (hH.1 118 (17, 105) rfl) rfl (show (I) 118 44 = _ from ((e8 44 (by omega)).trans q_v1)) ?_
    refine qm_Ru.go 0 (c' := (28, [.ref 118, .int ru, .int i0, .int n, .int a, .int b], [.int v1, .int b], (h.1, I, J, h.2.2.2))) rfl ?_
    refine hk_cge (ix := b.toInt) (iy := v1.toInt) rfl rfl rfl (fun z2 => ?_) (fun z2 => ?_)
    · refine qm_Ru.go 1 (c' := (104, [.ref 118, .int ru, .int i0, .int n, .int (a + 1), .int b], [], (h.1, I, J, h.2.2.2))) rfl ?_
      obtain ⟨v3, q_v3, e_v3⟩ := hk_add (x := a) (y := 1) (a := a.toInt) (b := 1) rfl rfl (by omega) (by omega)
      rw [q_v3]
      refine qm_Ru.go 1 (c' := (10, [.ref 118, .int ru, .int i0, .int n, .int v3, .int b], [], (h.1, I, J, h.2.2.2))) rfl ?_
      exact ko (I) (J) n v3 b hBI (fun o ho i => (e o ho i)) (fun i hi => (e8 i hi)) (by omega)
    · refine qm_Ru.go 2 (c' := (35, [.ref 118, .int ru, .int i0, .int n, .int a, .int b], [.int b, .int a], (h.1, I, J, h.2.2.2))) rfl ?_
      refine hk_ceq (ix := a.toInt) (iy := b.toInt) rfl rfl rfl (fun z4 => ?_) (fun z4 => ?_)
      · refine qm_Ru.go 1 (c' := (98, [.ref 118, .int ru, .int i0, .int n, .int a, .int (b + 1)], [], (h.1, I, J, h.2.2.2))) rfl ?_
        obtain ⟨v5, q_v5, e_v5⟩ := hk_add (x := b) (y := 1) (a := b.toInt) (b := 1) rfl rfl (by omega) (by omega)
        rw [q_v5]
        refine qm_Ru.go 1 (c' := (22, [.ref 118, .int ru, .int i0, .int n, .int a, .int v5], [], (h.1, I, J, h.2.2.2))) rfl ?_
        exact ih _ (by omega) (I) (J) n v5 hBI (fun o ho i => (e o ho i)) (fun i hi => (e8 i hi)) (by omega) rfl
      · refine qm_Ru.go 1 (c' := (39, [.ref 118, .int ru, .int i0, .int n, .int a, .int b], [.ref 118], (h.1, I, J, h.2.2.2))) rfl ?_
        refine hk_getr rfl (hH.1 118 (17, 105) rfl) rfl (hH.2 118 49 (some 150) rfl) ?_
        refine qm_Ru.go 1 (c' := (44, [.ref 118, .int ru, .int i0, .int n, .int a, .int b], [.int a, .ref 150], (h.1, I, J, h.2.2.2))) rfl ?_
        obtain ⟨v6, q_v6⟩ : ∃ v, h.2.1 150 (a.toInt.toNat) = v := ⟨_, rfl⟩
        have b_v6 : (0 : Int) ≤ v6.toInt ∧ v6.toInt ≤ 2 := by rw [← q_v6]; exact hB 150 (a.toInt.toNat)
        refine hk_ial (v := v6) rfl (hH.1 150 (0, 30) rfl) (by omega) (by omega) (show (I) 150 (a.toInt.toNat) = _ from ((e 150 rfl (a.toInt.toNat)).trans q_v6)) ?_
        refine qm_Ru.go 1 (c' := (46, [.ref 118, .int ru, .int i0, .int n, .int a, .int b], [.int 1, .int v6], (h.1, I, J, h.2.2.2))) rfl ?_
        refine hk_cne (ix := v6.toInt) (iy := 1) rfl rfl rfl (fun z7 => ?_) (fun z7 => ?_)
        · refine qm_Ru.go 1 (c' := (98, [.ref 118, .int ru, .int i0, .int n, .int a, .int (b + 1)], [], (h.1, I, J, h.2.2.2))) rfl ?_
          obtain ⟨v8, q_v8, e_v8⟩ := hk_add (x := b) (y := 1) (a := b.toInt) (b := 1) rfl rfl (by omega) (by omega)
          rw [q_v8]
          refine qm_Ru.go 1 (c' := (22, [.ref 118, .int ru, .int i0, .int n, .int a, .int v8], [], (h.1, I, J, h.2.2.2))) rfl ?_
          exact ih _ (by omega) (I) (J) n v8 hBI (fun o ho i => (e o ho i)) (fun i hi => (e8 i hi)) (by omega) rfl
        · refine qm_Ru.go 1 (c' := (50, [.ref 118, .int ru, .int i0, .int n, .int a, .int b], [.ref 118], (h.1, I, J, h.2.2.2))) rfl ?_
          refine hk_getr rfl (hH.1 118 (17, 105) rfl) rfl (hH.2 118 49 (some 150) rfl) ?_
          refine qm_Ru.go 1 (c' := (55, [.ref 118, .int ru, .int i0, .int n, .int a, .int b], [.int b, .ref 150], (h.1, I, J, h.2.2.2))) rfl ?_
          obtain ⟨v9, q_v9⟩ : ∃ v, h.2.1 150 (b.toInt.toNat) = v := ⟨_, rfl⟩
          have b_v9 : (0 : Int) ≤ v9.toInt ∧ v9.toInt ≤ 2 := by rw [← q_v9]; exact hB 150 (b.toInt.toNat)
          refine hk_ial (v := v9) rfl (hH.1 150 (0, 30) rfl) (by omega) (by omega) (show (I) 150 (b.toInt.toNat) = _ from ((e 150 rfl (b.toInt.toNat)).trans q_v9)) ?_
          refine qm_Ru.go 1 (c' := (57, [.ref 118, .int ru, .int i0, .int n, .int a, .int b], [.int 1, .int v9], (h.1, I, J, h.2.2.2))) rfl ?_
          refine hk_cne (ix := v9.toInt) (iy := 1) rfl rfl rfl (fun z10 => ?_) (fun z10 => ?_)
          · refine qm_Ru.go 1 (c' := (98, [.ref 118, .int ru, .int i0, .int n, .int a, .int (b + 1)], [], (h.1, I, J, h.2.2.2))) rfl ?_
            obtain ⟨v11, q_v11, e_v11⟩ := hk_add (x := b) (y := 1) (a := b.toInt) (b := 1) rfl rfl (by omega) (by omega)
            rw [q_v11]
            refine qm_Ru.go 1 (c' := (22, [.ref 118, .int ru, .int i0, .int n, .int a, .int v11], [], (h.1, I, J, h.2.2.2))) rfl ?_
            exact ih _ (by omega) (I) (J) n v11 hBI (fun o ho i => (e o ho i)) (fun i hi => (e8 i hi)) (by omega) rfl
          · refine qm_Ru.go 4 (c' := (66, [.ref 118, .int ru, .int i0, .int n, .int a, .int b], [.int b, .int a, .int ru, .ref 118], (h.1, I, J, h.2.2.2))) rfl ?_
            obtain ⟨v12, q_v12⟩ : ∃ v, h.2.1 118 18 = v := ⟨_, rfl⟩
            have b_v12 : (0 : Int) ≤ v12.toInt ∧ v12.toInt ≤ 1 := by rw [← q_v12]; exact hB 118 18
            refine hk_inv (o := 118) (r := []) (as := [.ref 118, .int ru, .int a, .int b]) rfl rfl (hH.1 118 (17, 105) rfl) rfl rfl rfl rfl (hs_pairb (h := (h.1, I, J, h.2.2.2)) h6 hH hBI (by omega) (by omega) (by omega) (by show rule_ok (I) (16 * ((I) 118 18).toInt.toNat + ru.toInt.toNat); rw [(show (I) 118 18 = _ from ((e8 18 (by omega)).trans q_v12))]; have g := hr; rw [q_v12] at g; exact rule_cg g ((funext fun i => congrArg Int32.toInt (e 133 rfl i)).trans rfl) ((funext fun i => congrArg Int32.toInt (e 134 rfl i)).trans rfl) ((funext fun i => congrArg Int32.toInt (e 138 rfl i)).trans rfl) ((funext fun i => congrArg Int32.toInt (e 139 rfl i)).trans rfl) ((funext fun i => congrArg Int32.toInt (e 140 rfl i)).trans rfl) ((funext fun i => congrArg Int32.toInt (e 141 rfl i)).trans rfl) ((funext fun i => congrArg Int32.toInt (e 142 rfl i)).trans rfl)) (fun v15 I13 J14 b_v15 hB_I13 e_I13 => ?_))
            refine qm_Ru.go 0 (c' := (69, [.ref 118, .int ru, .int i0, .int n, .int a, .int b], [.int v15], (h.1, I13, J14, h.2.2.2))) rfl ?_
            refine hk_zne (ix := v15.toInt) rfl rfl (fun z16 => ?_) (fun z16 => ?_)
            · refine qm_Ru.go 2 (c' := (77, [.ref 118, .int ru, .int i0, .int n, .int a, .int b], [.int i0, .int n], (h.1, I13, J14, h.2.2.2))) rfl ?_
              refine hk_cne (ix := n.toInt) (iy := i0.toInt) rfl rfl rfl (fun z17 => ?_) (fun z17 => ?_)
              · refine qm_Ru.go 1 (c' := (95, [.ref 118, .int ru, .int i0, .int (n + 1), .int a, .int b], [], (h.1, I13, J14, h.2.2.2))) rfl ?_
                obtain ⟨v18, q_v18⟩ : ∃ v, (n + 1) = v := ⟨_, rfl⟩
                rw [q_v18]
                refine qm_Ru.go 1 (c' := (98, [.ref 118, .int ru, .int i0, .int v18, .int a, .int (b + 1)], [], (h.1, I13, J14, h.2.2.2))) rfl ?_
                obtain ⟨v19, q_v19, e_v19⟩ := hk_add (x := b) (y := 1) (a := b.toInt) (b := 1) rfl rfl (by omega) (by omega)
                rw [q_v19]
                refine qm_Ru.go 1 (c' := (22, [.ref 118, .int ru, .int i0, .int v18, .int a, .int v19], [], (h.1, I13, J14, h.2.2.2))) rfl ?_
                exact ih _ (by omega) (I13) (J14) v18 v19 hB_I13 (fun o ho i => ((e_I13 o (hk_ms rfl ho) i).trans (e o ho i))) (fun i hi => ((e_I13 118 rfl i).trans (e8 i hi))) (by omega) rfl
              · refine qm_Ru.go 4 (c' := (86, [.ref 118, .int ru, .int i0, .int n, .int a, .int b], [.int (100 * a), .ref 118], (h.1, I13, J14, h.2.2.2))) rfl ?_
                obtain ⟨v20, q_v20, e_v20⟩ := hk_mul (x := 100) (y := a) (a := 100) (b := a.toInt) rfl rfl (by omega) (by omega)
                rw [q_v20]
                refine qm_Ru.go 2 (c' := (89, [.ref 118, .int ru, .int i0, .int n, .int a, .int b], [.int (v20 + b), .ref 118], (h.1, I13, J14, h.2.2.2))) rfl ?_
                obtain ⟨v21, q_v21, e_v21⟩ := hk_add (x := v20) (y := b) (a := v20.toInt) (b := b.toInt) rfl rfl (by omega) (by omega)
                rw [q_v21]
                refine hk_puti rfl (hH.1 118 (17, 105) rfl) rfl ?_
                refine qm_Ru.go 1 (c' := (95, [.ref 118, .int ru, .int i0, .int (n + 1), .int a, .int b], [], (h.1, qm_up I13 118 57 v21, J14, h.2.2.2))) rfl ?_
                obtain ⟨v22, q_v22⟩ : ∃ v, (n + 1) = v := ⟨_, rfl⟩
                rw [q_v22]
                refine qm_Ru.go 1 (c' := (98, [.ref 118, .int ru, .int i0, .int v22, .int a, .int (b + 1)], [], (h.1, qm_up I13 118 57 v21, J14, h.2.2.2))) rfl ?_
                obtain ⟨v23, q_v23, e_v23⟩ := hk_add (x := b) (y := 1) (a := b.toInt) (b := 1) rfl rfl (by omega) (by omega)
                rw [q_v23]
                refine qm_Ru.go 1 (c' := (22, [.ref 118, .int ru, .int i0, .int v22, .int a, .int v23], [], (h.1, qm_up I13 118 57 v21, J14, h.2.2.2))) rfl ?_
                exact ih _ (by omega) (qm_up I13 118 57 v21) (J14) v22 v23 (hb_up (o := 118) (k := 57) (x := v21) hB_I13 (qa_in_full _)) (fun o ho i => ((hk_mod ho rfl).trans ((e_I13 o (hk_ms rfl ho) i).trans (e o ho i)))) (fun i hi => ((hk_neq hi).trans ((e_I13 118 rfl i).trans (e8 i hi)))) (by omega) rfl
            · refine qm_Ru.go 2 (c' := (98, [.ref 118, .int ru, .int i0, .int n, .int a, .int (b + 1)], [], (h.1, I13, J14, h.2.2.2))) rfl ?_
              obtain ⟨v24, q_v24, e_v24⟩ := hk_add (x := b) (y := 1) (a := b.toInt) (b := 1) rfl rfl (by omega) (by omega)
              rw [q_v24]
              refine qm_Ru.go 1 (c' := (22, [.ref 118, .int ru, .int i0, .int n, .int a, .int v24], [], (h.1, I13, J14, h.2.2.2))) rfl ?_
              exact ih _ (by omega) (I13) (J14) n v24 hB_I13 (fun o ho i => ((e_I13 o (hk_ms rfl ho) i).trans (e o ho i))) (fun i hi => ((e_I13 118 rfl i).trans (e8 i hi))) (by omega) rfl
theorem hl_pout {L : Nat} {xs : Nat → Int32} {d : Nat} {Z : Option Value → qm_H → Prop} {h : qm_H} (h6 : 6 ≤ L) (hH : hk_H h) (hB : hk_B h.2.1) {ru i0 : Int32} (b_ru : (0 : Int) ≤ ru.toInt ∧ ru.toInt ≤ 7) (hr : rule_ok h.2.1 (16 * (h.2.1 118 18).toInt.toNat + ru.toInt.toNat)) (k : ∀ (v : Int32) (I : Nat → Nat → Int32) (J : Nat → Nat → Int64), hk_B I → (∀ o, [118, 144, 145].contains o = false → ∀ i, I o i = h.2.1 o i) → (∀ i, i ≠ 57 → I 118 i = h.2.1 118 i) → Z (some (.int v)) (h.1, I, J, h.2.2.2)) : ∀ (m : Nat) (I : Nat → Nat → Int32) (J : Nat → Nat → Int64) (n : Int32) (a : Int32) (lb : Value), hk_B I → (∀ o, [118, 144, 145].contains o = false → ∀ i, I o i = h.2.1 o i) → (∀ i, i ≠ 57 → I 118 i = h.2.1 118 i) → ((0 : Int) ≤ a.toInt ∧ a.toInt ≤ 30) → (30 - a.toInt).toNat = m → qm_Ru (some (L, xs)) (d + 70) cd_304 (10, [.ref 118, .int ru, .int i0, .int n, .int a, lb], [], (h.1, I, J, h.2.2.2)) Z := by
  intro m
  induction m using Nat.strongRecOn with
  | ind m ih =>
    intro I J n a lb hBI e e8 ha hm
    refine qm_Ru.go 2 (c' := (13, [.ref 118, .int ru, .int i0, .int n, .int a, lb], [.ref 118, .int a], (h.1, I, J, h.2.2.2))) rfl ?_
    obtain ⟨v1, q_v1⟩ : ∃ v, h.2.1 118 44 = v := ⟨_, rfl⟩
    have b_v1 : (0 : Int) ≤ v1.toInt ∧ v1.toInt ≤ 30 := by rw [← q_v1]; exact hB 118 44
    refine hk_geti (v := v1) rfl (hH.1 118 (17, 105) rfl) rfl (show (I) 118 44 = _ from ((e8 44 (by omega)).trans q_v1)) ?_
    refine qm_Ru.go 0 (c' := (16, [.ref 118, .int ru, .int i0, .int n, .int a, lb], [.int v1, .int a], (h.1, I, J, h.2.2.2))) rfl ?_
    refine hk_cge (ix := a.toInt) (iy := v1.toInt) rfl rfl rfl (fun z2 => ?_) (fun z2 => ?_)
    · refine qm_Ru.go 1 (c' := (108, [.ref 118, .int ru, .int i0, .int n, .int a, lb], [.int n], (h.1, I, J, h.2.2.2))) rfl ?_
      refine qm_Ru.rt (v := (some (.int n))) (h' := (h.1, I, J, h.2.2.2)) rfl ?_
      exact k n (I) (J) hBI (fun o ho i => (e o ho i)) (fun i hi => (e8 i hi))
    · refine qm_Ru.go 2 (c' := (22, [.ref 118, .int ru, .int i0, .int n, .int a, .int 0], [], (h.1, I, J, h.2.2.2))) rfl ?_
      exact hl_pin h6 hH hB b_ru hr (a := a) (by omega) (fun I J n a2 b hBI e e8 ea => ih _ (by omega) I J n a2 (.int b) hBI e e8 (by omega) rfl) _ (I) (J) n 0 hBI (fun o ho i => (e o ho i)) (fun i hi => (e8 i hi)) (by decide) rfl
theorem hs_pairsof {L : Nat} {xs : Nat → Int32} {d : Nat} {Z : Option Value → qm_H → Prop} {h : qm_H} (h6 : 6 ≤ L) (hH : hk_H h) (hB : hk_B h.2.1) {ru i0 : Int32} (b_ru : (0 : Int) ≤ ru.toInt ∧ ru.toInt ≤ 7) (hr : rule_ok h.2.1 (16 * (h.2.1 118 18).toInt.toNat + ru.toInt.toNat)) (k : ∀ (v : Int32) (I : Nat → Nat → Int32) (J : Nat → Nat → Int64), hk_B I → (∀ o, [118, 144, 145].contains o = false → ∀ i, I o i = h.2.1 o i) → (∀ i, i ≠ 57 → I 118 i = h.2.1 118 i) → Z (some (.int v)) (h.1, I, J, h.2.2.2)) : qm_Ru (some (L, xs)) (d + 70) cd_304 (qm_ent 6 [.ref 118, .int ru, .int i0] h) Z := by
  refine qm_Ru.go 4 (c' := (4, [.ref 118, .int ru, .int i0, .int 0, .float 0, .float 0], [.int (-1), .ref 118], h)) rfl ?_
  refine hk_puti rfl (hH.1 118 (17, 105) rfl) rfl ?_
  refine qm_Ru.go 2 (c' := (10, [.ref 118, .int ru, .int i0, .int 0, .int 0, .float 0], [], (h.1, qm_up h.2.1 118 57 (-1), h.2.2.1, h.2.2.2))) rfl ?_
  exact hl_pout h6 hH hB b_ru hr k _ (qm_up h.2.1 118 57 (-1)) (h.2.2.1) 0 0 _ (hb_up (o := 118) (k := 57) (x := (-1)) hB (qa_in_full _)) (fun o ho i => ((hk_mod ho rfl).trans rfl)) (fun i hi => ((hk_neq hi).trans rfl)) (by decide) rfl
theorem hl_plof {L : Nat} {xs : Nat → Int32} {d : Nat} {Z : Option Value → qm_H → Prop} {h : qm_H} (h6 : 6 ≤ L) (hH : hk_H h) (hB : hk_B h.2.1) {ru : Int32} (b_ru : (0 : Int) ≤ ru.toInt ∧ ru.toInt ≤ 7) (hr : rule_ok h.2.1 (16 * (h.2.1 118 18).toInt.toNat + 8 + ru.toInt.toNat)) (k : ∀ (v : Int32) (I : Nat → Nat → Int32) (J : Nat → Nat → Int64), hk_B I → (∀ o, [144, 145].contains o = false → ∀ i, I o i = h.2.1 o i) → Z (some (.int v)) (h.1, I, J, h.2.2.2)) : ∀ (m : Nat) (I : Nat → Nat → Int32) (J : Nat → Nat → Int64) (n : Int32) (a : Int32), hk_B I → (∀ o, [144, 145].contains o = false → ∀ i, I o i = h.2.1 o i) → ((0 : Int) ≤ a.toInt ∧ a.toInt ≤ 30) → (30 - a.toInt).toNat = m → qm_Ru (some (L, xs)) (d + 70) cd_313 (4, [.ref 118, .int ru, .int n, .int a], [], (h.1, I, J, h.2.2.2)) Z := by
  intro m
  induction m using Nat.strongRecOn with
  | ind m ih =>
    intro I J n a hBI e ha hm
    refine qm_Ru.go 2 (c' := (6, [.ref 118, .int ru, .int n, .int a], [.ref 118, .int a], (h.1, I, J, h.2.2.2))) rfl ?_
    obtain ⟨v1, q_v1⟩ : ∃ v, h.2.1 118 44 = v := ⟨_, rfl⟩
    have b_v1 : (0 : Int) ≤ v1.toInt ∧ v1.toInt ≤ 30 := by rw [← q_v1]; exact hB 118 44
    refine hk_geti (v := v1) rfl (hH.1 118 (17, 105) rfl) rfl (show (I) 118 44 = _ from ((e 118 rfl 44).trans q_v1)) ?_
    refine qm_Ru.go 0 (c' := (9, [.ref 118, .int ru, .int n, .int a], [.int v1, .int a], (h.1, I, J, h.2.2.2))) rfl ?_
    refine hk_cge (ix := a.toInt) (iy := v1.toInt) rfl rfl rfl (fun z2 => ?_) (fun z2 => ?_)
    · refine qm_Ru.go 1 (c' := (41, [.ref 118, .int ru, .int n, .int a], [.int n], (h.1, I, J, h.2.2.2))) rfl ?_
      refine qm_Ru.rt (v := (some (.int n))) (h' := (h.1, I, J, h.2.2.2)) rfl ?_
      exact k n (I) (J) hBI (fun o ho i => (e o ho i))
    · refine qm_Ru.go 1 (c' := (13, [.ref 118, .int ru, .int n, .int a], [.ref 118], (h.1, I, J, h.2.2.2))) rfl ?_
      refine hk_getr rfl (hH.1 118 (17, 105) rfl) rfl (hH.2 118 49 (some 150) rfl) ?_
      refine qm_Ru.go 1 (c' := (17, [.ref 118, .int ru, .int n, .int a], [.int a, .ref 150], (h.1, I, J, h.2.2.2))) rfl ?_
      obtain ⟨v3, q_v3⟩ : ∃ v, h.2.1 150 (a.toInt.toNat) = v := ⟨_, rfl⟩
      have b_v3 : (0 : Int) ≤ v3.toInt ∧ v3.toInt ≤ 2 := by rw [← q_v3]; exact hB 150 (a.toInt.toNat)
      refine hk_ial (v := v3) rfl (hH.1 150 (0, 30) rfl) (by omega) (by omega) (show (I) 150 (a.toInt.toNat) = _ from ((e 150 rfl (a.toInt.toNat)).trans q_v3)) ?_
      refine qm_Ru.go 1 (c' := (19, [.ref 118, .int ru, .int n, .int a], [.int 1, .int v3], (h.1, I, J, h.2.2.2))) rfl ?_
      refine hk_cne (ix := v3.toInt) (iy := 1) rfl rfl rfl (fun z4 => ?_) (fun z4 => ?_)
      · refine qm_Ru.go 1 (c' := (37, [.ref 118, .int ru, .int n, .int (a + 1)], [], (h.1, I, J, h.2.2.2))) rfl ?_
        obtain ⟨v5, q_v5, e_v5⟩ := hk_add (x := a) (y := 1) (a := a.toInt) (b := 1) rfl rfl (by omega) (by omega)
        rw [q_v5]
        refine qm_Ru.go 1 (c' := (4, [.ref 118, .int ru, .int n, .int v5], [], (h.1, I, J, h.2.2.2))) rfl ?_
        exact ih _ (by omega) (I) (J) n v5 hBI (fun o ho i => (e o ho i)) (by omega) rfl
      · refine qm_Ru.go 3 (c' := (25, [.ref 118, .int ru, .int n, .int a], [.int a, .int ru, .ref 118], (h.1, I, J, h.2.2.2))) rfl ?_
        obtain ⟨v6, q_v6⟩ : ∃ v, h.2.1 118 18 = v := ⟨_, rfl⟩
        have b_v6 : (0 : Int) ≤ v6.toInt ∧ v6.toInt ≤ 1 := by rw [← q_v6]; exact hB 118 18
        refine hk_inv (o := 118) (r := []) (as := [.ref 118, .int ru, .int a]) rfl rfl (hH.1 118 (17, 105) rfl) rfl rfl rfl rfl (hs_placeb (h := (h.1, I, J, h.2.2.2)) h6 hH hBI (by omega) (by omega) (by show rule_ok (I) (16 * ((I) 118 18).toInt.toNat + 8 + ru.toInt.toNat); rw [(show (I) 118 18 = _ from ((e 118 rfl 18).trans q_v6))]; have g := hr; rw [q_v6] at g; exact rule_cg g ((funext fun i => congrArg Int32.toInt (e 133 rfl i)).trans rfl) ((funext fun i => congrArg Int32.toInt (e 134 rfl i)).trans rfl) ((funext fun i => congrArg Int32.toInt (e 138 rfl i)).trans rfl) ((funext fun i => congrArg Int32.toInt (e 139 rfl i)).trans rfl) ((funext fun i => congrArg Int32.toInt (e 140 rfl i)).trans rfl) ((funext fun i => congrArg Int32.toInt (e 141 rfl i)).trans rfl) ((funext fun i => congrArg Int32.toInt (e 142 rfl i)).trans rfl)) (fun v9 I7 J8 b_v9 hB_I7 e_I7 => ?_))
        refine qm_Ru.go 0 (c' := (28, [.ref 118, .int ru, .int n, .int a], [.int v9], (h.1, I7, J8, h.2.2.2))) rfl ?_
        refine hk_zeq (ix := v9.toInt) rfl rfl (fun z10 => ?_) (fun z10 => ?_)
        · refine qm_Ru.go 1 (c' := (37, [.ref 118, .int ru, .int n, .int (a + 1)], [], (h.1, I7, J8, h.2.2.2))) rfl ?_
          obtain ⟨v11, q_v11, e_v11⟩ := hk_add (x := a) (y := 1) (a := a.toInt) (b := 1) rfl rfl (by omega) (by omega)
          rw [q_v11]
          refine qm_Ru.go 1 (c' := (4, [.ref 118, .int ru, .int n, .int v11], [], (h.1, I7, J8, h.2.2.2))) rfl ?_
          exact ih _ (by omega) (I7) (J8) n v11 hB_I7 (fun o ho i => ((e_I7 o (hk_ms rfl ho) i).trans (e o ho i))) (by omega) rfl
        · refine qm_Ru.go 1 (c' := (34, [.ref 118, .int ru, .int (n + 1), .int a], [], (h.1, I7, J8, h.2.2.2))) rfl ?_
          obtain ⟨v12, q_v12⟩ : ∃ v, (n + 1) = v := ⟨_, rfl⟩
          rw [q_v12]
          refine qm_Ru.go 1 (c' := (37, [.ref 118, .int ru, .int v12, .int (a + 1)], [], (h.1, I7, J8, h.2.2.2))) rfl ?_
          obtain ⟨v13, q_v13, e_v13⟩ := hk_add (x := a) (y := 1) (a := a.toInt) (b := 1) rfl rfl (by omega) (by omega)
          rw [q_v13]
          refine qm_Ru.go 1 (c' := (4, [.ref 118, .int ru, .int v12, .int v13], [], (h.1, I7, J8, h.2.2.2))) rfl ?_
          exact ih _ (by omega) (I7) (J8) v12 v13 hB_I7 (fun o ho i => ((e_I7 o (hk_ms rfl ho) i).trans (e o ho i))) (by omega) rfl
theorem hs_placesof {L : Nat} {xs : Nat → Int32} {d : Nat} {Z : Option Value → qm_H → Prop} {h : qm_H} (h6 : 6 ≤ L) (hH : hk_H h) (hB : hk_B h.2.1) {ru : Int32} (b_ru : (0 : Int) ≤ ru.toInt ∧ ru.toInt ≤ 7) (hr : rule_ok h.2.1 (16 * (h.2.1 118 18).toInt.toNat + 8 + ru.toInt.toNat)) (k : ∀ (v : Int32) (I : Nat → Nat → Int32) (J : Nat → Nat → Int64), hk_B I → (∀ o, [144, 145].contains o = false → ∀ i, I o i = h.2.1 o i) → Z (some (.int v)) (h.1, I, J, h.2.2.2)) : qm_Ru (some (L, xs)) (d + 70) cd_313 (qm_ent 4 [.ref 118, .int ru] h) Z := by
  refine qm_Ru.go 4 (c' := (4, [.ref 118, .int ru, .int 0, .int 0], [], h)) rfl ?_
  exact hl_plof h6 hH hB b_ru hr k _ (h.2.1) (h.2.2.1) 0 0 hB (fun o ho i => rfl) (by decide) rfl
