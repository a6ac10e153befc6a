/-! by hand -/
theorem hl_cp {L : Nat} {xs : Nat → Int32} {d : Nat} {Z : Option Value → qm_H → Prop} {h : qm_H} (hH : hk_H h) (hB : hk_B h.2.1) {n : Int32} (q_n : h.2.1 118 4 = n) (hn : 0 ≤ n.toInt ∧ n.toInt ≤ 2000) (k : ∀ (I : Nat → Nat → Int32) (J : Nat → Nat → Int64) (i : Int32), hk_B I → (∀ o, [120].contains o = false → ∀ i, I o i = h.2.1 o i) → qm_Ru (some (L, xs)) (d + 10) cd_248 (36, [.ref 118, .int i], [], (h.1, I, J, h.2.2.2)) Z) : ∀ (m : Nat) (I : Nat → Nat → Int32) (J : Nat → Nat → Int64) (i : Int32), hk_B I → (∀ o, [120].contains o = false → ∀ i, I o i = h.2.1 o i) → (0 ≤ i.toInt ∧ i.toInt ≤ n.toInt) → (n.toInt - i.toInt ≤ (m : Int)) → qm_Ru (some (L, xs)) (d + 10) cd_248 (10, [.ref 118, .int i], [], (h.1, I, J, h.2.2.2)) Z := by
  intro m
  induction m using Nat.strongRecOn with
  | ind m ih =>
    intro I J i hBI e hi hm
    have e8 : ∀ i : Nat, ([] : List Nat).contains i = false → I 118 i = h.2.1 118 i := fun i _ => e 118 rfl i
    refine qm_Ru.go 2 (c' := (12, [.ref 118, .int i], [.ref 118, .int i], (h.1, I, J, h.2.2.2))) rfl ?_
    refine hk_geti (v := n) rfl (hH.1 118 (17, 105) rfl) rfl (show (I) 118 4 = _ from ((e8 4 rfl).trans q_n)) ?_
    refine qm_Ru.go 0 (c' := (15, [.ref 118, .int i], [.int n, .int i], (h.1, I, J, h.2.2.2))) rfl ?_
    refine hk_cge (ix := i.toInt) (iy := n.toInt) rfl rfl rfl (fun z1 => ?_) (fun z1 => ?_)
    · refine qm_Ru.go 0 (c' := (36, [.ref 118, .int i], [], (h.1, I, J, h.2.2.2))) rfl ?_
      exact k (I) (J) i hBI (fun o ho i => ((e o (hk_ms rfl ho) i).trans rfl))
    · refine qm_Ru.go 1 (c' := (19, [.ref 118, .int i], [.ref 118], (h.1, I, J, h.2.2.2))) rfl ?_
      refine hk_getr rfl (hH.1 118 (17, 105) rfl) rfl (hH.2 118 3 (some 120) rfl) ?_
      refine qm_Ru.go 2 (c' := (24, [.ref 118, .int i], [.ref 118, .int i, .ref 120], (h.1, I, J, h.2.2.2))) rfl ?_
      refine hk_getr rfl (hH.1 118 (17, 105) rfl) rfl (hH.2 118 1 (some 119) rfl) ?_
      refine qm_Ru.go 1 (c' := (28, [.ref 118, .int i], [.int i, .ref 119, .int i, .ref 120], (h.1, I, J, h.2.2.2))) rfl ?_
      obtain ⟨v2, q_v2⟩ : ∃ v, h.2.1 119 (i.toInt.toNat) = v := ⟨_, rfl⟩
      have b_v2 : (-128 : Int) ≤ v2.toInt ∧ v2.toInt ≤ 127 := by rw [← q_v2]; exact hB 119 (i.toInt.toNat)
      refine hk_bal (v := v2) rfl (hH.1 119 (1, 2000) rfl) (by decide) (by omega) (by omega) (show (I) 119 (i.toInt.toNat) = _ from ((e 119 rfl (i.toInt.toNat)).trans q_v2)) ?_
      refine qm_Ru.go 0 (c' := (29, [.ref 118, .int i], [.int v2, .int i, .ref 120], (h.1, I, J, h.2.2.2))) rfl ?_
      refine hk_bas1 rfl (hH.1 120 (1, 2000) rfl) (by omega) (by omega) ?_
      obtain ⟨v3, q_v3⟩ : ∃ v, vp_nar .byte v2 = v := ⟨_, rfl⟩
      have b_v3 : (-128 : Int) ≤ v3.toInt ∧ v3.toInt ≤ 127 := by rw [← q_v3]; exact qa_byt_ok _
      rw [q_v3]
      refine qm_Ru.go 1 (c' := (33, [.ref 118, .int (i + 1)], [], (h.1, qm_up I 120 (i.toInt.toNat) v3, J, h.2.2.2))) rfl ?_
      obtain ⟨v4, q_v4, e_v4⟩ := hk_add (x := i) (y := 1) (a := i.toInt) (b := 1) rfl rfl (by omega) (by omega)
      rw [q_v4]
      refine qm_Ru.go 1 (c' := (10, [.ref 118, .int v4], [], (h.1, qm_up I 120 (i.toInt.toNat) v3, J, h.2.2.2))) rfl ?_
      exact ih (m - 1) (by omega) (qm_up I 120 (i.toInt.toNat) v3) (J) v4 (hb_up (o := 120) (k := i.toInt.toNat) (x := v3) hBI ⟨by show (-128 : Int) ≤ v3.toInt; omega, by show v3.toInt ≤ (127 : Int); omega⟩) (fun o ho i => ((hk_mod ho rfl).trans ((e o (hk_ms rfl ho) i).trans rfl))) (by omega) (by omega)
theorem hl_sh {L : Nat} {xs : Nat → Int32} {d : Nat} {Z : Option Value → qm_H → Prop} {h : qm_H} (hH : hk_H h) (hB : hk_B h.2.1) {sd : Int32} (q_sd : h.2.1 118 19 = sd) (hsd : 0 ≤ sd.toInt ∧ sd.toInt ≤ 1) (kz : Z (some (.int (-3))) h) (k : ∀ I : Nat → Nat → Int32, hk_B I → (∀ o, [118, 177, 178, 179, 180, 181].contains o = false → ∀ i, I o i = h.2.1 o i) → I 118 18 = sd → I 118 44 = h.2.1 118 44 → I 118 59 = h.2.1 118 59 → Z (some (.int 0)) (h.1, I, h.2.2.1, h.2.2.2)) : ∀ (m : Nat) (i : Int32), (0 ≤ i.toInt ∧ i.toInt ≤ 80) → (80 - i.toInt ≤ (m : Int)) → qm_Ru (some (L, xs)) (d + 10) cd_248 (295, [.ref 118, .int i], [], h) Z := by
  intro m
  induction m using Nat.strongRecOn with
  | ind m ih =>
    intro i hi hm
    refine qm_Ru.go 2 (c' := (298, [.ref 118, .int i], [.int 80, .int i], h)) rfl ?_
    refine hk_cge (ix := i.toInt) (iy := 80) rfl rfl rfl (fun z1 => ?_) (fun z1 => ?_)
    · refine qm_Ru.go 2 (c' := (322, [.ref 118, .int i], [.ref 118, .ref 118], h)) rfl ?_
      refine hk_geti (v := sd) rfl (hH.1 118 (17, 105) rfl) rfl q_sd ?_
      refine qm_Ru.go 0 (c' := (325, [.ref 118, .int i], [.int sd, .ref 118], h)) rfl ?_
      refine hk_puti rfl (hH.1 118 (17, 105) rfl) rfl ?_
      refine qm_Ru.go 1 (c' := (329, [.ref 118, .int i], [.ref 118], (h.1, qm_up h.2.1 118 18 sd, h.2.2.1, h.2.2.2))) rfl ?_
      refine hk_inv (o := 118) (r := []) (as := [.ref 118]) rfl rfl (hH.1 118 (17, 105) rfl) rfl rfl rfl rfl ?_
      refine qm_Ru.go 2 (c' := (2, [.ref 118, .float 0], [.int 0, .ref 118], (h.1, qm_up h.2.1 118 18 sd, h.2.2.1, h.2.2.2))) rfl ?_
      refine hk_puti rfl (hH.1 118 (17, 105) rfl) rfl ?_
      refine qm_Ru.go 2 (c' := (7, [.ref 118, .float 0], [.int 0, .ref 118], (h.1, qm_up (qm_up h.2.1 118 18 sd) 118 75 0, h.2.2.1, h.2.2.2))) rfl ?_
      refine hk_puti rfl (hH.1 118 (17, 105) rfl) rfl ?_
      refine qm_Ru.go 2 (c' := (12, [.ref 118, .float 0], [.int 0, .ref 118], (h.1, qm_up (qm_up (qm_up h.2.1 118 18 sd) 118 75 0) 118 85 0, h.2.2.1, h.2.2.2))) rfl ?_
      refine hk_puti rfl (hH.1 118 (17, 105) rfl) rfl ?_
      refine qm_Ru.go 2 (c' := (17, [.ref 118, .float 0], [.int (-1), .ref 118], (h.1, qm_up (qm_up (qm_up (qm_up h.2.1 118 18 sd) 118 75 0) 118 85 0) 118 91 0, h.2.2.1, h.2.2.2))) rfl ?_
      refine hk_puti rfl (hH.1 118 (17, 105) rfl) rfl ?_
      refine qm_Ru.go 2 (c' := (22, [.ref 118, .float 0], [.int 0, .ref 118], (h.1, qm_up (qm_up (qm_up (qm_up (qm_up h.2.1 118 18 sd) 118 75 0) 118 85 0) 118 91 0) 118 92 (-1), h.2.2.1, h.2.2.2))) rfl ?_
      refine hk_puti rfl (hH.1 118 (17, 105) rfl) rfl ?_
      refine qm_Ru.go 2 (c' := (27, [.ref 118, .float 0], [.int 0, .ref 118], (h.1, qm_up (qm_up (qm_up (qm_up (qm_up (qm_up h.2.1 118 18 sd) 118 75 0) 118 85 0) 118 91 0) 118 92 (-1)) 118 93 0, h.2.2.1, h.2.2.2))) rfl ?_
      refine hk_puti rfl (hH.1 118 (17, 105) rfl) rfl ?_
      refine qm_Ru.go 6 (c' := (38, [.ref 118, .int 0], [.ref 118], (h.1, qm_up (qm_up (qm_up (qm_up (qm_up (qm_up (qm_up h.2.1 118 18 sd) 118 75 0) 118 85 0) 118 91 0) 118 92 (-1)) 118 93 0) 118 94 0, h.2.2.1, h.2.2.2))) rfl ?_
      refine hk_getr rfl (hH.1 118 (17, 105) rfl) rfl (hH.2 118 86 (some 177) rfl) ?_
      refine qm_Ru.go 5 (c' := (61, [.ref 118, .int 0], [.int 0, .int 0, .ref 177], (h.1, qm_up (qm_up (qm_up (qm_up (qm_up (qm_up (qm_up h.2.1 118 18 sd) 118 75 0) 118 85 0) 118 91 0) 118 92 (-1)) 118 93 0) 118 94 0, h.2.2.1, h.2.2.2))) rfl ?_
      refine hk_ias rfl (hH.1 177 (0, 2) rfl) (by decide) (by decide) ?_
      refine qm_Ru.go 1 (c' := (63, [.ref 118, .int 0], [.ref 118], (h.1, qm_up (qm_up (qm_up (qm_up (qm_up (qm_up (qm_up (qm_up h.2.1 118 18 sd) 118 75 0) 118 85 0) 118 91 0) 118 92 (-1)) 118 93 0) 118 94 0) 177 0 0, h.2.2.1, h.2.2.2))) rfl ?_
      refine hk_getr rfl (hH.1 118 (17, 105) rfl) rfl (hH.2 118 87 (some 178) rfl) ?_
      refine qm_Ru.go 2 (c' := (68, [.ref 118, .int 0], [.int (-1), .int 0, .ref 178], (h.1, qm_up (qm_up (qm_up (qm_up (qm_up (qm_up (qm_up (qm_up h.2.1 118 18 sd) 118 75 0) 118 85 0) 118 91 0) 118 92 (-1)) 118 93 0) 118 94 0) 177 0 0, h.2.2.1, h.2.2.2))) rfl ?_
      refine hk_ias rfl (hH.1 178 (0, 2) rfl) (by decide) (by decide) ?_
      refine qm_Ru.go 1 (c' := (70, [.ref 118, .int 0], [.ref 118], (h.1, qm_up (qm_up (qm_up (qm_up (qm_up (qm_up (qm_up (qm_up (qm_up h.2.1 118 18 sd) 118 75 0) 118 85 0) 118 91 0) 118 92 (-1)) 118 93 0) 118 94 0) 177 0 0) 178 0 (-1), h.2.2.1, h.2.2.2))) rfl ?_
      refine hk_getr rfl (hH.1 118 (17, 105) rfl) rfl (hH.2 118 88 (some 179) rfl) ?_
      refine qm_Ru.go 2 (c' := (75, [.ref 118, .int 0], [.int 0, .int 0, .ref 179], (h.1, qm_up (qm_up (qm_up (qm_up (qm_up (qm_up (qm_up (qm_up (qm_up h.2.1 118 18 sd) 118 75 0) 118 85 0) 118 91 0) 118 92 (-1)) 118 93 0) 118 94 0) 177 0 0) 178 0 (-1), h.2.2.1, h.2.2.2))) rfl ?_
      refine hk_ias rfl (hH.1 179 (0, 2) rfl) (by decide) (by decide) ?_
      refine qm_Ru.go 1 (c' := (77, [.ref 118, .int 0], [.ref 118], (h.1, qm_up (qm_up (qm_up (qm_up (qm_up (qm_up (qm_up (qm_up (qm_up (qm_up h.2.1 118 18 sd) 118 75 0) 118 85 0) 118 91 0) 118 92 (-1)) 118 93 0) 118 94 0) 177 0 0) 178 0 (-1)) 179 0 0, h.2.2.1, h.2.2.2))) rfl ?_
      refine hk_getr rfl (hH.1 118 (17, 105) rfl) rfl (hH.2 118 89 (some 180) rfl) ?_
      refine qm_Ru.go 2 (c' := (82, [.ref 118, .int 0], [.int 0, .int 0, .ref 180], (h.1, qm_up (qm_up (qm_up (qm_up (qm_up (qm_up (qm_up (qm_up (qm_up (qm_up h.2.1 118 18 sd) 118 75 0) 118 85 0) 118 91 0) 118 92 (-1)) 118 93 0) 118 94 0) 177 0 0) 178 0 (-1)) 179 0 0, h.2.2.1, h.2.2.2))) rfl ?_
      refine hk_ias rfl (hH.1 180 (0, 2) rfl) (by decide) (by decide) ?_
      refine qm_Ru.go 1 (c' := (84, [.ref 118, .int 0], [.ref 118], (h.1, qm_up (qm_up (qm_up (qm_up (qm_up (qm_up (qm_up (qm_up (qm_up (qm_up (qm_up h.2.1 118 18 sd) 118 75 0) 118 85 0) 118 91 0) 118 92 (-1)) 118 93 0) 118 94 0) 177 0 0) 178 0 (-1)) 179 0 0) 180 0 0, h.2.2.1, h.2.2.2))) rfl ?_
      refine hk_getr rfl (hH.1 118 (17, 105) rfl) rfl (hH.2 118 90 (some 181) rfl) ?_
      refine qm_Ru.go 2 (c' := (89, [.ref 118, .int 0], [.int 0, .int 0, .ref 181], (h.1, qm_up (qm_up (qm_up (qm_up (qm_up (qm_up (qm_up (qm_up (qm_up (qm_up (qm_up h.2.1 118 18 sd) 118 75 0) 118 85 0) 118 91 0) 118 92 (-1)) 118 93 0) 118 94 0) 177 0 0) 178 0 (-1)) 179 0 0) 180 0 0, h.2.2.1, h.2.2.2))) rfl ?_
      refine hk_ias rfl (hH.1 181 (0, 2) rfl) (by decide) (by decide) ?_
      refine qm_Ru.go 6 (c' := (38, [.ref 118, .int 1], [.ref 118], (h.1, qm_up (qm_up (qm_up (qm_up (qm_up (qm_up (qm_up (qm_up (qm_up (qm_up (qm_up (qm_up h.2.1 118 18 sd) 118 75 0) 118 85 0) 118 91 0) 118 92 (-1)) 118 93 0) 118 94 0) 177 0 0) 178 0 (-1)) 179 0 0) 180 0 0) 181 0 0, h.2.2.1, h.2.2.2))) rfl ?_
      refine hk_getr rfl (hH.1 118 (17, 105) rfl) rfl (hH.2 118 86 (some 177) rfl) ?_
      refine qm_Ru.go 4 (c' := (51, [.ref 118, .int 1], [.ref 118, .int 1, .ref 177], (h.1, qm_up (qm_up (qm_up (qm_up (qm_up (qm_up (qm_up (qm_up (qm_up (qm_up (qm_up (qm_up h.2.1 118 18 sd) 118 75 0) 118 85 0) 118 91 0) 118 92 (-1)) 118 93 0) 118 94 0) 177 0 0) 178 0 (-1)) 179 0 0) 180 0 0) 181 0 0, h.2.2.1, h.2.2.2))) rfl ?_
      refine hk_getr rfl (hH.1 118 (17, 105) rfl) rfl (hH.2 118 22 (some 127) rfl) ?_
      refine qm_Ru.go 1 (c' := (55, [.ref 118, .int 1], [.ref 118, .ref 127, .int 1, .ref 177], (h.1, qm_up (qm_up (qm_up (qm_up (qm_up (qm_up (qm_up (qm_up (qm_up (qm_up (qm_up (qm_up h.2.1 118 18 sd) 118 75 0) 118 85 0) 118 91 0) 118 92 (-1)) 118 93 0) 118 94 0) 177 0 0) 178 0 (-1)) 179 0 0) 180 0 0) 181 0 0, h.2.2.1, h.2.2.2))) rfl ?_
      refine hk_geti (v := sd) rfl (hH.1 118 (17, 105) rfl) rfl (show (qm_up (qm_up (qm_up (qm_up (qm_up (qm_up (qm_up (qm_up (qm_up (qm_up (qm_up (qm_up h.2.1 118 18 sd) 118 75 0) 118 85 0) 118 91 0) 118 92 (-1)) 118 93 0) 118 94 0) 177 0 0) 178 0 (-1)) 179 0 0) 180 0 0) 181 0 0) 118 18 = _ from ((hk_ot rfl).trans ((hk_ot rfl).trans ((hk_ot rfl).trans ((hk_ot rfl).trans ((hk_ot rfl).trans ((hk_neq (by decide)).trans ((hk_neq (by decide)).trans ((hk_neq (by decide)).trans ((hk_neq (by decide)).trans ((hk_neq (by decide)).trans ((hk_neq (by decide)).trans (hk_same))))))))))))) ?_
      refine qm_Ru.go 0 (c' := (58, [.ref 118, .int 1], [.int sd, .ref 127, .int 1, .ref 177], (h.1, qm_up (qm_up (qm_up (qm_up (qm_up (qm_up (qm_up (qm_up (qm_up (qm_up (qm_up (qm_up h.2.1 118 18 sd) 118 75 0) 118 85 0) 118 91 0) 118 92 (-1)) 118 93 0) 118 94 0) 177 0 0) 178 0 (-1)) 179 0 0) 180 0 0) 181 0 0, h.2.2.1, h.2.2.2))) rfl ?_
      obtain ⟨v2, q_v2⟩ : ∃ v, h.2.1 127 (sd.toInt.toNat) = v := ⟨_, rfl⟩
      have b_v2 : (0 : Int) ≤ v2.toInt ∧ v2.toInt ≤ 5 := by rw [← q_v2]; exact hB 127 (sd.toInt.toNat)
      refine hk_ial (v := v2) rfl (hH.1 127 (0, 2) rfl) (by omega) (by omega) (show (qm_up (qm_up (qm_up (qm_up (qm_up (qm_up (qm_up (qm_up (qm_up (qm_up (qm_up (qm_up h.2.1 118 18 sd) 118 75 0) 118 85 0) 118 91 0) 118 92 (-1)) 118 93 0) 118 94 0) 177 0 0) 178 0 (-1)) 179 0 0) 180 0 0) 181 0 0) 127 (sd.toInt.toNat) = _ from ((hk_ot rfl).trans ((hk_ot rfl).trans ((hk_ot rfl).trans ((hk_ot rfl).trans ((hk_ot rfl).trans ((hk_ot rfl).trans ((hk_ot rfl).trans ((hk_ot rfl).trans ((hk_ot rfl).trans ((hk_ot rfl).trans ((hk_ot rfl).trans ((hk_ot rfl).trans q_v2))))))))))))) ?_
      refine qm_Ru.go 2 (c' := (61, [.ref 118, .int 1], [.int (v2 - 1), .int 1, .ref 177], (h.1, qm_up (qm_up (qm_up (qm_up (qm_up (qm_up (qm_up (qm_up (qm_up (qm_up (qm_up (qm_up h.2.1 118 18 sd) 118 75 0) 118 85 0) 118 91 0) 118 92 (-1)) 118 93 0) 118 94 0) 177 0 0) 178 0 (-1)) 179 0 0) 180 0 0) 181 0 0, h.2.2.1, h.2.2.2))) rfl ?_
      obtain ⟨v3, q_v3, e_v3⟩ := hk_sub (x := v2) (y := 1) (a := v2.toInt) (b := 1) rfl rfl (by omega) (by omega)
      rw [q_v3]
      refine hk_ias rfl (hH.1 177 (0, 2) rfl) (by decide) (by decide) ?_
      refine qm_Ru.go 1 (c' := (63, [.ref 118, .int 1], [.ref 118], (h.1, qm_up (qm_up (qm_up (qm_up (qm_up (qm_up (qm_up (qm_up (qm_up (qm_up (qm_up (qm_up (qm_up h.2.1 118 18 sd) 118 75 0) 118 85 0) 118 91 0) 118 92 (-1)) 118 93 0) 118 94 0) 177 0 0) 178 0 (-1)) 179 0 0) 180 0 0) 181 0 0) 177 1 v3, h.2.2.1, h.2.2.2))) rfl ?_
      refine hk_getr rfl (hH.1 118 (17, 105) rfl) rfl (hH.2 118 87 (some 178) rfl) ?_
      refine qm_Ru.go 2 (c' := (68, [.ref 118, .int 1], [.int (-1), .int 1, .ref 178], (h.1, qm_up (qm_up (qm_up (qm_up (qm_up (qm_up (qm_up (qm_up (qm_up (qm_up (qm_up (qm_up (qm_up h.2.1 118 18 sd) 118 75 0) 118 85 0) 118 91 0) 118 92 (-1)) 118 93 0) 118 94 0) 177 0 0) 178 0 (-1)) 179 0 0) 180 0 0) 181 0 0) 177 1 v3, h.2.2.1, h.2.2.2))) rfl ?_
      refine hk_ias rfl (hH.1 178 (0, 2) rfl) (by decide) (by decide) ?_
      refine qm_Ru.go 1 (c' := (70, [.ref 118, .int 1], [.ref 118], (h.1, qm_up (qm_up (qm_up (qm_up (qm_up (qm_up (qm_up (qm_up (qm_up (qm_up (qm_up (qm_up (qm_up (qm_up h.2.1 118 18 sd) 118 75 0) 118 85 0) 118 91 0) 118 92 (-1)) 118 93 0) 118 94 0) 177 0 0) 178 0 (-1)) 179 0 0) 180 0 0) 181 0 0) 177 1 v3) 178 1 (-1), h.2.2.1, h.2.2.2))) rfl ?_
      refine hk_getr rfl (hH.1 118 (17, 105) rfl) rfl (hH.2 118 88 (some 179) rfl) ?_
      refine qm_Ru.go 2 (c' := (75, [.ref 118, .int 1], [.int 0, .int 1, .ref 179], (h.1, qm_up (qm_up (qm_up (qm_up (qm_up (qm_up (qm_up (qm_up (qm_up (qm_up (qm_up (qm_up (qm_up (qm_up h.2.1 118 18 sd) 118 75 0) 118 85 0) 118 91 0) 118 92 (-1)) 118 93 0) 118 94 0) 177 0 0) 178 0 (-1)) 179 0 0) 180 0 0) 181 0 0) 177 1 v3) 178 1 (-1), h.2.2.1, h.2.2.2))) rfl ?_
      refine hk_ias rfl (hH.1 179 (0, 2) rfl) (by decide) (by decide) ?_
      refine qm_Ru.go 1 (c' := (77, [.ref 118, .int 1], [.ref 118], (h.1, qm_up (qm_up (qm_up (qm_up (qm_up (qm_up (qm_up (qm_up (qm_up (qm_up (qm_up (qm_up (qm_up (qm_up (qm_up h.2.1 118 18 sd) 118 75 0) 118 85 0) 118 91 0) 118 92 (-1)) 118 93 0) 118 94 0) 177 0 0) 178 0 (-1)) 179 0 0) 180 0 0) 181 0 0) 177 1 v3) 178 1 (-1)) 179 1 0, h.2.2.1, h.2.2.2))) rfl ?_
      refine hk_getr rfl (hH.1 118 (17, 105) rfl) rfl (hH.2 118 89 (some 180) rfl) ?_
      refine qm_Ru.go 2 (c' := (82, [.ref 118, .int 1], [.int 0, .int 1, .ref 180], (h.1, qm_up (qm_up (qm_up (qm_up (qm_up (qm_up (qm_up (qm_up (qm_up (qm_up (qm_up (qm_up (qm_up (qm_up (qm_up h.2.1 118 18 sd) 118 75 0) 118 85 0) 118 91 0) 118 92 (-1)) 118 93 0) 118 94 0) 177 0 0) 178 0 (-1)) 179 0 0) 180 0 0) 181 0 0) 177 1 v3) 178 1 (-1)) 179 1 0, h.2.2.1, h.2.2.2))) rfl ?_
      refine hk_ias rfl (hH.1 180 (0, 2) rfl) (by decide) (by decide) ?_
      refine qm_Ru.go 1 (c' := (84, [.ref 118, .int 1], [.ref 118], (h.1, qm_up (qm_up (qm_up (qm_up (qm_up (qm_up (qm_up (qm_up (qm_up (qm_up (qm_up (qm_up (qm_up (qm_up (qm_up (qm_up h.2.1 118 18 sd) 118 75 0) 118 85 0) 118 91 0) 118 92 (-1)) 118 93 0) 118 94 0) 177 0 0) 178 0 (-1)) 179 0 0) 180 0 0) 181 0 0) 177 1 v3) 178 1 (-1)) 179 1 0) 180 1 0, h.2.2.1, h.2.2.2))) rfl ?_
      refine hk_getr rfl (hH.1 118 (17, 105) rfl) rfl (hH.2 118 90 (some 181) rfl) ?_
      refine qm_Ru.go 2 (c' := (89, [.ref 118, .int 1], [.int 0, .int 1, .ref 181], (h.1, qm_up (qm_up (qm_up (qm_up (qm_up (qm_up (qm_up (qm_up (qm_up (qm_up (qm_up (qm_up (qm_up (qm_up (qm_up (qm_up h.2.1 118 18 sd) 118 75 0) 118 85 0) 118 91 0) 118 92 (-1)) 118 93 0) 118 94 0) 177 0 0) 178 0 (-1)) 179 0 0) 180 0 0) 181 0 0) 177 1 v3) 178 1 (-1)) 179 1 0) 180 1 0, h.2.2.1, h.2.2.2))) rfl ?_
      refine hk_ias rfl (hH.1 181 (0, 2) rfl) (by decide) (by decide) ?_
      refine qm_Ru.go 5 (c' := (96, [.ref 118, .int 2], [], (h.1, qm_up (qm_up (qm_up (qm_up (qm_up (qm_up (qm_up (qm_up (qm_up (qm_up (qm_up (qm_up (qm_up (qm_up (qm_up (qm_up (qm_up h.2.1 118 18 sd) 118 75 0) 118 85 0) 118 91 0) 118 92 (-1)) 118 93 0) 118 94 0) 177 0 0) 178 0 (-1)) 179 0 0) 180 0 0) 181 0 0) 177 1 v3) 178 1 (-1)) 179 1 0) 180 1 0) 181 1 0, h.2.2.1, h.2.2.2))) rfl ?_
      refine qm_Ru.rt (v := none) (h' := (h.1, qm_up (qm_up (qm_up (qm_up (qm_up (qm_up (qm_up (qm_up (qm_up (qm_up (qm_up (qm_up (qm_up (qm_up (qm_up (qm_up (qm_up h.2.1 118 18 sd) 118 75 0) 118 85 0) 118 91 0) 118 92 (-1)) 118 93 0) 118 94 0) 177 0 0) 178 0 (-1)) 179 0 0) 180 0 0) 181 0 0) 177 1 v3) 178 1 (-1)) 179 1 0) 180 1 0) 181 1 0, h.2.2.1, h.2.2.2)) rfl ?_
      refine qm_Ru.go 1 (c' := (333, [.ref 118, .int i], [.int 0], (h.1, qm_up (qm_up (qm_up (qm_up (qm_up (qm_up (qm_up (qm_up (qm_up (qm_up (qm_up (qm_up (qm_up (qm_up (qm_up (qm_up (qm_up h.2.1 118 18 sd) 118 75 0) 118 85 0) 118 91 0) 118 92 (-1)) 118 93 0) 118 94 0) 177 0 0) 178 0 (-1)) 179 0 0) 180 0 0) 181 0 0) 177 1 v3) 178 1 (-1)) 179 1 0) 180 1 0) 181 1 0, h.2.2.1, h.2.2.2))) rfl ?_
      refine qm_Ru.rt (v := (some (.int 0))) (h' := (h.1, qm_up (qm_up (qm_up (qm_up (qm_up (qm_up (qm_up (qm_up (qm_up (qm_up (qm_up (qm_up (qm_up (qm_up (qm_up (qm_up (qm_up h.2.1 118 18 sd) 118 75 0) 118 85 0) 118 91 0) 118 92 (-1)) 118 93 0) 118 94 0) 177 0 0) 178 0 (-1)) 179 0 0) 180 0 0) 181 0 0) 177 1 v3) 178 1 (-1)) 179 1 0) 180 1 0) 181 1 0, h.2.2.1, h.2.2.2)) rfl ?_
      exact k (qm_up (qm_up (qm_up (qm_up (qm_up (qm_up (qm_up (qm_up (qm_up (qm_up (qm_up (qm_up (qm_up (qm_up (qm_up (qm_up (qm_up h.2.1 118 18 sd) 118 75 0) 118 85 0) 118 91 0) 118 92 (-1)) 118 93 0) 118 94 0) 177 0 0) 178 0 (-1)) 179 0 0) 180 0 0) 181 0 0) 177 1 v3) 178 1 (-1)) 179 1 0) 180 1 0) 181 1 0) (hb_up (o := 181) (k := 1) (x := 0) (hb_up (o := 180) (k := 1) (x := 0) (hb_up (o := 179) (k := 1) (x := 0) (hb_up (o := 178) (k := 1) (x := (-1)) (hb_up (o := 177) (k := 1) (x := v3) (hb_up (o := 181) (k := 0) (x := 0) (hb_up (o := 180) (k := 0) (x := 0) (hb_up (o := 179) (k := 0) (x := 0) (hb_up (o := 178) (k := 0) (x := (-1)) (hb_up (o := 177) (k := 0) (x := 0) (hb_up (o := 118) (k := 94) (x := 0) (hb_up (o := 118) (k := 93) (x := 0) (hb_up (o := 118) (k := 92) (x := (-1)) (hb_up (o := 118) (k := 91) (x := 0) (hb_up (o := 118) (k := 85) (x := 0) (hb_up (o := 118) (k := 75) (x := 0) (hb_up (o := 118) (k := 18) (x := sd) hB ⟨by show (0 : Int) ≤ sd.toInt; omega, by show sd.toInt ≤ (1 : Int); omega⟩) ⟨(show (0 : Int) ≤ 0 from by decide), (show (0 : Int) ≤ 40 from by decide)⟩) (qa_in_full _)) ⟨(show (0 : Int) ≤ 0 from by decide), (show (0 : Int) ≤ 9999 from by decide)⟩) ⟨(show (-1 : Int) ≤ -1 from by decide), (show (-1 : Int) ≤ 9999 from by decide)⟩) ⟨(show (0 : Int) ≤ 0 from by decide), (show (0 : Int) ≤ 500 from by decide)⟩) ⟨(show (0 : Int) ≤ 0 from by decide), (show (0 : Int) ≤ 500 from by decide)⟩) ⟨(show (-1 : Int) ≤ 0 from by decide), (show (0 : Int) ≤ 4 from by decide)⟩) ⟨(show (-1 : Int) ≤ -1 from by decide), (show (-1 : Int) ≤ 39 from by decide)⟩) (qa_in_full _)) (qa_in_full _)) (qa_in_full _)) ⟨by show (-1 : Int) ≤ v3.toInt; omega, by show v3.toInt ≤ (4 : Int); omega⟩) ⟨(show (-1 : Int) ≤ -1 from by decide), (show (-1 : Int) ≤ 39 from by decide)⟩) (qa_in_full _)) (qa_in_full _)) (qa_in_full _)) (fun o ho i => ((hk_mod ho rfl).trans ((hk_mod ho rfl).trans ((hk_mod ho rfl).trans ((hk_mod ho rfl).trans ((hk_mod ho rfl).trans ((hk_mod ho rfl).trans ((hk_mod ho rfl).trans ((hk_mod ho rfl).trans ((hk_mod ho rfl).trans ((hk_mod ho rfl).trans ((hk_mod ho rfl).trans ((hk_mod ho rfl).trans ((hk_mod ho rfl).trans ((hk_mod ho rfl).trans ((hk_mod ho rfl).trans ((hk_mod ho rfl).trans ((hk_mod ho rfl).trans rfl)))))))))))))))))) ((hk_ot rfl).trans ((hk_ot rfl).trans ((hk_ot rfl).trans ((hk_ot rfl).trans ((hk_ot rfl).trans ((hk_ot rfl).trans ((hk_ot rfl).trans ((hk_ot rfl).trans ((hk_ot rfl).trans ((hk_ot rfl).trans ((hk_neq (by decide)).trans ((hk_neq (by decide)).trans ((hk_neq (by decide)).trans ((hk_neq (by decide)).trans ((hk_neq (by decide)).trans ((hk_neq (by decide)).trans (hk_same))))))))))))))))) ((hk_ot rfl).trans ((hk_ot rfl).trans ((hk_ot rfl).trans ((hk_ot rfl).trans ((hk_ot rfl).trans ((hk_ot rfl).trans ((hk_ot rfl).trans ((hk_ot rfl).trans ((hk_ot rfl).trans ((hk_ot rfl).trans ((hk_neq (by decide)).trans ((hk_neq (by decide)).trans ((hk_neq (by decide)).trans ((hk_neq (by decide)).trans ((hk_neq (by decide)).trans ((hk_neq (by decide)).trans (hk_neq (by decide)))))))))))))))))) ((hk_ot rfl).trans ((hk_ot rfl).trans ((hk_ot rfl).trans ((hk_ot rfl).trans ((hk_ot rfl).trans ((hk_ot rfl).trans ((hk_ot rfl).trans ((hk_ot rfl).trans ((hk_ot rfl).trans ((hk_ot rfl).trans ((hk_neq (by decide)).trans ((hk_neq (by decide)).trans ((hk_neq (by decide)).trans ((hk_neq (by decide)).trans ((hk_neq (by decide)).trans ((hk_neq (by decide)).trans (hk_neq (by decide))))))))))))))))))
    · refine qm_Ru.go 1 (c' := (302, [.ref 118, .int i], [.ref 118], h)) rfl ?_
      refine hk_getr rfl (hH.1 118 (17, 105) rfl) rfl (hH.2 118 51 (some 152) rfl) ?_
      refine qm_Ru.go 1 (c' := (306, [.ref 118, .int i], [.int i, .ref 152], h)) rfl ?_
      obtain ⟨v4, q_v4⟩ : ∃ v, h.2.1 152 (i.toInt.toNat) = v := ⟨_, rfl⟩
      have b_v4 : (-1 : Int) ≤ v4.toInt ∧ v4.toInt ≤ 29 := by rw [← q_v4]; exact hB 152 (i.toInt.toNat)
      refine hk_ial (v := v4) rfl (hH.1 152 (0, 80) rfl) (by omega) (by omega) q_v4 ?_
      refine qm_Ru.go 1 (c' := (308, [.ref 118, .int i], [.int (-1), .int v4], h)) rfl ?_
      refine hk_ceq (ix := v4.toInt) (iy := (-1)) rfl rfl rfl (fun z5 => ?_) (fun z5 => ?_)
      · refine qm_Ru.go 1 (c' := (317, [.ref 118, .int (i + 1)], [], h)) rfl ?_
        obtain ⟨v6, q_v6, e_v6⟩ := hk_add (x := i) (y := 1) (a := i.toInt) (b := 1) rfl rfl (by omega) (by omega)
        rw [q_v6]
        refine qm_Ru.go 1 (c' := (295, [.ref 118, .int v6], [], h)) rfl ?_
        exact ih (m - 1) (by omega) v6 (by omega) (by omega)
      · refine qm_Ru.go 1 (c' := (313, [.ref 118, .int i], [.int (-3)], h)) rfl ?_
        refine qm_Ru.rt (v := (some (.int (-3)))) (h' := h) rfl ?_
        exact kz
theorem hl_rd {L : Nat} {xs : Nat → Int32} {d : Nat} {Z : Option Value → qm_H → Prop} {h : qm_H} (hH : hk_H h) (hB : hk_B h.2.1) {sd : Int32} {c0 l0 : Int} (q_sd : h.2.1 118 19 = sd) (hsd : 0 ≤ sd.toInt ∧ sd.toInt ≤ 1) (hc0 : c0 = 420 * sd.toInt ∧ l0 = 150 * sd.toInt) (k : ∀ (I : Nat → Nat → Int32) (J : Nat → Nat → Int64) (v : Int32), hk_B I → (∀ o, [118, 127, 128, 129, 130, 131, 132, 133, 134, 135, 136, 137, 138, 139, 140, 141, 142, 143, 177, 178, 179, 180, 181].contains o = false → ∀ i, I o i = h.2.1 o i) → I 118 44 = h.2.1 118 44 → I 118 59 = h.2.1 118 59 → ((I 118 18 = h.2.1 118 18 ∧ td (sd.toInt.toNat) h.2.1 I) ∨ s_P I) → Z (some (.int v)) (h.1, I, J, h.2.2.2)) : ∀ (m : Nat) (I : Nat → Nat → Int32) (J : Nat → Nat → Int64) (t f cd op li nn p1 p2 : Int32), (hk_B I) → ((∀ o, [118, 127, 128, 129, 130, 131, 132, 133, 134, 135, 136, 137, 138, 139, 140, 141, 142, 143].contains o = false → ∀ i, I o i = h.2.1 o i)) → ((∀ i, [11, 12, 13, 14, 15, 16, 20, 30, 37, 41].contains i = false → I 118 i = h.2.1 118 i)) → (I 118 11 = t) → (I 118 13 = f) → (I 118 37 = cd) → (I 118 12 = op) → (I 118 30 = li) → (I 118 20 = nn) → (I 131 (sd.toInt.toNat) = p1) → (I 132 (sd.toInt.toNat) = p2) → ((0 ≤ t.toInt ∧ t.toInt ≤ 400 ∧ 0 ≤ f.toInt)) → ((f.toInt = 0 → c0 ≤ cd.toInt ∧ cd.toInt ≤ c0 + t.toInt ∧ op.toInt = 0 ∧ l0 ≤ li.toInt ∧ 3 * (li.toInt - l0) ≤ t.toInt ∧ 0 ≤ p1.toInt ∧ p1.toInt ≤ 8 ∧ 0 ≤ p2.toInt ∧ p2.toInt ≤ 8 ∧ nn.toInt = p1.toInt + p2.toInt)) → (td (sd.toInt.toNat) h.2.1 I) → ((f.toInt = 0 → rs I (sd.toInt.toNat) p1.toInt p2.toInt l0 li.toInt c0 cd.toInt)) → ((f.toInt = 0 → 401 - t.toInt ≤ (m : Int))) → ∀ l1 : Value, qm_Ru (some (L, xs)) (d + 10) cd_248 (203, [.ref 118, l1], [], (h.1, I, J, h.2.2.2)) Z := by
  intro m
  induction m using Nat.strongRecOn with
  | ind m ih =>
    intro I J t f cd op li nn p1 p2 hBI e e8 q_t q_f q_cd q_op q_li q_nn q_p1 q_p2 hT hN hD hR hm l1
    have k0 : (0 : Int32).toInt = 0 := rfl
    have k1 : (1 : Int32).toInt = 1 := rfl
    have k2 : (2 : Int32).toInt = 2 := rfl
    have k3 : (3 : Int32).toInt = 3 := rfl
    have k6 : (6 : Int32).toInt = 6 := rfl
    refine qm_Ru.go 1 (c' := (204, [.ref 118, l1], [.ref 118], (h.1, I, J, h.2.2.2))) rfl ?_
    refine hk_geti (v := f) rfl (hH.1 118 (17, 105) rfl) rfl q_f ?_
    refine qm_Ru.go 0 (c' := (207, [.ref 118, l1], [.int f], (h.1, I, J, h.2.2.2))) rfl ?_
    refine hk_zne (ix := f.toInt) rfl rfl (fun z1 => ?_) (fun z1 => ?_)
    · refine qm_Ru.go 2 (c' := (227, [.ref 118, l1], [.ref 118, .ref 118], (h.1, I, J, h.2.2.2))) rfl ?_
      refine hk_geti (v := f) rfl (hH.1 118 (17, 105) rfl) rfl q_f ?_
      refine qm_Ru.go 0 (c' := (230, [.ref 118, l1], [.int f, .ref 118], (h.1, I, J, h.2.2.2))) rfl ?_
      refine hk_zle (ix := f.toInt) rfl rfl (fun z2 => by exfalso; omega) (fun z2 => ?_)
      refine qm_Ru.go 1 (c' := (234, [.ref 118, l1], [.ref 118, .ref 118], (h.1, I, J, h.2.2.2))) rfl ?_
      obtain ⟨v3, q_v3⟩ : ∃ v, I 118 14 = v := ⟨_, rfl⟩
      refine hk_geti (v := v3) rfl (hH.1 118 (17, 105) rfl) rfl q_v3 ?_
      refine qm_Ru.go 1 (c' := (255, [.ref 118, l1], [.int v3, .ref 118], (h.1, I, J, h.2.2.2))) rfl ?_
      refine hk_puti rfl (hH.1 118 (17, 105) rfl) rfl ?_
      refine qm_Ru.go 1 (c' := (259, [.ref 118, l1], [.ref 118], (h.1, qm_up I 118 17 v3, J, h.2.2.2))) rfl ?_
      refine hk_geti (v := f) rfl (hH.1 118 (17, 105) rfl) rfl (show (qm_up I 118 17 v3) 118 13 = _ from ((hk_neq (by decide)).trans q_f)) ?_
      refine qm_Ru.go 0 (c' := (262, [.ref 118, l1], [.int f], (h.1, qm_up I 118 17 v3, J, h.2.2.2))) rfl ?_
      refine hk_zle (ix := f.toInt) rfl rfl (fun z4 => by exfalso; omega) (fun z4 => ?_)
      refine qm_Ru.go 1 (c' := (266, [.ref 118, l1], [.ref 118], (h.1, qm_up I 118 17 v3, J, h.2.2.2))) rfl ?_
      refine hk_geti (v := f) rfl (hH.1 118 (17, 105) rfl) rfl (show (qm_up I 118 17 v3) 118 13 = _ from ((hk_neq (by decide)).trans q_f)) ?_
      refine qm_Ru.go 0 (c' := (269, [.ref 118, l1], [.int f], (h.1, qm_up I 118 17 v3, J, h.2.2.2))) rfl ?_
      refine qm_Ru.rt (v := (some (.int f))) (h' := (h.1, qm_up I 118 17 v3, J, h.2.2.2)) rfl ?_
      have td_y5 : td (sd.toInt.toNat) h.2.1 (qm_up I 118 17 v3) := td_tr hD ⟨fun i _ => ⟨(fun i => ((hk_ot rfl).trans rfl)) i, (fun i => ((hk_ot rfl).trans rfl)) i⟩, fun i _ => ⟨(fun i => ((hk_ot rfl).trans rfl)) i, (fun i => ((hk_ot rfl).trans rfl)) i, (fun i => ((hk_ot rfl).trans rfl)) i⟩, fun i _ => ⟨(fun i => ((hk_ot rfl).trans rfl)) i, (fun i => ((hk_ot rfl).trans rfl)) i⟩, fun i _ => ⟨(fun i => ((hk_ot rfl).trans rfl)) i, (fun i => ((hk_ot rfl).trans rfl)) i⟩⟩
      have er_y5 : ∀ o, [118, 127, 128, 129, 130, 131, 132, 133, 134, 135, 136, 137, 138, 139, 140, 141, 142, 143, 177, 178, 179, 180, 181].contains o = false → ∀ i, (qm_up I 118 17 v3) o i = h.2.1 o i := (fun o ho i => ((hk_mod ho rfl).trans ((e o (hk_ms rfl ho) i).trans rfl)))
      have qa_y5 : (qm_up I 118 17 v3) 118 44 = h.2.1 118 44 := ((hk_neq (by decide)).trans (e8 44 rfl))
      have qc_y5 : (qm_up I 118 17 v3) 118 59 = h.2.1 118 59 := ((hk_neq (by decide)).trans (e8 59 rfl))
      have qb_y5 : (qm_up I 118 17 v3) 118 18 = h.2.1 118 18 := ((hk_neq (by decide)).trans (e8 18 rfl))
      exact k (qm_up I 118 17 v3) (J) f (hb_up (o := 118) (k := 17) (x := v3) hBI (qa_in_full _)) er_y5 qa_y5 qc_y5 (Or.inl ⟨qb_y5, td_y5⟩)
    · refine qm_Ru.go 2 (c' := (212, [.ref 118, l1], [.int 0, .ref 118], (h.1, I, J, h.2.2.2))) rfl ?_
      refine hk_inv (o := 118) (r := []) (as := [.ref 118, .int 0]) rfl rfl (hH.1 118 (17, 105) rfl) rfl rfl rfl rfl ?_
      refine qm_Ru.go 1 (c' := (1, [.ref 118, .int 0], [.ref 118], (h.1, I, J, h.2.2.2))) rfl ?_
      refine hk_geti (v := f) rfl (hH.1 118 (17, 105) rfl) rfl q_f ?_
      refine qm_Ru.go 0 (c' := (4, [.ref 118, .int 0], [.int f], (h.1, I, J, h.2.2.2))) rfl ?_
      refine hk_zne (ix := f.toInt) rfl rfl (fun z6 => by exfalso; omega) (fun z6 => ?_)
      refine qm_Ru.go 1 (c' := (8, [.ref 118, .int 0], [.ref 118], (h.1, I, J, h.2.2.2))) rfl ?_
      refine hk_getr rfl (hH.1 118 (17, 105) rfl) rfl (hH.2 118 5 (some 121) rfl) ?_
      refine qm_Ru.go 1 (c' := (12, [.ref 118, .int 0], [.ref 118, .ref 121], (h.1, I, J, h.2.2.2))) rfl ?_
      refine hk_geti (v := t) rfl (hH.1 118 (17, 105) rfl) rfl q_t ?_
      refine qm_Ru.go 0 (c' := (15, [.ref 118, .int 0], [.int t, .ref 121], (h.1, I, J, h.2.2.2))) rfl ?_
      obtain ⟨v7, q_v7⟩ : ∃ v, h.2.1 121 (t.toInt.toNat) = v := ⟨_, rfl⟩
      have b_v7 : (0 : Int) ≤ v7.toInt ∧ v7.toInt ≤ 44 := by rw [← q_v7]; exact hB 121 (t.toInt.toNat)
      refine hk_ial (v := v7) rfl (hH.1 121 (0, 403) rfl) (by omega) (by omega) (show (I) 121 (t.toInt.toNat) = _ from ((e 121 rfl (t.toInt.toNat)).trans q_v7)) ?_
      refine qm_Ru.go 1 (c' := (17, [.ref 118, .int 0], [.int 0, .int v7], (h.1, I, J, h.2.2.2))) rfl ?_
      refine hk_cne (ix := v7.toInt) (iy := 0) rfl rfl rfl (fun z8 => ?_) (fun z8 => ?_)
      · refine qm_Ru.go 1 (c' := (25, [.ref 118, .int 0], [.int 0], (h.1, I, J, h.2.2.2))) rfl ?_
        refine qm_Ru.rt (v := (some (.int 0))) (h' := (h.1, I, J, h.2.2.2)) rfl ?_
        refine qm_Ru.go 2 (c' := (219, [.ref 118, l1], [.ref 118], (h.1, I, J, h.2.2.2))) rfl ?_
        refine hk_inv (o := 118) (r := []) (as := [.ref 118]) rfl rfl (hH.1 118 (17, 105) rfl) rfl rfl rfl rfl (hs_tell (h := (h.1, I, J, h.2.2.2)) hH hBI (ta := t) (fa := f) (ca := cd) (bs := op) (la := li) (nm := nn) (sd := sd) (pr := p1) (pp := p2) (c0 := c0) (l0 := l0) q_t q_f q_cd q_op q_li q_nn (show (I) 118 19 = _ from ((e8 19 rfl).trans q_sd)) q_p1 q_p2 hsd (by omega) hc0 (by omega) (by omega) (by omega) (by omega) (hR (by omega)) (fun I9 J10 t11 f12 c13 o14 l15 n16 pa17 pb18 hB_I9 e_I9 e8_I9 q_t11 q_f12 q_c13 q_o14 q_l15 q_n16 q_pa17 q_pb18 b1_I9 b2_I9 D_I9 R_I9 => ?_))
        have D_I9 : td (sd.toInt.toNat) I I9 := D_I9
        have e_I9 : ∀ o, [118, 127, 128, 129, 130, 131, 132, 133, 134, 135, 136, 137, 138, 139, 140, 141, 142, 143].contains o = false → ∀ i, I9 o i = (I) o i := e_I9
        have e8_I9 : ∀ i, [11, 12, 13, 14, 15, 16, 20, 30, 37, 41].contains i = false → I9 118 i = (I) 118 i := e8_I9
        refine qm_Ru.go 1 (c' := (203, [.ref 118, l1], [], (h.1, I9, J10, h.2.2.2))) rfl ?_
        exact ih (m - 1) (by omega) I9 J10 t11 f12 c13 o14 l15 n16 pa17 pb18 hB_I9 (fun o ho i => ((e_I9 o (hk_ms rfl ho) i).trans ((e o (hk_ms rfl ho) i).trans rfl))) (fun i hi => ((e8_I9 i (hk_ms rfl hi)).trans ((e8 i (hk_ms rfl hi)).trans rfl))) q_t11 q_f12 q_c13 q_o14 q_l15 q_n16 q_pa17 q_pb18 (by omega) (fun z => by omega) (td_tr hD D_I9) R_I9 (fun z => by omega) l1
      · refine qm_Ru.go 2 (c' := (25, [.ref 118, .int 0], [.int 1], (h.1, I, J, h.2.2.2))) rfl ?_
        refine qm_Ru.rt (v := (some (.int 1))) (h' := (h.1, I, J, h.2.2.2)) rfl ?_
        refine qm_Ru.go 3 (c' := (227, [.ref 118, l1], [.ref 118, .ref 118], (h.1, I, J, h.2.2.2))) rfl ?_
        refine hk_geti (v := f) rfl (hH.1 118 (17, 105) rfl) rfl q_f ?_
        refine qm_Ru.go 0 (c' := (230, [.ref 118, l1], [.int f, .ref 118], (h.1, I, J, h.2.2.2))) rfl ?_
        refine hk_zle (ix := f.toInt) rfl rfl (fun z19 => ?_) (fun z19 => by exfalso; omega)
        refine qm_Ru.go 1 (c' := (241, [.ref 118, l1], [.ref 118, .ref 118], (h.1, I, J, h.2.2.2))) rfl ?_
        obtain ⟨v20, q_v20⟩ : ∃ v, I 118 15 = v := ⟨_, rfl⟩
        refine hk_geti (v := v20) rfl (hH.1 118 (17, 105) rfl) rfl q_v20 ?_
        refine qm_Ru.go 0 (c' := (244, [.ref 118, l1], [.int v20, .ref 118], (h.1, I, J, h.2.2.2))) rfl ?_
        refine hk_zle (ix := v20.toInt) rfl rfl (fun z21 => ?_) (fun z21 => ?_)
        · refine qm_Ru.go 1 (c' := (255, [.ref 118, l1], [.int (-1), .ref 118], (h.1, I, J, h.2.2.2))) rfl ?_
          refine hk_puti rfl (hH.1 118 (17, 105) rfl) rfl ?_
          refine qm_Ru.go 1 (c' := (259, [.ref 118, l1], [.ref 118], (h.1, qm_up I 118 17 (-1), J, h.2.2.2))) rfl ?_
          refine hk_geti (v := f) rfl (hH.1 118 (17, 105) rfl) rfl (show (qm_up I 118 17 (-1)) 118 13 = _ from ((hk_neq (by decide)).trans q_f)) ?_
          refine qm_Ru.go 0 (c' := (262, [.ref 118, l1], [.int f], (h.1, qm_up I 118 17 (-1), J, h.2.2.2))) rfl ?_
          refine hk_zle (ix := f.toInt) rfl rfl (fun z22 => ?_) (fun z22 => by exfalso; omega)
          refine qm_Ru.go 1 (c' := (271, [.ref 118, l1], [.ref 118], (h.1, qm_up I 118 17 (-1), J, h.2.2.2))) rfl ?_
          refine hk_geti (v := v20) rfl (hH.1 118 (17, 105) rfl) rfl (show (qm_up I 118 17 (-1)) 118 15 = _ from ((hk_neq (by decide)).trans q_v20)) ?_
          refine qm_Ru.go 0 (c' := (274, [.ref 118, l1], [.int v20], (h.1, qm_up I 118 17 (-1), J, h.2.2.2))) rfl ?_
          refine hk_zle (ix := v20.toInt) rfl rfl (fun z23 => ?_) (fun z23 => by exfalso; omega)
          refine qm_Ru.go 2 (c' := (285, [.ref 118, l1], [.ref 118, .int 16], (h.1, qm_up I 118 17 (-1), J, h.2.2.2))) rfl ?_
          refine hk_getr rfl (hH.1 118 (17, 105) rfl) rfl (hH.2 118 22 (some 127) rfl) ?_
          refine qm_Ru.go 1 (c' := (289, [.ref 118, l1], [.ref 118, .ref 127, .int 16], (h.1, qm_up I 118 17 (-1), J, h.2.2.2))) rfl ?_
          refine hk_geti (v := sd) rfl (hH.1 118 (17, 105) rfl) rfl (show (qm_up I 118 17 (-1)) 118 19 = _ from ((hk_neq (by decide)).trans ((e8 19 rfl).trans q_sd))) ?_
          refine qm_Ru.go 0 (c' := (292, [.ref 118, l1], [.int sd, .ref 127, .int 16], (h.1, qm_up I 118 17 (-1), J, h.2.2.2))) rfl ?_
          obtain ⟨v24, q_v24⟩ : ∃ v, I 127 (sd.toInt.toNat) = v := ⟨_, rfl⟩
          have b_v24 : (0 : Int) ≤ v24.toInt ∧ v24.toInt ≤ 5 := by rw [← q_v24]; exact hBI 127 (sd.toInt.toNat)
          refine hk_ial (v := v24) rfl (hH.1 127 (0, 2) rfl) (by omega) (by omega) (show (qm_up I 118 17 (-1)) 127 (sd.toInt.toNat) = _ from ((hk_ot rfl).trans q_v24)) ?_
          refine qm_Ru.go 1 (c' := (294, [.ref 118, l1], [.int (16 * v24)], (h.1, qm_up I 118 17 (-1), J, h.2.2.2))) rfl ?_
          obtain ⟨v25, q_v25, e_v25⟩ := hk_mul (x := 16) (y := v24) (a := 16) (b := v24.toInt) rfl rfl (by omega) (by omega)
          rw [q_v25]
          refine qm_Ru.go 1 (c' := (295, [.ref 118, .int v25], [], (h.1, qm_up I 118 17 (-1), J, h.2.2.2))) rfl ?_
          have td_y26 : td (sd.toInt.toNat) h.2.1 (qm_up I 118 17 (-1)) := td_tr hD ⟨fun i _ => ⟨(fun i => ((hk_ot rfl).trans rfl)) i, (fun i => ((hk_ot rfl).trans rfl)) i⟩, fun i _ => ⟨(fun i => ((hk_ot rfl).trans rfl)) i, (fun i => ((hk_ot rfl).trans rfl)) i, (fun i => ((hk_ot rfl).trans rfl)) i⟩, fun i _ => ⟨(fun i => ((hk_ot rfl).trans rfl)) i, (fun i => ((hk_ot rfl).trans rfl)) i⟩, fun i _ => ⟨(fun i => ((hk_ot rfl).trans rfl)) i, (fun i => ((hk_ot rfl).trans rfl)) i⟩⟩
          have er_y26 : ∀ o, [118, 127, 128, 129, 130, 131, 132, 133, 134, 135, 136, 137, 138, 139, 140, 141, 142, 143, 177, 178, 179, 180, 181].contains o = false → ∀ i, (qm_up I 118 17 (-1)) o i = h.2.1 o i := (fun o ho i => ((hk_mod ho rfl).trans ((e o (hk_ms rfl ho) i).trans rfl)))
          have qa_y26 : (qm_up I 118 17 (-1)) 118 44 = h.2.1 118 44 := ((hk_neq (by decide)).trans (e8 44 rfl))
          have qc_y26 : (qm_up I 118 17 (-1)) 118 59 = h.2.1 118 59 := ((hk_neq (by decide)).trans (e8 59 rfl))
          have qb_y26 : (qm_up I 118 17 (-1)) 118 18 = h.2.1 118 18 := ((hk_neq (by decide)).trans (e8 18 rfl))
          have hBx_y26 : hk_B (qm_up I 118 17 (-1)) := (hb_up (o := 118) (k := 17) (x := (-1)) hBI (qa_in_full _))
          refine hl_sh (h := (h.1, qm_up I 118 17 (-1), J, h.2.2.2)) hH hBx_y26 (sd := sd) (show (qm_up I 118 17 (-1)) 118 19 = _ from ((hk_neq (by decide)).trans ((e8 19 rfl).trans q_sd))) hsd (k (qm_up I 118 17 (-1)) (J) (-3) hBx_y26 er_y26 qa_y26 qc_y26 (Or.inl ⟨qb_y26, td_y26⟩)) (fun I27 hB_I27 e_I27 q8_I27 q4_I27 q5_I27 => ?_) 80 v25 (by omega) (by omega)
          have e_I27 : ∀ o, [118, 177, 178, 179, 180, 181].contains o = false → ∀ i, I27 o i = (qm_up I 118 17 (-1)) o i := e_I27
          refine k I27 (J) 0 hB_I27 (fun o ho i => (e_I27 o (hk_ms rfl ho) i).trans (er_y26 o ho i)) (q4_I27.trans qa_y26) (q5_I27.trans qc_y26) (Or.inr (sp_new (sd := sd.toInt.toNat) (rs_sm (li := li.toInt) (cd := cd.toInt) (hR (by omega)) (fun i => (e_I27 133 rfl i).trans ((fun i => ((hk_ot rfl).trans rfl)) i)) (fun i => (e_I27 134 rfl i).trans ((fun i => ((hk_ot rfl).trans rfl)) i)) (fun i => (e_I27 138 rfl i).trans ((fun i => ((hk_ot rfl).trans rfl)) i)) (fun i => (e_I27 139 rfl i).trans ((fun i => ((hk_ot rfl).trans rfl)) i)) (fun i => (e_I27 140 rfl i).trans ((fun i => ((hk_ot rfl).trans rfl)) i)) (fun i => (e_I27 141 rfl i).trans ((fun i => ((hk_ot rfl).trans rfl)) i)) (fun i => (e_I27 142 rfl i).trans ((fun i => ((hk_ot rfl).trans rfl)) i)) ⟨Int.le_refl _, Int.le_refl _⟩) (by rw [q8_I27]) (congrArg Int32.toInt ((e_I27 131 rfl _).trans ((hk_ot rfl).trans q_p1))) (congrArg Int32.toInt ((e_I27 132 rfl _).trans ((hk_ot rfl).trans q_p2))) (by omega) (by omega) (by omega)))
        · refine qm_Ru.go 1 (c' := (248, [.ref 118, l1], [.ref 118, .ref 118], (h.1, I, J, h.2.2.2))) rfl ?_
          obtain ⟨v28, q_v28⟩ : ∃ v, I 118 16 = v := ⟨_, rfl⟩
          refine hk_geti (v := v28) rfl (hH.1 118 (17, 105) rfl) rfl q_v28 ?_
          refine qm_Ru.go 1 (c' := (255, [.ref 118, l1], [.int v28, .ref 118], (h.1, I, J, h.2.2.2))) rfl ?_
          refine hk_puti rfl (hH.1 118 (17, 105) rfl) rfl ?_
          refine qm_Ru.go 1 (c' := (259, [.ref 118, l1], [.ref 118], (h.1, qm_up I 118 17 v28, J, h.2.2.2))) rfl ?_
          refine hk_geti (v := f) rfl (hH.1 118 (17, 105) rfl) rfl (show (qm_up I 118 17 v28) 118 13 = _ from ((hk_neq (by decide)).trans q_f)) ?_
          refine qm_Ru.go 0 (c' := (262, [.ref 118, l1], [.int f], (h.1, qm_up I 118 17 v28, J, h.2.2.2))) rfl ?_
          refine hk_zle (ix := f.toInt) rfl rfl (fun z29 => ?_) (fun z29 => by exfalso; omega)
          refine qm_Ru.go 1 (c' := (271, [.ref 118, l1], [.ref 118], (h.1, qm_up I 118 17 v28, J, h.2.2.2))) rfl ?_
          refine hk_geti (v := v20) rfl (hH.1 118 (17, 105) rfl) rfl (show (qm_up I 118 17 v28) 118 15 = _ from ((hk_neq (by decide)).trans q_v20)) ?_
          refine qm_Ru.go 0 (c' := (274, [.ref 118, l1], [.int v20], (h.1, qm_up I 118 17 v28, J, h.2.2.2))) rfl ?_
          refine hk_zle (ix := v20.toInt) rfl rfl (fun z30 => by exfalso; omega) (fun z30 => ?_)
          refine qm_Ru.go 1 (c' := (278, [.ref 118, l1], [.ref 118], (h.1, qm_up I 118 17 v28, J, h.2.2.2))) rfl ?_
          refine hk_geti (v := v20) rfl (hH.1 118 (17, 105) rfl) rfl (show (qm_up I 118 17 v28) 118 15 = _ from ((hk_neq (by decide)).trans q_v20)) ?_
          refine qm_Ru.go 0 (c' := (281, [.ref 118, l1], [.int v20], (h.1, qm_up I 118 17 v28, J, h.2.2.2))) rfl ?_
          refine qm_Ru.rt (v := (some (.int v20))) (h' := (h.1, qm_up I 118 17 v28, J, h.2.2.2)) rfl ?_
          have td_y31 : td (sd.toInt.toNat) h.2.1 (qm_up I 118 17 v28) := td_tr hD ⟨fun i _ => ⟨(fun i => ((hk_ot rfl).trans rfl)) i, (fun i => ((hk_ot rfl).trans rfl)) i⟩, fun i _ => ⟨(fun i => ((hk_ot rfl).trans rfl)) i, (fun i => ((hk_ot rfl).trans rfl)) i, (fun i => ((hk_ot rfl).trans rfl)) i⟩, fun i _ => ⟨(fun i => ((hk_ot rfl).trans rfl)) i, (fun i => ((hk_ot rfl).trans rfl)) i⟩, fun i _ => ⟨(fun i => ((hk_ot rfl).trans rfl)) i, (fun i => ((hk_ot rfl).trans rfl)) i⟩⟩
          have er_y31 : ∀ o, [118, 127, 128, 129, 130, 131, 132, 133, 134, 135, 136, 137, 138, 139, 140, 141, 142, 143, 177, 178, 179, 180, 181].contains o = false → ∀ i, (qm_up I 118 17 v28) o i = h.2.1 o i := (fun o ho i => ((hk_mod ho rfl).trans ((e o (hk_ms rfl ho) i).trans rfl)))
          have qa_y31 : (qm_up I 118 17 v28) 118 44 = h.2.1 118 44 := ((hk_neq (by decide)).trans (e8 44 rfl))
          have qc_y31 : (qm_up I 118 17 v28) 118 59 = h.2.1 118 59 := ((hk_neq (by decide)).trans (e8 59 rfl))
          have qb_y31 : (qm_up I 118 17 v28) 118 18 = h.2.1 118 18 := ((hk_neq (by decide)).trans (e8 18 rfl))
          exact k (qm_up I 118 17 v28) (J) v20 (hb_up (o := 118) (k := 17) (x := v28) hBI (qa_in_full _)) er_y31 qa_y31 qc_y31 (Or.inl ⟨qb_y31, td_y31⟩)
