/-! contracts of the reference with v_S -/
theorem v_S_cg8 {I I' : Nat → Nat → Int32} {mod : List Nat} (h : v_S I) (e : ∀ o, mod.contains o = false → ∀ i, I' o i = I o i) (e8 : ∀ i, i ≠ 57 → I' 118 i = I 118 i) (hm : (158 :: q_objs).all (fun o => !mod.contains o) = true) : v_S I' := by
  have hm2 : ∀ o ∈ 158 :: q_objs, mod.contains o = false := fun o ho => by have := List.all_eq_true.mp hm o ho; rw [Bool.not_eq_true'] at this; exact this
  exact v_S_sm h (fun o ho i => e o (hm2 o (List.mem_cons_of_mem _ ho)) i) (fun i => e 158 (hm2 158 List.mem_cons_self) i) (e8 18 (by decide)) (e8 44 (by decide)) (e8 59 (by decide))
theorem ct_S {hT : qm_H → Prop} {pre : List Value → (Nat → Nat → Int32) → Prop} {j dep : Nat} {ro : Option qa_B} {mod : List Nat} (h : hk_ct v_Q hT pre j ro mod dep) (hm : mod.contains 118 = false ∧ mod.contains 158 = false) : hk_ct v_S hT pre j ro mod dep := by
  intro L xs d Z h0 as h6 hH hT hB hV hp hd k
  exact h L xs d Z h0 as h6 hH hT hB hV.1 hp hd (fun r I J hr hB2 hV2 e => k r I J hr hB2 ⟨hV2, s_L_cg hV.2 (funext fun i => congrArg Int32.toInt (e 158 hm.2 i)) (e 118 hm.1 59)⟩ e)
theorem hcS_rstore : hk_ct v_S (fun _ => True) (fun as I => ∃ b s : Int32, as = [.ref 118, .int b, .int s]) 277 (some (-1, 3)) [146, 147, 148, 149, 150, 151, 152, 153, 154, 155, 156] 60 := ct_S (ct_Q hc_rstore rfl) ⟨rfl, rfl⟩
theorem hcS_rfetch : hk_ct v_S (fun _ => True) (fun as I => ∃ s : Int32, as = [.ref 118, .int s]) 280 (some (-2, 29)) [146, 147, 148, 149, 150, 151, 152, 153, 154, 155, 156] 60 := ct_S (ct_Q hc_rfetch rfl) ⟨rfl, rfl⟩
theorem hcS_rload : hk_ct v_S (fun _ => True) (fun as I => ∃ b y r : Int32, as = [.ref 118, .int b, .int y, .int r]) 284 (some (-3, 3)) [146, 147, 148, 149, 150, 151, 152, 153, 154, 155, 156] 60 := ct_S (ct_Q hc_rload rfl) ⟨rfl, rfl⟩
theorem hcS_runload : hk_ct v_S (fun _ => True) (fun as I => ∃ y r s : Int32, as = [.ref 118, .int y, .int r, .int s]) 298 (some (-3, 2)) [146, 147, 148, 149, 150, 151, 152, 153, 154, 155, 156] 60 := ct_S (ct_Q hc_runload rfl) ⟨rfl, rfl⟩
theorem hcS_rwould : hk_ct v_S (fun _ => True) (fun as I => ∃ b y r w : Int32, as = [.ref 118, .int b, .int y, .int r, .int w]) 302 (some (-2147483648, 2147483647)) [146, 147, 148, 149, 150, 151, 152, 153, 154, 155, 156] 60 := ct_S (ct_Q hc_rwould rfl) ⟨rfl, rfl⟩
theorem hcS_rpairs : hk_ct v_S (fun _ => True) (fun as I => ∃ a : Int32, as = [.ref 118, .int a]) 303 (some (-2147483648, 2147483647)) [118, 144, 145] 90 := by
  intro L xs d Z h as h6 hH hT hB hV hp hd k
  obtain ⟨a, rfl⟩ := hp
  have hP := hV.1.2
  obtain ⟨d, rfl⟩ : ∃ e, d = e + 90 := ⟨d - 90, by omega⟩
  show qm_Ru (some (L, xs)) (d + 90) cd_303 (qm_ent 2 [.ref 118, .int a] h) Z
  refine qm_Ru.go 3 (c' := (3, [.ref 118, .int a], [.ref 118, .int 0, .int a], h)) rfl ?_
  refine hk_getr rfl (hH.1 118 (17, 105) rfl) rfl (hH.2 118 26 (some 131) rfl) ?_
  refine qm_Ru.go 1 (c' := (7, [.ref 118, .int a], [.ref 118, .ref 131, .int 0, .int a], h)) rfl ?_
  obtain ⟨v1, q_v1⟩ : ∃ v, h.2.1 118 18 = v := ⟨_, rfl⟩
  have b_v1 : (0 : Int) ≤ v1.toInt ∧ v1.toInt ≤ 1 := by rw [← q_v1]; exact hB 118 18
  refine hk_geti (v := v1) rfl (hH.1 118 (17, 105) rfl) rfl q_v1 ?_
  refine qm_Ru.go 0 (c' := (10, [.ref 118, .int a], [.int v1, .ref 131, .int 0, .int a], h)) rfl ?_
  obtain ⟨v2, q_v2⟩ : ∃ v, h.2.1 131 (v1.toInt.toNat) = v := ⟨_, rfl⟩
  have b_v2 : (0 : Int) ≤ v2.toInt ∧ v2.toInt ≤ 8 := by rw [← q_v2]; exact hB 131 (v1.toInt.toNat)
  refine hk_ial (v := v2) rfl (hH.1 131 (0, 2) rfl) (by omega) (by omega) q_v2 ?_
  refine qm_Ru.go 2 (c' := (13, [.ref 118, .int a], [.int (v2 - 1), .int 0, .int a], h)) rfl ?_
  obtain ⟨v3, q_v3, e_v3⟩ := hk_sub (x := v2) (y := 1) (a := v2.toInt) (b := 1) rfl rfl (by omega) (by omega)
  rw [q_v3]
  refine qm_Ru.call (j := 270) (as := [.int a, .int 0, .int v3]) (c' := (16, [.ref 118, .int a], [], h)) rfl rfl rfl ?_
  refine qm_Ru.go 2 (c' := (2, [.int a, .int 0, .int v3], [.int 0, .int a], h)) rfl ?_
  refine hk_clt (ix := a.toInt) (iy := 0) rfl rfl rfl (fun z4 => ?_) (fun z4 => ?_)
  · refine qm_Ru.go 1 (c' := (15, [.int a, .int 0, .int v3], [.int 0], h)) rfl ?_
    refine qm_Ru.rt (v := (some (.int 0))) (h' := h) rfl ?_
    refine qm_Ru.go 2 (c' := (29, [.ref 118, .int a], [.int (-1)], h)) rfl ?_
    refine qm_Ru.rt (v := (some (.int (-1)))) (h' := h) rfl ?_
    exact k (some (.int (-1))) (h.2.1) (h.2.2.1) ⟨_, rfl, ⟨by decide, by decide⟩⟩ hB (v_S_cg8 hV (mod := [118, 144, 145]) (fun o ho i => rfl) (fun i hi => rfl) rfl) (fun o ho i => rfl)
  · refine qm_Ru.go 2 (c' := (7, [.int a, .int 0, .int v3], [.int v3, .int a], h)) rfl ?_
    refine hk_cgt (ix := a.toInt) (iy := v3.toInt) rfl rfl rfl (fun z5 => ?_) (fun z5 => ?_)
    · refine qm_Ru.go 1 (c' := (15, [.int a, .int 0, .int v3], [.int 0], h)) rfl ?_
      refine qm_Ru.rt (v := (some (.int 0))) (h' := h) rfl ?_
      refine qm_Ru.go 2 (c' := (29, [.ref 118, .int a], [.int (-1)], h)) rfl ?_
      refine qm_Ru.rt (v := (some (.int (-1)))) (h' := h) rfl ?_
      exact k (some (.int (-1))) (h.2.1) (h.2.2.1) ⟨_, rfl, ⟨by decide, by decide⟩⟩ hB (v_S_cg8 hV (mod := [118, 144, 145]) (fun o ho i => rfl) (fun i hi => rfl) rfl) (fun o ho i => rfl)
    · refine qm_Ru.go 2 (c' := (15, [.int a, .int 0, .int v3], [.int 1], h)) rfl ?_
      refine qm_Ru.rt (v := (some (.int 1))) (h' := h) rfl ?_
      refine qm_Ru.go 4 (c' := (22, [.ref 118, .int a], [.int (-1), .int a, .ref 118], h)) rfl ?_
      refine hk_inv (o := 118) (r := []) (as := [.ref 118, .int a, .int (-1)]) rfl rfl (hH.1 118 (17, 105) rfl) rfl rfl rfl rfl (hs_pairsof (h := h) h6 hH hB (by omega) (by show rule_ok (h.2.1) (16 * ((h.2.1) 118 18).toInt.toNat + a.toInt.toNat); rw [q_v1]; have g := sp_pair hP q_v1 q_v2 (j := a.toInt.toNat) (by omega); rw [q_v1] at g; exact rule_cg g rfl rfl rfl rfl rfl rfl rfl) (fun v8 I6 J7 hB_I6 e_I6 e8_I6 => ?_))
      refine qm_Ru.go 1 (c' := (29, [.ref 118, .int a], [.int v8], (h.1, I6, J7, h.2.2.2))) rfl ?_
      refine qm_Ru.rt (v := (some (.int v8))) (h' := (h.1, I6, J7, h.2.2.2)) rfl ?_
      exact k (some (.int v8)) (I6) (J7) ⟨_, rfl, qa_in_full _⟩ hB_I6 (v_S_cg8 hV (mod := [118, 144, 145]) (fun o ho i => ((e_I6 o (hk_ms rfl ho) i).trans rfl)) (fun i hi => ((e8_I6 i hi).trans rfl)) rfl) (fun o ho i => ((e_I6 o (hk_ms rfl ho) i).trans rfl))
theorem hcS_rpair : hk_ct v_S (fun _ => True) (fun as I => ∃ a b : Int32, as = [.ref 118, .int a, .int b]) 311 (some (-2147483648, 2147483647)) [118, 144, 145] 90 := by
  intro L xs d Z h as h6 hH hT hB hV hp hd k
  obtain ⟨a, b, rfl⟩ := hp
  have hP := hV.1.2
  obtain ⟨d, rfl⟩ : ∃ e, d = e + 90 := ⟨d - 90, by omega⟩
  show qm_Ru (some (L, xs)) (d + 90) cd_311 (qm_ent 3 [.ref 118, .int a, .int b] h) Z
  refine qm_Ru.go 3 (c' := (3, [.ref 118, .int a, .int b], [.ref 118, .int 0, .int a], h)) rfl ?_
  refine hk_getr rfl (hH.1 118 (17, 105) rfl) rfl (hH.2 118 26 (some 131) rfl) ?_
  refine qm_Ru.go 1 (c' := (7, [.ref 118, .int a, .int b], [.ref 118, .ref 131, .int 0, .int a], h)) rfl ?_
  obtain ⟨v1, q_v1⟩ : ∃ v, h.2.1 118 18 = v := ⟨_, rfl⟩
  have b_v1 : (0 : Int) ≤ v1.toInt ∧ v1.toInt ≤ 1 := by rw [← q_v1]; exact hB 118 18
  refine hk_geti (v := v1) rfl (hH.1 118 (17, 105) rfl) rfl q_v1 ?_
  refine qm_Ru.go 0 (c' := (10, [.ref 118, .int a, .int b], [.int v1, .ref 131, .int 0, .int a], h)) rfl ?_
  obtain ⟨v2, q_v2⟩ : ∃ v, h.2.1 131 (v1.toInt.toNat) = v := ⟨_, rfl⟩
  have b_v2 : (0 : Int) ≤ v2.toInt ∧ v2.toInt ≤ 8 := by rw [← q_v2]; exact hB 131 (v1.toInt.toNat)
  refine hk_ial (v := v2) rfl (hH.1 131 (0, 2) rfl) (by omega) (by omega) q_v2 ?_
  refine qm_Ru.go 2 (c' := (13, [.ref 118, .int a, .int b], [.int (v2 - 1), .int 0, .int a], h)) rfl ?_
  obtain ⟨v3, q_v3, e_v3⟩ := hk_sub (x := v2) (y := 1) (a := v2.toInt) (b := 1) rfl rfl (by omega) (by omega)
  rw [q_v3]
  refine qm_Ru.call (j := 270) (as := [.int a, .int 0, .int v3]) (c' := (16, [.ref 118, .int a, .int b], [], h)) rfl rfl rfl ?_
  refine qm_Ru.go 2 (c' := (2, [.int a, .int 0, .int v3], [.int 0, .int a], h)) rfl ?_
  refine hk_clt (ix := a.toInt) (iy := 0) rfl rfl rfl (fun z4 => ?_) (fun z4 => ?_)
  · refine qm_Ru.go 1 (c' := (15, [.int a, .int 0, .int v3], [.int 0], h)) rfl ?_
    refine qm_Ru.rt (v := (some (.int 0))) (h' := h) rfl ?_
    refine qm_Ru.go 2 (c' := (20, [.ref 118, .int a, .int b], [.int (-1)], h)) rfl ?_
    refine qm_Ru.rt (v := (some (.int (-1)))) (h' := h) rfl ?_
    exact k (some (.int (-1))) (h.2.1) (h.2.2.1) ⟨_, rfl, ⟨by decide, by decide⟩⟩ hB (v_S_cg8 hV (mod := [118, 144, 145]) (fun o ho i => rfl) (fun i hi => rfl) rfl) (fun o ho i => rfl)
  · refine qm_Ru.go 2 (c' := (7, [.int a, .int 0, .int v3], [.int v3, .int a], h)) rfl ?_
    refine hk_cgt (ix := a.toInt) (iy := v3.toInt) rfl rfl rfl (fun z5 => ?_) (fun z5 => ?_)
    · refine qm_Ru.go 1 (c' := (15, [.int a, .int 0, .int v3], [.int 0], h)) rfl ?_
      refine qm_Ru.rt (v := (some (.int 0))) (h' := h) rfl ?_
      refine qm_Ru.go 2 (c' := (20, [.ref 118, .int a, .int b], [.int (-1)], h)) rfl ?_
      refine qm_Ru.rt (v := (some (.int (-1)))) (h' := h) rfl ?_
      exact k (some (.int (-1))) (h.2.1) (h.2.2.1) ⟨_, rfl, ⟨by decide, by decide⟩⟩ hB (v_S_cg8 hV (mod := [118, 144, 145]) (fun o ho i => rfl) (fun i hi => rfl) rfl) (fun o ho i => rfl)
    · refine qm_Ru.go 2 (c' := (15, [.int a, .int 0, .int v3], [.int 1], h)) rfl ?_
      refine qm_Ru.rt (v := (some (.int 1))) (h' := h) rfl ?_
      refine qm_Ru.go 4 (c' := (24, [.ref 118, .int a, .int b], [.int b, .int a, .ref 118], h)) rfl ?_
      refine hk_inv (o := 118) (r := []) (as := [.ref 118, .int a, .int b]) rfl rfl (hH.1 118 (17, 105) rfl) rfl rfl rfl rfl (hs_pairsof (h := h) h6 hH hB (by omega) (by show rule_ok (h.2.1) (16 * ((h.2.1) 118 18).toInt.toNat + a.toInt.toNat); rw [q_v1]; have g := sp_pair hP q_v1 q_v2 (j := a.toInt.toNat) (by omega); rw [q_v1] at g; exact rule_cg g rfl rfl rfl rfl rfl rfl rfl) (fun v8 I6 J7 hB_I6 e_I6 e8_I6 => ?_))
      refine qm_Ru.go 2 (c' := (29, [.ref 118, .int a, .int b], [.ref 118], (h.1, I6, J7, h.2.2.2))) rfl ?_
      obtain ⟨v9, q_v9⟩ : ∃ v, I6 118 57 = v := ⟨_, rfl⟩
      refine hk_geti (v := v9) rfl (hH.1 118 (17, 105) rfl) rfl q_v9 ?_
      refine qm_Ru.go 0 (c' := (32, [.ref 118, .int a, .int b], [.int v9], (h.1, I6, J7, h.2.2.2))) rfl ?_
      refine qm_Ru.rt (v := (some (.int v9))) (h' := (h.1, I6, J7, h.2.2.2)) rfl ?_
      exact k (some (.int v9)) (I6) (J7) ⟨_, rfl, qa_in_full _⟩ hB_I6 (v_S_cg8 hV (mod := [118, 144, 145]) (fun o ho i => ((e_I6 o (hk_ms rfl ho) i).trans rfl)) (fun i hi => ((e8_I6 i hi).trans rfl)) rfl) (fun o ho i => ((e_I6 o (hk_ms rfl ho) i).trans rfl))
theorem hcS_rplaces : hk_ct v_S (fun _ => True) (fun as I => ∃ a : Int32, as = [.ref 118, .int a]) 312 (some (-2147483648, 2147483647)) [118, 144, 145] 90 := by
  intro L xs d Z h as h6 hH hT hB hV hp hd k
  obtain ⟨a, rfl⟩ := hp
  have hP := hV.1.2
  obtain ⟨d, rfl⟩ : ∃ e, d = e + 90 := ⟨d - 90, by omega⟩
  show qm_Ru (some (L, xs)) (d + 90) cd_312 (qm_ent 2 [.ref 118, .int a] h) Z
  refine qm_Ru.go 3 (c' := (3, [.ref 118, .int a], [.ref 118, .int 0, .int a], h)) rfl ?_
  refine hk_getr rfl (hH.1 118 (17, 105) rfl) rfl (hH.2 118 27 (some 132) rfl) ?_
  refine qm_Ru.go 1 (c' := (7, [.ref 118, .int a], [.ref 118, .ref 132, .int 0, .int a], h)) rfl ?_
  obtain ⟨v1, q_v1⟩ : ∃ v, h.2.1 118 18 = v := ⟨_, rfl⟩
  have b_v1 : (0 : Int) ≤ v1.toInt ∧ v1.toInt ≤ 1 := by rw [← q_v1]; exact hB 118 18
  refine hk_geti (v := v1) rfl (hH.1 118 (17, 105) rfl) rfl q_v1 ?_
  refine qm_Ru.go 0 (c' := (10, [.ref 118, .int a], [.int v1, .ref 132, .int 0, .int a], h)) rfl ?_
  obtain ⟨v2, q_v2⟩ : ∃ v, h.2.1 132 (v1.toInt.toNat) = v := ⟨_, rfl⟩
  have b_v2 : (0 : Int) ≤ v2.toInt ∧ v2.toInt ≤ 8 := by rw [← q_v2]; exact hB 132 (v1.toInt.toNat)
  refine hk_ial (v := v2) rfl (hH.1 132 (0, 2) rfl) (by omega) (by omega) q_v2 ?_
  refine qm_Ru.go 2 (c' := (13, [.ref 118, .int a], [.int (v2 - 1), .int 0, .int a], h)) rfl ?_
  obtain ⟨v3, q_v3, e_v3⟩ := hk_sub (x := v2) (y := 1) (a := v2.toInt) (b := 1) rfl rfl (by omega) (by omega)
  rw [q_v3]
  refine qm_Ru.call (j := 270) (as := [.int a, .int 0, .int v3]) (c' := (16, [.ref 118, .int a], [], h)) rfl rfl rfl ?_
  refine qm_Ru.go 2 (c' := (2, [.int a, .int 0, .int v3], [.int 0, .int a], h)) rfl ?_
  refine hk_clt (ix := a.toInt) (iy := 0) rfl rfl rfl (fun z4 => ?_) (fun z4 => ?_)
  · refine qm_Ru.go 1 (c' := (15, [.int a, .int 0, .int v3], [.int 0], h)) rfl ?_
    refine qm_Ru.rt (v := (some (.int 0))) (h' := h) rfl ?_
    refine qm_Ru.go 2 (c' := (28, [.ref 118, .int a], [.int (-1)], h)) rfl ?_
    refine qm_Ru.rt (v := (some (.int (-1)))) (h' := h) rfl ?_
    exact k (some (.int (-1))) (h.2.1) (h.2.2.1) ⟨_, rfl, ⟨by decide, by decide⟩⟩ hB (v_S_cg8 hV (mod := [118, 144, 145]) (fun o ho i => rfl) (fun i hi => rfl) rfl) (fun o ho i => rfl)
  · refine qm_Ru.go 2 (c' := (7, [.int a, .int 0, .int v3], [.int v3, .int a], h)) rfl ?_
    refine hk_cgt (ix := a.toInt) (iy := v3.toInt) rfl rfl rfl (fun z5 => ?_) (fun z5 => ?_)
    · refine qm_Ru.go 1 (c' := (15, [.int a, .int 0, .int v3], [.int 0], h)) rfl ?_
      refine qm_Ru.rt (v := (some (.int 0))) (h' := h) rfl ?_
      refine qm_Ru.go 2 (c' := (28, [.ref 118, .int a], [.int (-1)], h)) rfl ?_
      refine qm_Ru.rt (v := (some (.int (-1)))) (h' := h) rfl ?_
      exact k (some (.int (-1))) (h.2.1) (h.2.2.1) ⟨_, rfl, ⟨by decide, by decide⟩⟩ hB (v_S_cg8 hV (mod := [118, 144, 145]) (fun o ho i => rfl) (fun i hi => rfl) rfl) (fun o ho i => rfl)
    · refine qm_Ru.go 2 (c' := (15, [.int a, .int 0, .int v3], [.int 1], h)) rfl ?_
      refine qm_Ru.rt (v := (some (.int 1))) (h' := h) rfl ?_
      refine qm_Ru.go 3 (c' := (21, [.ref 118, .int a], [.int a, .ref 118], h)) rfl ?_
      refine hk_inv (o := 118) (r := []) (as := [.ref 118, .int a]) rfl rfl (hH.1 118 (17, 105) rfl) rfl rfl rfl rfl (hs_placesof (h := h) h6 hH hB (by omega) (by show rule_ok (h.2.1) (16 * ((h.2.1) 118 18).toInt.toNat + 8 + a.toInt.toNat); rw [q_v1]; have g := sp_place hP q_v1 q_v2 (j := a.toInt.toNat) (by omega); rw [q_v1] at g; exact rule_cg g rfl rfl rfl rfl rfl rfl rfl) (fun v8 I6 J7 hB_I6 e_I6 => ?_))
      refine qm_Ru.go 1 (c' := (28, [.ref 118, .int a], [.int v8], (h.1, I6, J7, h.2.2.2))) rfl ?_
      refine qm_Ru.rt (v := (some (.int v8))) (h' := (h.1, I6, J7, h.2.2.2)) rfl ?_
      exact k (some (.int v8)) (I6) (J7) ⟨_, rfl, qa_in_full _⟩ hB_I6 (v_S_cg8 hV (mod := [118, 144, 145]) (fun o ho i => ((e_I6 o (hk_ms rfl ho) i).trans rfl)) (fun i hi => ((e_I6 118 rfl i).trans rfl)) rfl) (fun o ho i => ((e_I6 o (hk_ms rfl ho) i).trans rfl))

