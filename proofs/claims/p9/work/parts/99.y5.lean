/-! contracts of the reference by hand -/
theorem hl_br2 {L : Nat} {xs : Nat → Int32} {d : Nat} {Z : Option Value → qm_H → Prop} {h : qm_H} (h6 : 6 ≤ L) (hH : hk_H h) (hB : hk_B h.2.1) (hP : s_P h.2.1) (k : ∀ (v : Int32) (I : Nat → Nat → Int32) (J : Nat → Nat → Int64), hk_B I → (∀ o, [118, 144, 145].contains o = false → ∀ i, I o i = h.2.1 o i) → (∀ i, i ≠ 57 → I 118 i = h.2.1 118 i) → Z (some (.int v)) (h.1, I, J, h.2.2.2)) : ∀ (m : Nat) (I : Nat → Nat → Int32) (J : Nat → Nat → Int64) (n : Int32) (q : Int32), hk_B I → (∀ o, [118, 144, 145].contains o = false → ∀ i, I o i = h.2.1 o i) → (∀ i, i ≠ 57 → I 118 i = h.2.1 118 i) → ((0 : Int) ≤ q.toInt ∧ q.toInt ≤ 8) → (8 - q.toInt).toNat = m → qm_Ru (some (L, xs)) (d + 80) cd_316 (34, [.ref 118, .int n, .int q], [], (h.1, I, J, h.2.2.2)) Z := by
  intro m
  induction m using Nat.strongRecOn with
  | ind m ih =>
    intro I J n q hBI e e8 hq hm
    refine qm_Ru.go 2 (c' := (36, [.ref 118, .int n, .int q], [.ref 118, .int q], (h.1, I, J, h.2.2.2))) rfl ?_
    refine hk_getr rfl (hH.1 118 (17, 105) rfl) rfl (hH.2 118 27 (some 132) rfl) ?_
    refine qm_Ru.go 1 (c' := (40, [.ref 118, .int n, .int q], [.ref 118, .ref 132, .int q], (h.1, I, J, h.2.2.2))) rfl ?_
    obtain ⟨v1, q_v1⟩ : ∃ v, h.2.1 118 18 = v := ⟨_, rfl⟩
    have b_v1 : (0 : Int) ≤ v1.toInt ∧ v1.toInt ≤ 1 := by rw [← q_v1]; exact hB 118 18
    refine hk_geti (v := v1) rfl (hH.1 118 (17, 105) rfl) rfl (show (I) 118 18 = _ from ((e8 18 (by omega)).trans q_v1)) ?_
    refine qm_Ru.go 0 (c' := (43, [.ref 118, .int n, .int q], [.int v1, .ref 132, .int q], (h.1, I, J, h.2.2.2))) rfl ?_
    obtain ⟨v2, q_v2⟩ : ∃ v, h.2.1 132 (v1.toInt.toNat) = v := ⟨_, rfl⟩
    have b_v2 : (0 : Int) ≤ v2.toInt ∧ v2.toInt ≤ 8 := by rw [← q_v2]; exact hB 132 (v1.toInt.toNat)
    refine hk_ial (v := v2) rfl (hH.1 132 (0, 2) rfl) (by omega) (by omega) (show (I) 132 (v1.toInt.toNat) = _ from ((e 132 rfl (v1.toInt.toNat)).trans q_v2)) ?_
    refine qm_Ru.go 0 (c' := (44, [.ref 118, .int n, .int q], [.int v2, .int q], (h.1, I, J, h.2.2.2))) rfl ?_
    refine hk_cge (ix := q.toInt) (iy := v2.toInt) rfl rfl rfl (fun z3 => ?_) (fun z3 => ?_)
    · refine qm_Ru.go 1 (c' := (62, [.ref 118, .int n, .int q], [.int n], (h.1, I, J, h.2.2.2))) rfl ?_
      refine qm_Ru.rt (v := (some (.int n))) (h' := (h.1, I, J, h.2.2.2)) rfl ?_
      exact k n (I) (J) hBI (fun o ho i => (e o ho i)) (fun i hi => (e8 i hi))
    · refine qm_Ru.go 3 (c' := (50, [.ref 118, .int n, .int q], [.int q, .ref 118, .int n], (h.1, I, J, h.2.2.2))) rfl ?_
      refine hk_inv (o := 118) (r := [.int n]) (as := [.ref 118, .int q]) rfl rfl (hH.1 118 (17, 105) rfl) rfl rfl rfl rfl (hs_placesof (h := (h.1, I, J, h.2.2.2)) h6 hH hBI (by omega) (by show rule_ok (I) (16 * ((I) 118 18).toInt.toNat + 8 + q.toInt.toNat); rw [(show (I) 118 18 = _ from ((e8 18 (by omega)).trans q_v1))]; have g := sp_place hP q_v1 q_v2 (j := q.toInt.toNat) (by omega); rw [q_v1] at g; exact rule_cg g ((funext fun i => congrArg Int32.toInt (e 133 rfl i)).trans rfl) ((funext fun i => congrArg Int32.toInt (e 134 rfl i)).trans rfl) ((funext fun i => congrArg Int32.toInt (e 138 rfl i)).trans rfl) ((funext fun i => congrArg Int32.toInt (e 139 rfl i)).trans rfl) ((funext fun i => congrArg Int32.toInt (e 140 rfl i)).trans rfl) ((funext fun i => congrArg Int32.toInt (e 141 rfl i)).trans rfl) ((funext fun i => congrArg Int32.toInt (e 142 rfl i)).trans rfl)) (fun v6 I4 J5 hB_I4 e_I4 => ?_))
      refine qm_Ru.go 1 (c' := (54, [.ref 118, .int n, .int q], [.int (n + v6)], (h.1, I4, J5, h.2.2.2))) rfl ?_
      obtain ⟨v7, q_v7⟩ : ∃ v, (n + v6) = v := ⟨_, rfl⟩
      rw [q_v7]
      refine qm_Ru.go 2 (c' := (58, [.ref 118, .int v7, .int (q + 1)], [], (h.1, I4, J5, h.2.2.2))) rfl ?_
      obtain ⟨v8, q_v8, e_v8⟩ := hk_add (x := q) (y := 1) (a := q.toInt) (b := 1) rfl rfl (by omega) (by omega)
      rw [q_v8]
      refine qm_Ru.go 1 (c' := (34, [.ref 118, .int v7, .int v8], [], (h.1, I4, J5, h.2.2.2))) rfl ?_
      exact ih _ (by omega) (I4) (J5) v7 v8 hB_I4 (fun o ho i => ((e_I4 o (hk_ms rfl ho) i).trans (e o ho i))) (fun i hi => ((e_I4 118 rfl i).trans (e8 i hi))) (by omega) rfl
theorem hl_br1 {L : Nat} {xs : Nat → Int32} {d : Nat} {Z : Option Value → qm_H → Prop} {h : qm_H} (h6 : 6 ≤ L) (hH : hk_H h) (hB : hk_B h.2.1) (hP : s_P h.2.1) (k : ∀ (v : Int32) (I : Nat → Nat → Int32) (J : Nat → Nat → Int64), hk_B I → (∀ o, [118, 144, 145].contains o = false → ∀ i, I o i = h.2.1 o i) → (∀ i, i ≠ 57 → I 118 i = h.2.1 118 i) → Z (some (.int v)) (h.1, I, J, h.2.2.2)) : ∀ (m : Nat) (I : Nat → Nat → Int32) (J : Nat → Nat → Int64) (n : Int32) (q : Int32), hk_B I → (∀ o, [118, 144, 145].contains o = false → ∀ i, I o i = h.2.1 o i) → (∀ i, i ≠ 57 → I 118 i = h.2.1 118 i) → ((0 : Int) ≤ q.toInt ∧ q.toInt ≤ 8) → (8 - q.toInt).toNat = m → qm_Ru (some (L, xs)) (d + 80) cd_316 (4, [.ref 118, .int n, .int q], [], (h.1, I, J, h.2.2.2)) Z := by
  intro m
  induction m using Nat.strongRecOn with
  | ind m ih =>
    intro I J n q hBI e e8 hq hm
    refine qm_Ru.go 2 (c' := (6, [.ref 118, .int n, .int q], [.ref 118, .int q], (h.1, I, J, h.2.2.2))) rfl ?_
    refine hk_getr rfl (hH.1 118 (17, 105) rfl) rfl (hH.2 118 26 (some 131) rfl) ?_
    refine qm_Ru.go 1 (c' := (10, [.ref 118, .int n, .int q], [.ref 118, .ref 131, .int q], (h.1, I, J, h.2.2.2))) rfl ?_
    obtain ⟨v1, q_v1⟩ : ∃ v, h.2.1 118 18 = v := ⟨_, rfl⟩
    have b_v1 : (0 : Int) ≤ v1.toInt ∧ v1.toInt ≤ 1 := by rw [← q_v1]; exact hB 118 18
    refine hk_geti (v := v1) rfl (hH.1 118 (17, 105) rfl) rfl (show (I) 118 18 = _ from ((e8 18 (by omega)).trans q_v1)) ?_
    refine qm_Ru.go 0 (c' := (13, [.ref 118, .int n, .int q], [.int v1, .ref 131, .int q], (h.1, I, J, h.2.2.2))) rfl ?_
    obtain ⟨v2, q_v2⟩ : ∃ v, h.2.1 131 (v1.toInt.toNat) = v := ⟨_, rfl⟩
    have b_v2 : (0 : Int) ≤ v2.toInt ∧ v2.toInt ≤ 8 := by rw [← q_v2]; exact hB 131 (v1.toInt.toNat)
    refine hk_ial (v := v2) rfl (hH.1 131 (0, 2) rfl) (by omega) (by omega) (show (I) 131 (v1.toInt.toNat) = _ from ((e 131 rfl (v1.toInt.toNat)).trans q_v2)) ?_
    refine qm_Ru.go 0 (c' := (14, [.ref 118, .int n, .int q], [.int v2, .int q], (h.1, I, J, h.2.2.2))) rfl ?_
    refine hk_cge (ix := q.toInt) (iy := v2.toInt) rfl rfl rfl (fun z3 => ?_) (fun z3 => ?_)
    · refine qm_Ru.go 2 (c' := (34, [.ref 118, .int n, .int 0], [], (h.1, I, J, h.2.2.2))) rfl ?_
      exact hl_br2 h6 hH hB hP k _ (I) (J) n 0 hBI (fun o ho i => (e o ho i)) (fun i hi => (e8 i hi)) (by decide) rfl
    · refine qm_Ru.go 4 (c' := (21, [.ref 118, .int n, .int q], [.int (-1), .int q, .ref 118, .int n], (h.1, I, J, h.2.2.2))) rfl ?_
      refine hk_inv (o := 118) (r := [.int n]) (as := [.ref 118, .int q, .int (-1)]) rfl rfl (hH.1 118 (17, 105) rfl) rfl rfl rfl rfl (hs_pairsof (h := (h.1, I, J, h.2.2.2)) h6 hH hBI (by omega) (by show rule_ok (I) (16 * ((I) 118 18).toInt.toNat + q.toInt.toNat); rw [(show (I) 118 18 = _ from ((e8 18 (by omega)).trans q_v1))]; have g := sp_pair hP q_v1 q_v2 (j := q.toInt.toNat) (by omega); rw [q_v1] at g; exact rule_cg g ((funext fun i => congrArg Int32.toInt (e 133 rfl i)).trans rfl) ((funext fun i => congrArg Int32.toInt (e 134 rfl i)).trans rfl) ((funext fun i => congrArg Int32.toInt (e 138 rfl i)).trans rfl) ((funext fun i => congrArg Int32.toInt (e 139 rfl i)).trans rfl) ((funext fun i => congrArg Int32.toInt (e 140 rfl i)).trans rfl) ((funext fun i => congrArg Int32.toInt (e 141 rfl i)).trans rfl) ((funext fun i => congrArg Int32.toInt (e 142 rfl i)).trans rfl)) (fun v6 I4 J5 hB_I4 e_I4 e8_I4 => ?_))
      refine qm_Ru.go 1 (c' := (25, [.ref 118, .int n, .int q], [.int (n + v6)], (h.1, I4, J5, h.2.2.2))) rfl ?_
      obtain ⟨v7, q_v7⟩ : ∃ v, (n + v6) = v := ⟨_, rfl⟩
      rw [q_v7]
      refine qm_Ru.go 2 (c' := (29, [.ref 118, .int v7, .int (q + 1)], [], (h.1, I4, J5, h.2.2.2))) rfl ?_
      obtain ⟨v8, q_v8, e_v8⟩ := hk_add (x := q) (y := 1) (a := q.toInt) (b := 1) rfl rfl (by omega) (by omega)
      rw [q_v8]
      refine qm_Ru.go 1 (c' := (4, [.ref 118, .int v7, .int v8], [], (h.1, I4, J5, h.2.2.2))) rfl ?_
      exact ih _ (by omega) (I4) (J5) v7 v8 hB_I4 (fun o ho i => ((e_I4 o (hk_ms rfl ho) i).trans (e o ho i))) (fun i hi => ((e8_I4 i hi).trans (e8 i hi))) (by omega) rfl
theorem hs_broken {L : Nat} {xs : Nat → Int32} {d : Nat} {Z : Option Value → qm_H → Prop} {h : qm_H} (h6 : 6 ≤ L) (hH : hk_H h) (hB : hk_B h.2.1)   (hP : s_P h.2.1) (k : ∀ (v : Int32) (I : Nat → Nat → Int32) (J : Nat → Nat → Int64), hk_B I → (∀ o, [118, 144, 145].contains o = false → ∀ i, I o i = h.2.1 o i) → (∀ i, i ≠ 57 → I 118 i = h.2.1 118 i) → Z (some (.int v)) (h.1, I, J, h.2.2.2)) : qm_Ru (some (L, xs)) (d + 80) cd_316 (qm_ent 3 [.ref 118] h) Z := by
  refine qm_Ru.go 4 (c' := (4, [.ref 118, .int 0, .int 0], [], h)) rfl ?_
  exact hl_br1 h6 hH hB hP k _ (h.2.1) (h.2.2.1) 0 0 hB (fun o ho i => rfl) (fun i hi => rfl) (by decide) rfl
theorem hc_rpairs : hk_ct v_Q (fun _ => True) (fun as I => ∃ a : Int32, as = [.ref 118, .int a]) 303 (some (-2147483648, 2147483647)) [118, 144, 145] 90 := by
  intro L xs d Z h as h6 hH hT hB hV hp hd k
  obtain ⟨a, rfl⟩ := hp
  have hP := hV.2
  obtain ⟨d, rfl⟩ : ∃ e, d = e + 90 := ⟨d - 90, by omega⟩
  show qm_Ru (some (L, xs)) (d + 90) cd_303 (qm_ent 2 [.ref 118, .int a] h) Z
  refine qm_Ru.go 3 (c' := (3, [.ref 118, .int a], [.ref 118, .int 0, .int a], h)) rfl ?_
  refine hk_getr rfl (hH.1 118 (17, 105) rfl) rfl (hH.2 118 26 (some 131) rfl) ?_
  refine qm_Ru.go 1 (c' := (7, [.ref 118, .int a], [.ref 118, .ref 131, .int 0, .int a], h)) rfl ?_
  obtain ⟨v1, q_v1⟩ : ∃ v, h.2.1 118 18 = v := ⟨_, rfl⟩
  have b_v1 : (0 : Int) ≤ v1.toInt ∧ v1.toInt ≤ 1 := by rw [← q_v1]; exact hB 118 18
  refine hk_geti (v := v1) rfl (hH.1 118 (17, 105) rfl) rfl q_v1 ?_
  refine qm_Ru.go 0 (c' := (10, [.ref 118, .int a], [.int v1, .ref 131, .int 0, .int a], h)) rfl ?_
  obtain ⟨v2, q_v2⟩ : ∃ v, h.2.1 131 (v1.toInt.toNat) = v := ⟨_, rfl⟩
  have b_v2 : (0 : Int) ≤ v2.toInt ∧ v2.toInt ≤ 8 := by rw [← q_v2]; exact hB 131 (v1.toInt.toNat)
  refine hk_ial (v := v2) rfl (hH.1 131 (0, 2) rfl) (by omega) (by omega) q_v2 ?_
  refine qm_Ru.go 2 (c' := (13, [.ref 118, .int a], [.int (v2 - 1), .int 0, .int a], h)) rfl ?_
  obtain ⟨v3, q_v3, e_v3⟩ := hk_sub (x := v2) (y := 1) (a := v2.toInt) (b := 1) rfl rfl (by omega) (by omega)
  rw [q_v3]
  refine qm_Ru.call (j := 270) (as := [.int a, .int 0, .int v3]) (c' := (16, [.ref 118, .int a], [], h)) rfl rfl rfl ?_
  refine qm_Ru.go 2 (c' := (2, [.int a, .int 0, .int v3], [.int 0, .int a], h)) rfl ?_
  refine hk_clt (ix := a.toInt) (iy := 0) rfl rfl rfl (fun z4 => ?_) (fun z4 => ?_)
  · refine qm_Ru.go 1 (c' := (15, [.int a, .int 0, .int v3], [.int 0], h)) rfl ?_
    refine qm_Ru.rt (v := (some (.int 0))) (h' := h) rfl ?_
    refine qm_Ru.go 2 (c' := (29, [.ref 118, .int a], [.int (-1)], h)) rfl ?_
    refine qm_Ru.rt (v := (some (.int (-1)))) (h' := h) rfl ?_
    exact k (some (.int (-1))) (h.2.1) (h.2.2.1) ⟨_, rfl, ⟨by decide, by decide⟩⟩ hB (v_Q_cg8 hV (mod := [118, 144, 145]) (fun o ho i => rfl) (fun i hi => rfl) rfl) (fun o ho i => rfl)
  · refine qm_Ru.go 2 (c' := (7, [.int a, .int 0, .int v3], [.int v3, .int a], h)) rfl ?_
    refine hk_cgt (ix := a.toInt) (iy := v3.toInt) rfl rfl rfl (fun z5 => ?_) (fun z5 => ?_)
    · refine qm_Ru.go 1 (c' := (15, [.int a, .int 0, .int v3], [.int 0], h)) rfl ?_
      refine qm_Ru.rt (v := (some (.int 0))) (h' := h) rfl ?_
      refine qm_Ru.go 2 (c' := (29, [.ref 118, .int a], [.int (-1)], h)) rfl ?_
      refine qm_Ru.rt (v := (some (.int (-1)))) (h' := h) rfl ?_
      exact k (some (.int (-1))) (h.2.1) (h.2.2.1) ⟨_, rfl, ⟨by decide, by decide⟩⟩ hB (v_Q_cg8 hV (mod := [118, 144, 145]) (fun o ho i => rfl) (fun i hi => rfl) rfl) (fun o ho i => rfl)
    · refine qm_Ru.go 2 (c' := (15, [.int a, .int 0, .int v3], [.int 1], h)) rfl ?_
      refine qm_Ru.rt (v := (some (.int 1))) (h' := h) rfl ?_
      refine qm_Ru.go 4 (c' := (22, [.ref 118, .int a], [.int (-1), .int a, .ref 118], h)) rfl ?_
      refine hk_inv (o := 118) (r := []) (as := [.ref 118, .int a, .int (-1)]) rfl rfl (hH.1 118 (17, 105) rfl) rfl rfl rfl rfl (hs_pairsof (h := h) h6 hH hB (by omega) (by show rule_ok (h.2.1) (16 * ((h.2.1) 118 18).toInt.toNat + a.toInt.toNat); rw [q_v1]; have g := sp_pair hP q_v1 q_v2 (j := a.toInt.toNat) (by omega); rw [q_v1] at g; exact rule_cg g rfl rfl rfl rfl rfl rfl rfl) (fun v8 I6 J7 hB_I6 e_I6 e8_I6 => ?_))
      refine qm_Ru.go 1 (c' := (29, [.ref 118, .int a], [.int v8], (h.1, I6, J7, h.2.2.2))) rfl ?_
      refine qm_Ru.rt (v := (some (.int v8))) (h' := (h.1, I6, J7, h.2.2.2)) rfl ?_
      exact k (some (.int v8)) (I6) (J7) ⟨_, rfl, qa_in_full _⟩ hB_I6 (v_Q_cg8 hV (mod := [118, 144, 145]) (fun o ho i => ((e_I6 o (hk_ms rfl ho) i).trans rfl)) (fun i hi => ((e8_I6 i hi).trans rfl)) rfl) (fun o ho i => ((e_I6 o (hk_ms rfl ho) i).trans rfl))
theorem hc_rpair : hk_ct v_Q (fun _ => True) (fun as I => ∃ a b : Int32, as = [.ref 118, .int a, .int b]) 311 (some (-2147483648, 2147483647)) [118, 144, 145] 90 := by
  intro L xs d Z h as h6 hH hT hB hV hp hd k
  obtain ⟨a, b, rfl⟩ := hp
  have hP := hV.2
  obtain ⟨d, rfl⟩ : ∃ e, d = e + 90 := ⟨d - 90, by omega⟩
  show qm_Ru (some (L, xs)) (d + 90) cd_311 (qm_ent 3 [.ref 118, .int a, .int b] h) Z
  refine qm_Ru.go 3 (c' := (3, [.ref 118, .int a, .int b], [.ref 118, .int 0, .int a], h)) rfl ?_
  refine hk_getr rfl (hH.1 118 (17, 105) rfl) rfl (hH.2 118 26 (some 131) rfl) ?_
  refine qm_Ru.go 1 (c' := (7, [.ref 118, .int a, .int b], [.ref 118, .ref 131, .int 0, .int a], h)) rfl ?_
  obtain ⟨v1, q_v1⟩ : ∃ v, h.2.1 118 18 = v := ⟨_, rfl⟩
  have b_v1 : (0 : Int) ≤ v1.toInt ∧ v1.toInt ≤ 1 := by rw [← q_v1]; exact hB 118 18
  refine hk_geti (v := v1) rfl (hH.1 118 (17, 105) rfl) rfl q_v1 ?_
  refine qm_Ru.go 0 (c' := (10, [.ref 118, .int a, .int b], [.int v1, .ref 131, .int 0, .int a], h)) rfl ?_
  obtain ⟨v2, q_v2⟩ : ∃ v, h.2.1 131 (v1.toInt.toNat) = v := ⟨_, rfl⟩
  have b_v2 : (0 : Int) ≤ v2.toInt ∧ v2.toInt ≤ 8 := by rw [← q_v2]; exact hB 131 (v1.toInt.toNat)
  refine hk_ial (v := v2) rfl (hH.1 131 (0, 2) rfl) (by omega) (by omega) q_v2 ?_
  refine qm_Ru.go 2 (c' := (13, [.ref 118, .int a, .int b], [.int (v2 - 1), .int 0, .int a], h)) rfl ?_
  obtain ⟨v3, q_v3, e_v3⟩ := hk_sub (x := v2) (y := 1) (a := v2.toInt) (b := 1) rfl rfl (by omega) (by omega)
  rw [q_v3]
  refine qm_Ru.call (j := 270) (as := [.int a, .int 0, .int v3]) (c' := (16, [.ref 118, .int a, .int b], [], h)) rfl rfl rfl ?_
  refine qm_Ru.go 2 (c' := (2, [.int a, .int 0, .int v3], [.int 0, .int a], h)) rfl ?_
  refine hk_clt (ix := a.toInt) (iy := 0) rfl rfl rfl (fun z4 => ?_) (fun z4 => ?_)
  · refine qm_Ru.go 1 (c' := (15, [.int a, .int 0, .int v3], [.int 0], h)) rfl ?_
    refine qm_Ru.rt (v := (some (.int 0))) (h' := h) rfl ?_
    refine qm_Ru.go 2 (c' := (20, [.ref 118, .int a, .int b], [.int (-1)], h)) rfl ?_
    refine qm_Ru.rt (v := (some (.int (-1)))) (h' := h) rfl ?_
    exact k (some (.int (-1))) (h.2.1) (h.2.2.1) ⟨_, rfl, ⟨by decide, by decide⟩⟩ hB (v_Q_cg8 hV (mod := [118, 144, 145]) (fun o ho i => rfl) (fun i hi => rfl) rfl) (fun o ho i => rfl)
  · refine qm_Ru.go 2 (c' := (7, [.int a, .int 0, .int v3], [.int v3, .int a], h)) rfl ?_
    refine hk_cgt (ix := a.toInt) (iy := v3.toInt) rfl rfl rfl (fun z5 => ?_) (fun z5 => ?_)
    · refine qm_Ru.go 1 (c' := (15, [.int a, .int 0, .int v3], [.int 0], h)) rfl ?_
      refine qm_Ru.rt (v := (some (.int 0))) (h' := h) rfl ?_
      refine qm_Ru.go 2 (c' := (20, [.ref 118, .int a, .int b], [.int (-1)], h)) rfl ?_
      refine qm_Ru.rt (v := (some (.int (-1)))) (h' := h) rfl ?_
      exact k (some (.int (-1))) (h.2.1) (h.2.2.1) ⟨_, rfl, ⟨by decide, by decide⟩⟩ hB (v_Q_cg8 hV (mod := [118, 144, 145]) (fun o ho i => rfl) (fun i hi => rfl) rfl) (fun o ho i => rfl)
    · refine qm_Ru.go 2 (c' := (15, [.int a, .int 0, .int v3], [.int 1], h)) rfl ?_
      refine qm_Ru.rt (v := (some (.int 1))) (h' := h) rfl ?_
      refine qm_Ru.go 4 (c' := (24, [.ref 118, .int a, .int b], [.int b, .int a, .ref 118], h)) rfl ?_
      refine hk_inv (o := 118) (r := []) (as := [.ref 118, .int a, .int b]) rfl rfl (hH.1 118 (17, 105) rfl) rfl rfl rfl rfl (hs_pairsof (h := h) h6 hH hB (by omega) (by show rule_ok (h.2.1) (16 * ((h.2.1) 118 18).toInt.toNat + a.toInt.toNat); rw [q_v1]; have g := sp_pair hP q_v1 q_v2 (j := a.toInt.toNat) (by omega); rw [q_v1] at g; exact rule_cg g rfl rfl rfl rfl rfl rfl rfl) (fun v8 I6 J7 hB_I6 e_I6 e8_I6 => ?_))
      refine qm_Ru.go 2 (c' := (29, [.ref 118, .int a, .int b], [.ref 118], (h.1, I6, J7, h.2.2.2))) rfl ?_
      obtain ⟨v9, q_v9⟩ : ∃ v, I6 118 57 = v := ⟨_, rfl⟩
      refine hk_geti (v := v9) rfl (hH.1 118 (17, 105) rfl) rfl q_v9 ?_
      refine qm_Ru.go 0 (c' := (32, [.ref 118, .int a, .int b], [.int v9], (h.1, I6, J7, h.2.2.2))) rfl ?_
      refine qm_Ru.rt (v := (some (.int v9))) (h' := (h.1, I6, J7, h.2.2.2)) rfl ?_
      exact k (some (.int v9)) (I6) (J7) ⟨_, rfl, qa_in_full _⟩ hB_I6 (v_Q_cg8 hV (mod := [118, 144, 145]) (fun o ho i => ((e_I6 o (hk_ms rfl ho) i).trans rfl)) (fun i hi => ((e8_I6 i hi).trans rfl)) rfl) (fun o ho i => ((e_I6 o (hk_ms rfl ho) i).trans rfl))
theorem hc_rplaces : hk_ct v_Q (fun _ => True) (fun as I => ∃ a : Int32, as = [.ref 118, .int a]) 312 (some (-2147483648, 2147483647)) [118, 144, 145] 90 := by
  intro L xs d Z h as h6 hH hT hB hV hp hd k
  obtain ⟨a, rfl⟩ := hp
  have hP := hV.2
  obtain ⟨d, rfl⟩ : ∃ e, d = e + 90 := ⟨d - 90, by omega⟩
  show qm_Ru (some (L, xs)) (d + 90) cd_312 (qm_ent 2 [.ref 118, .int a] h) Z
  refine qm_Ru.go 3 (c' := (3, [.ref 118, .int a], [.ref 118, .int 0, .int a], h)) rfl ?_
  refine hk_getr rfl (hH.1 118 (17, 105) rfl) rfl (hH.2 118 27 (some 132) rfl) ?_
  refine qm_Ru.go 1 (c' := (7, [.ref 118, .int a], [.ref 118, .ref 132, .int 0, .int a], h)) rfl ?_
  obtain ⟨v1, q_v1⟩ : ∃ v, h.2.1 118 18 = v := ⟨_, rfl⟩
  have b_v1 : (0 : Int) ≤ v1.toInt ∧ v1.toInt ≤ 1 := by rw [← q_v1]; exact hB 118 18
  refine hk_geti (v := v1) rfl (hH.1 118 (17, 105) rfl) rfl q_v1 ?_
  refine qm_Ru.go 0 (c' := (10, [.ref 118, .int a], [.int v1, .ref 132, .int 0, .int a], h)) rfl ?_
  obtain ⟨v2, q_v2⟩ : ∃ v, h.2.1 132 (v1.toInt.toNat) = v := ⟨_, rfl⟩
  have b_v2 : (0 : Int) ≤ v2.toInt ∧ v2.toInt ≤ 8 := by rw [← q_v2]; exact hB 132 (v1.toInt.toNat)
  refine hk_ial (v := v2) rfl (hH.1 132 (0, 2) rfl) (by omega) (by omega) q_v2 ?_
  refine qm_Ru.go 2 (c' := (13, [.ref 118, .int a], [.int (v2 - 1), .int 0, .int a], h)) rfl ?_
  obtain ⟨v3, q_v3, e_v3⟩ := hk_sub (x := v2) (y := 1) (a := v2.toInt) (b := 1) rfl rfl (by omega) (by omega)
  rw [q_v3]
  refine qm_Ru.call (j := 270) (as := [.int a, .int 0, .int v3]) (c' := (16, [.ref 118, .int a], [], h)) rfl rfl rfl ?_
  refine qm_Ru.go 2 (c' := (2, [.int a, .int 0, .int v3], [.int 0, .int a], h)) rfl ?_
  refine hk_clt (ix := a.toInt) (iy := 0) rfl rfl rfl (fun z4 => ?_) (fun z4 => ?_)
  · refine qm_Ru.go 1 (c' := (15, [.int a, .int 0, .int v3], [.int 0], h)) rfl ?_
    refine qm_Ru.rt (v := (some (.int 0))) (h' := h) rfl ?_
    refine qm_Ru.go 2 (c' := (28, [.ref 118, .int a], [.int (-1)], h)) rfl ?_
    refine qm_Ru.rt (v := (some (.int (-1)))) (h' := h) rfl ?_
    exact k (some (.int (-1))) (h.2.1) (h.2.2.1) ⟨_, rfl, ⟨by decide, by decide⟩⟩ hB (v_Q_cg8 hV (mod := [118, 144, 145]) (fun o ho i => rfl) (fun i hi => rfl) rfl) (fun o ho i => rfl)
  · refine qm_Ru.go 2 (c' := (7, [.int a, .int 0, .int v3], [.int v3, .int a], h)) rfl ?_
    refine hk_cgt (ix := a.toInt) (iy := v3.toInt) rfl rfl rfl (fun z5 => ?_) (fun z5 => ?_)
    · refine qm_Ru.go 1 (c' := (15, [.int a, .int 0, .int v3], [.int 0], h)) rfl ?_
      refine qm_Ru.rt (v := (some (.int 0))) (h' := h) rfl ?_
      refine qm_Ru.go 2 (c' := (28, [.ref 118, .int a], [.int (-1)], h)) rfl ?_
      refine qm_Ru.rt (v := (some (.int (-1)))) (h' := h) rfl ?_
      exact k (some (.int (-1))) (h.2.1) (h.2.2.1) ⟨_, rfl, ⟨by decide, by decide⟩⟩ hB (v_Q_cg8 hV (mod := [118, 144, 145]) (fun o ho i => rfl) (fun i hi => rfl) rfl) (fun o ho i => rfl)
    · refine qm_Ru.go 2 (c' := (15, [.int a, .int 0, .int v3], [.int 1], h)) rfl ?_
      refine qm_Ru.rt (v := (some (.int 1))) (h' := h) rfl ?_
      refine qm_Ru.go 3 (c' := (21, [.ref 118, .int a], [.int a, .ref 118], h)) rfl ?_
      refine hk_inv (o := 118) (r := []) (as := [.ref 118, .int a]) rfl rfl (hH.1 118 (17, 105) rfl) rfl rfl rfl rfl (hs_placesof (h := h) h6 hH hB (by omega) (by show rule_ok (h.2.1) (16 * ((h.2.1) 118 18).toInt.toNat + 8 + a.toInt.toNat); rw [q_v1]; have g := sp_place hP q_v1 q_v2 (j := a.toInt.toNat) (by omega); rw [q_v1] at g; exact rule_cg g rfl rfl rfl rfl rfl rfl rfl) (fun v8 I6 J7 hB_I6 e_I6 => ?_))
      refine qm_Ru.go 1 (c' := (28, [.ref 118, .int a], [.int v8], (h.1, I6, J7, h.2.2.2))) rfl ?_
      refine qm_Ru.rt (v := (some (.int v8))) (h' := (h.1, I6, J7, h.2.2.2)) rfl ?_
      exact k (some (.int v8)) (I6) (J7) ⟨_, rfl, qa_in_full _⟩ hB_I6 (v_Q_cg8 hV (mod := [118, 144, 145]) (fun o ho i => ((e_I6 o (hk_ms rfl ho) i).trans rfl)) (fun i hi => ((e_I6 118 rfl i).trans rfl)) rfl) (fun o ho i => ((e_I6 o (hk_ms rfl ho) i).trans rfl))
