/-! the reference's work, in given runs -/
theorem zR_j {A : Nat → Nat → Int} {I I2 : Nat → Nat → Int32} (hr : zR A I) (e : ∀ o, [172, 173, 174, 175, 176, 177, 178, 179, 180, 181].contains o = false → ∀ i, I2 o i = I o i) : zR A I2 := zR_cg hr (fun o ho => Or.inr ⟨funext fun i => congrArg Int32.toInt (e o ((show ∀ o ∈ [127, 128, 129, 131, 132, 146, 147, 148, 149, 150, 151, 152, 153, 154], [172, 173, 174, 175, 176, 177, 178, 179, 180, 181].contains o = false from by decide) o ho) i), rfl⟩) (Or.inr ⟨e 118 rfl 44, rfl⟩) (Or.inr ⟨e 118 rfl 54, rfl⟩) ⟨e 118 rfl 18, rfl⟩
theorem jEq_rf {K : Nat → Nat → Int32} : jEq K K := ⟨fun _ _ _ => rfl, fun _ _ => rfl⟩
theorem jEq_go {s : Nat} {A : Nat → Nat → Int} {K I : Nat → Nat → Int32} {c : Nat} (h : jEq K I) : (jGo s A K c).1 = (jGo s A I c).1 ∧ jEq (jGo s A K c).2 (jGo s A I c).2 := by
  have e177 := h.1 177 (by decide) (by decide)
  have e178 := h.1 178 (by decide) (by decide)
  have e179 := h.1 179 (by decide) (by decide)
  have e170 := h.1 170 (by decide) (by decide)
  have eM : jMv K c = jMv I c := by
    unfold jMv
    rw [e177, e178, e170]
  have eW : jWn K ↔ jWn I := by
    unfold jWn
    rw [h.2 91 (by decide), h.2 85 (by decide), h.2 92 (by decide)]
  by_cases c1 : (K 178 c).toInt = -1
  · rw [jGo_n c1, jGo_n (by rw [← e178]; exact c1)]
    exact ⟨rfl, h⟩
  · have d1 : (I 178 c).toInt ≠ -1 := by rw [← e178]; exact c1
    by_cases c2 : K 177 c = K 170 (K 178 c).toInt.toNat
    · have d2 : I 177 c = I 170 (I 178 c).toInt.toNat := by rw [← e177, ← e170, ← e178]; exact c2
      by_cases c3 : jWn K
      · rw [jGo_w c1 c2 c3, jGo_w d1 d2 (eW.mp c3)]
        exact ⟨rfl, h⟩
      · have d3 : ¬ jWn I := fun z => c3 (eW.mpr z)
        by_cases c4 : (K 179 c + 1).toInt < 2
        · rw [jGo_l c1 c2 c3 c4, jGo_l d1 d2 d3 (by rw [← e179]; exact c4)]
          refine ⟨rfl, ?_⟩
          unfold jLi
          rw [e179]
          exact jEq_up h
        · rw [jGo_f c1 c2 c3 c4, jGo_f d1 d2 d3 (by rw [← e179]; exact c4)]
          have eR : jRe s A K (K 178 c).toInt.toNat = jRe s A I (I 178 c).toInt.toNat := by
            unfold jRe
            rw [e178, h.1 168 (by decide) (by decide), h.1 169 (by decide) (by decide), e170, h.1 171 (by decide) (by decide)]
          have eS : jSh s A K (K 178 c).toInt.toNat = jSh s A I (I 178 c).toInt.toNat := by
            unfold jSh
            rw [e178, h.1 168 (by decide) (by decide), h.1 169 (by decide) (by decide), e170, h.1 171 (by decide) (by decide)]
          refine ⟨eS, ?_⟩
          show jEq (jFi K c (K 178 c).toInt.toNat (Int32.ofInt (jRe s A K (K 178 c).toInt.toNat))) (jFi I c (I 178 c).toInt.toNat (Int32.ofInt (jRe s A I (I 178 c).toInt.toNat)))
          rw [eR, e178]
          unfold jFi
          rw [e179, h.2 85 (by decide), h.1 181 (by decide) (by decide)]
          exact jEq_up (jEq_up (jEq_up (jEq_up (jEq_up (jEq_up (jEq_up h))))))
    · have d2 : I 177 c ≠ I 170 (I 178 c).toInt.toNat := by rw [← e177, ← e170, ← e178]; exact c2
      by_cases c3 : jMv K c = K 177 (1 - c)
      · rw [jGo_b c1 c2 c3, jGo_b d1 d2 (by rw [← eM, ← e177]; exact c3)]
        exact ⟨rfl, h⟩
      · rw [jGo_m c1 c2 c3, jGo_m d1 d2 (by rw [← eM, ← e177]; exact c3)]
        refine ⟨rfl, ?_⟩
        unfold jMo
        rw [eM, h.1 180 (by decide) (by decide)]
        exact jEq_up (jEq_up h)
theorem jEq_st {s : Nat} {A : Nat → Nat → Int} {K I : Nat → Nat → Int32} {c : Nat} (h : jEq K I) : (jSt s (A, K) c).1 = (jSt s (A, I) c).1 ∧ jEq (jSt s (A, K) c).2 (jSt s (A, I) c).2 := by
  unfold jSt
  by_cases q : (K 178 c).toInt = -1
  · have q2 : (I 178 c).toInt = -1 := by rw [← h.1 178 (by decide) (by decide)]; exact q
    show (jGo s A (bif okb ((K 178 c).toInt = -1) then jTk K c else K) c).1 = (jGo s A (bif okb ((I 178 c).toInt = -1) then jTk I c else I) c).1 ∧ jEq (jGo s A (bif okb ((K 178 c).toInt = -1) then jTk K c else K) c).2 (jGo s A (bif okb ((I 178 c).toInt = -1) then jTk I c else I) c).2
    rw [okb_t q, okb_t q2]
    exact jEq_go (jEq_tk h)
  · have q2 : ¬ (I 178 c).toInt = -1 := by rw [← h.1 178 (by decide) (by decide)]; exact q
    show (jGo s A (bif okb ((K 178 c).toInt = -1) then jTk K c else K) c).1 = (jGo s A (bif okb ((I 178 c).toInt = -1) then jTk I c else I) c).1 ∧ jEq (jGo s A (bif okb ((K 178 c).toInt = -1) then jTk K c else K) c).2 (jGo s A (bif okb ((I 178 c).toInt = -1) then jTk I c else I) c).2
    rw [okb_f q, okb_f q2]
    exact jEq_go h
theorem jSt_1 {s : Nat} {A : Nat → Nat → Int} {K : Nat → Nat → Int32} {c : Nat} (q : (K 178 c).toInt = -1) : jSt s (A, K) c = jGo s A (jTk K c) c := by
  unfold jSt
  show jGo s A (bif okb ((K 178 c).toInt = -1) then jTk K c else K) c = _
  rw [okb_t q]
  rfl
theorem jSt_0 {s : Nat} {A : Nat → Nat → Int} {K : Nat → Nat → Int32} {c : Nat} (q : ¬ (K 178 c).toInt = -1) : jSt s (A, K) c = jGo s A K c := by
  unfold jSt
  show jGo s A (bif okb ((K 178 c).toInt = -1) then jTk K c else K) c = _
  rw [okb_f q]
  rfl
theorem jSt_P {s : Nat} {p : (Nat → Nat → Int) × (Nat → Nat → Int32)} {c : Nat} (hc : c < 2) (h : jP s p) : jP s (jSt s p c) := by
  obtain ⟨A, K⟩ := p
  by_cases q : (K 178 c).toInt = -1
  · rw [jSt_1 q]
    obtain ⟨h1, h2, h3, h4, h5⟩ := h
    refine jGo_P hc ⟨h1, h2, h3, jTk_I hc h4, ?_⟩
    show 0 ≤ (jTk K c 118 85).toInt
    rw [jTk_118]
    exact h5
  · rw [jSt_0 q]
    exact jGo_P hc h
theorem jSt_118 {s : Nat} {p : (Nat → Nat → Int) × (Nat → Nat → Int32)} {c : Nat} : (jSt s p c).2 118 = p.2 118 := by
  obtain ⟨A, K⟩ := p
  by_cases q : (K 178 c).toInt = -1
  · rw [jSt_1 q, jGo_118, jTk_118]
  · rw [jSt_0 q, jGo_118]
theorem i32_of {v : Int32} {n : Int} (h : v.toInt = n) : Int32.ofInt n = v := by
  rw [← h]
  exact Int32.ofInt_toInt v
theorem px_own0 {X : Option (Nat × (Nat → Int32))} {Z : Option Value → qm_H → Prop} {h : qm_H} {fu : Nat} (hH : hk_H h) {sv hs y : Int32} (q_sv : h.2.1 177 1 = sv) (q_hs : h.2.1 178 1 = hs) (b_sv : -1 ≤ sv.toInt ∧ sv.toInt ≤ 4) (b170 : ∀ k, (0 : Int) ≤ (h.2.1 170 k).toInt ∧ (h.2.1 170 k).toInt ≤ 4) (b_y : 0 ≤ y.toInt ∧ y.toInt ≤ 4) (k : ∀ r : Int32, (r.toInt = 1 ∧ jSd h.2.1 0 y.toInt ∨ r.toInt = 0 ∧ ¬ jSd h.2.1 0 y.toInt) → Z (some (.int r)) h) : qm_Rp fu X cd_364 (qm_ent 5 [.ref 118, .int 0, .int y] h) Z := by
  refine qm_Rp.go 0 (c' := (0, [.ref 118, .int 0, .int y, .float 0, .float 0], [], h)) rfl ?_
  have kz0 : (0 : Int32).toInt = 0 := rfl
  have kz1 : (1 : Int32).toInt = 1 := rfl
  have kz2 : (2 : Int32).toInt = 2 := rfl
  have kz3 : (3 : Int32).toInt = 3 := rfl
  have kz4 : (4 : Int32).toInt = 4 := rfl
  have kz5 : (5 : Int32).toInt = 5 := rfl
  have kz6 : (6 : Int32).toInt = 6 := rfl
  have kz7 : (7 : Int32).toInt = 7 := rfl
  have kz8 : (8 : Int32).toInt = 8 := rfl
  have kz9 : (9 : Int32).toInt = 9 := rfl
  have kzm1 : ((-1) : Int32).toInt = (-1) := rfl
  have kzm2 : ((-2) : Int32).toInt = (-2) := rfl
  have kzm3 : ((-3) : Int32).toInt = (-3) := rfl
  refine qm_Rp.go 11 (c' := (18, [.ref 118, .int 0, .int y, .int 1, .int 1], [.ref 118, .int 1], h)) rfl ?_
  refine hp_getr rfl (hH.1 118 (17, 105) rfl) rfl (hH.2 118 86 (some 177) rfl) ?_
  refine qm_Rp.go 1 (c' := (22, [.ref 118, .int 0, .int y, .int 1, .int 1], [.int 1, .ref 177, .int 1], h)) rfl ?_
  refine hp_ial (v := sv) rfl (hH.1 177 (0, 2) rfl) q_sv (fun ia_0 ib_0 => ?_)
  refine qm_Rp.go 2 (c' := (25, [.ref 118, .int 0, .int y, .int 1, .int 1], [.int (sv - y), .int 1], h)) rfl ?_
  obtain ⟨v2, q_v2, e_v2⟩ := hk_sub (x := sv) (y := y) (a := sv.toInt) (b := y.toInt) rfl rfl (by omega) (by omega)
  rw [q_v2]
  refine qm_Rp.go 1 (c' := (26, [.ref 118, .int 0, .int y, .int 1, .int 1], [.int (1 * v2)], h)) rfl ?_
  obtain ⟨v3, q_v3, e_v3⟩ := hk_mul (x := 1) (y := v2) (a := 1) (b := v2.toInt) rfl rfl (by omega) (by omega)
  rw [q_v3]
  refine hp_zle (ix := v3.toInt) rfl rfl (fun z4 => ?_) (fun z4 => ?_)
  · refine qm_Rp.go 1 (c' := (63, [.ref 118, .int 0, .int y, .int 1, .int 1], [.int 0], h)) rfl ?_
    refine qm_Rp.rt (v := (some (.int 0))) (h' := h) rfl ?_
    exact k 0 (Or.inr ⟨rfl, fun z => by have z := jSd_0.mp z; rw [q_sv, q_hs] at z; omega⟩)
  · refine qm_Rp.go 1 (c' := (30, [.ref 118, .int 0, .int y, .int 1, .int 1], [.ref 118], h)) rfl ?_
    refine hp_getr rfl (hH.1 118 (17, 105) rfl) rfl (hH.2 118 87 (some 178) rfl) ?_
    refine qm_Rp.go 1 (c' := (34, [.ref 118, .int 0, .int y, .int 1, .int 1], [.int 1, .ref 178], h)) rfl ?_
    refine hp_ial (v := hs) rfl (hH.1 178 (0, 2) rfl) q_hs (fun ia_4 ib_4 => ?_)
    refine qm_Rp.go 1 (c' := (36, [.ref 118, .int 0, .int y, .int 1, .int 1], [.int (-1), .int hs], h)) rfl ?_
    refine hp_ceq (ix := hs.toInt) (iy := (-1)) rfl rfl rfl (fun z6 => ?_) (fun z6 => ?_)
    · refine qm_Rp.go 2 (c' := (63, [.ref 118, .int 0, .int y, .int 1, .int 1], [.int 1], h)) rfl ?_
      refine qm_Rp.rt (v := (some (.int 1))) (h' := h) rfl ?_
      exact k 1 (Or.inl ⟨rfl, jSd_0.mpr (by rw [q_sv, q_hs]; omega)⟩)
    · refine qm_Rp.go 2 (c' := (42, [.ref 118, .int 0, .int y, .int 1, .int 1], [.ref 118, .int 1], h)) rfl ?_
      refine hp_getr rfl (hH.1 118 (17, 105) rfl) rfl (hH.2 118 78 (some 170) rfl) ?_
      refine qm_Rp.go 1 (c' := (46, [.ref 118, .int 0, .int y, .int 1, .int 1], [.ref 118, .ref 170, .int 1], h)) rfl ?_
      refine hp_getr rfl (hH.1 118 (17, 105) rfl) rfl (hH.2 118 87 (some 178) rfl) ?_
      refine qm_Rp.go 1 (c' := (50, [.ref 118, .int 0, .int y, .int 1, .int 1], [.int 1, .ref 178, .ref 170, .int 1], h)) rfl ?_
      refine hp_ial (v := hs) rfl (hH.1 178 (0, 2) rfl) q_hs (fun ia_6 ib_6 => ?_)
      refine qm_Rp.go 0 (c' := (51, [.ref 118, .int 0, .int y, .int 1, .int 1], [.int hs, .ref 170, .int 1], h)) rfl ?_
      obtain ⟨v8, q_v8⟩ : ∃ v_, h.2.1 170 hs.toInt.toNat = v_ := ⟨_, rfl⟩
      have b_v8 : (0 : Int) ≤ v8.toInt ∧ v8.toInt ≤ 4 := by rw [← q_v8]; exact b170 (hs.toInt.toNat)
      refine hp_ial (v := v8) rfl (hH.1 170 (0, 40) rfl) q_v8 (fun ia_8 ib_8 => ?_)
      refine qm_Rp.go 2 (c' := (54, [.ref 118, .int 0, .int y, .int 1, .int 1], [.int (v8 - y), .int 1], h)) rfl ?_
      obtain ⟨v10, q_v10, e_v10⟩ := hk_sub (x := v8) (y := y) (a := v8.toInt) (b := y.toInt) rfl rfl (by omega) (by omega)
      rw [q_v10]
      refine qm_Rp.go 1 (c' := (55, [.ref 118, .int 0, .int y, .int 1, .int 1], [.int (1 * v10)], h)) rfl ?_
      obtain ⟨v11, q_v11, e_v11⟩ := hk_mul (x := 1) (y := v10) (a := 1) (b := v10.toInt) rfl rfl (by omega) (by omega)
      rw [q_v11]
      refine hp_zle (ix := v11.toInt) rfl rfl (fun z12 => ?_) (fun z12 => ?_)
      · refine qm_Rp.go 1 (c' := (63, [.ref 118, .int 0, .int y, .int 1, .int 1], [.int 0], h)) rfl ?_
        refine qm_Rp.rt (v := (some (.int 0))) (h' := h) rfl ?_
        exact k 0 (Or.inr ⟨rfl, fun z => by have z := jSd_0.mp z; rw [q_sv, q_hs, q_v8] at z; omega⟩)
      · refine qm_Rp.go 2 (c' := (63, [.ref 118, .int 0, .int y, .int 1, .int 1], [.int 1], h)) rfl ?_
        refine qm_Rp.rt (v := (some (.int 1))) (h' := h) rfl ?_
        exact k 1 (Or.inl ⟨rfl, jSd_0.mpr (by rw [q_sv, q_hs, q_v8]; omega)⟩)
set_option maxHeartbeats 20000000 in
theorem px_tkl0 {X : Option (Nat × (Nat → Int32))} {Z : Option Value → qm_H → Prop} {h : qm_H} (hH : hk_H h) {n sv hs : Int32} (q_n : h.2.1 118 75 = n) (b_n : 0 ≤ n.toInt ∧ n.toInt ≤ 40) (q_hc : h.2.1 178 0 = -1) (q_sv : h.2.1 177 1 = sv) (q_hs : h.2.1 178 1 = hs) (b_sv : -1 ≤ sv.toInt ∧ sv.toInt ≤ 4) (b170 : ∀ k, (0 : Int) ≤ (h.2.1 170 k).toInt ∧ (h.2.1 170 k).toInt ≤ 4) (k : Z none (h.1, jTk h.2.1 0, h.2.2.1, h.2.2.2)) : ∀ (fu : Nat) (q : Int32), (0 ≤ q.toInt ∧ q.toInt ≤ n.toInt) → (jFs (jFr h.2.1 0) (n.toInt.toNat - q.toInt.toNat) q.toInt.toNat = jNx h.2.1 0) → qm_Rp fu X cd_363 (2, [.ref 118, .int 0, .int q], [], h) Z := by
  intro fu
  induction fu using Nat.strongRecOn with
  | ind fu ih =>
    intro q b_q hF
    have kz0 : (0 : Int32).toInt = 0 := rfl
    have kz1 : (1 : Int32).toInt = 1 := rfl
    have kz2 : (2 : Int32).toInt = 2 := rfl
    have kz3 : (3 : Int32).toInt = 3 := rfl
    have kz4 : (4 : Int32).toInt = 4 := rfl
    have kz5 : (5 : Int32).toInt = 5 := rfl
    have kz6 : (6 : Int32).toInt = 6 := rfl
    have kz7 : (7 : Int32).toInt = 7 := rfl
    have kz8 : (8 : Int32).toInt = 8 := rfl
    have kz9 : (9 : Int32).toInt = 9 := rfl
    have kzm1 : ((-1) : Int32).toInt = (-1) := rfl
    have kzm2 : ((-2) : Int32).toInt = (-2) := rfl
    have kzm3 : ((-3) : Int32).toInt = (-3) := rfl
    refine qm_Rp.go1 1 (c' := (4, [.ref 118, .int 0, .int q], [.ref 118, .int q], h)) rfl (fun g hg => ?_)
    refine hp_geti (v := n) rfl (hH.1 118 (17, 105) rfl) rfl q_n ?_
    refine qm_Rp.go 0 (c' := (7, [.ref 118, .int 0, .int q], [.int n, .int q], h)) rfl ?_
    refine hp_cge (ix := q.toInt) (iy := n.toInt) rfl rfl rfl (fun z1 => ?_) (fun z1 => ?_)
    · refine qm_Rp.go 0 (c' := (90, [.ref 118, .int 0, .int q], [], h)) rfl ?_
      refine qm_Rp.rt (v := none) (h' := h) rfl ?_
      rw [show n.toInt.toNat - q.toInt.toNat = 0 by omega] at hF
      have hF : q.toInt.toNat = jNx h.2.1 0 := hF
      rw [jTk_0 (by rw [← hF, q_n]; omega)] at k
      exact k
    · refine qm_Rp.go 1 (c' := (11, [.ref 118, .int 0, .int q], [.ref 118], h)) rfl ?_
      refine hp_getr rfl (hH.1 118 (17, 105) rfl) rfl (hH.2 118 87 (some 178) rfl) ?_
      refine qm_Rp.go 1 (c' := (15, [.ref 118, .int 0, .int q], [.int 0, .ref 178], h)) rfl ?_
      refine hp_ial (v := (-1)) rfl (hH.1 178 (0, 2) rfl) q_hc (fun ia_1 ib_1 => ?_)
      refine qm_Rp.go 3 (c' := (21, [.ref 118, .int 0, .int q], [.ref 118], h)) rfl ?_
      refine hp_getr rfl (hH.1 118 (17, 105) rfl) rfl (hH.2 118 80 (some 172) rfl) ?_
      refine qm_Rp.go 1 (c' := (25, [.ref 118, .int 0, .int q], [.int q, .ref 172], h)) rfl ?_
      obtain ⟨v3, q_v3⟩ : ∃ v_, h.2.1 172 q.toInt.toNat = v_ := ⟨_, rfl⟩
      refine hp_ial (v := v3) rfl (hH.1 172 (0, 40) rfl) q_v3 (fun ia_3 ib_3 => ?_)
      refine qm_Rp.go 0 (c' := (26, [.ref 118, .int 0, .int q], [.int v3], h)) rfl ?_
      refine hp_zne (ix := v3.toInt) rfl rfl (fun z5 => ?_) (fun z5 => ?_)
      · refine qm_Rp.go 1 (c' := (87, [.ref 118, .int 0, .int (q + 1)], [], h)) rfl ?_
        obtain ⟨v6, q_v6, e_v6⟩ := hk_add (x := q) (y := 1) (a := q.toInt) (b := 1) rfl rfl (by omega) (by omega)
        rw [q_v6]
        refine qm_Rp.go 1 (c' := (2, [.ref 118, .int 0, .int v6], [], h)) rfl ?_
        have hF2 : jFs (jFr h.2.1 0) (n.toInt.toNat - v6.toInt.toNat) v6.toInt.toNat = jNx h.2.1 0 := by rw [← hF, show n.toInt.toNat - q.toInt.toNat = (n.toInt.toNat - v6.toInt.toNat) + 1 by omega, jFs_0 (fun z => by have z := z.1; rw [q_v3] at z; omega), show q.toInt.toNat + 1 = v6.toInt.toNat by omega]
        exact ih g hg v6 (by omega) hF2
      · refine qm_Rp.go 3 (c' := (32, [.ref 118, .int 0, .int q], [.ref 118, .int 0, .ref 118], h)) rfl ?_
        refine hp_getr rfl (hH.1 118 (17, 105) rfl) rfl (hH.2 118 78 (some 170) rfl) ?_
        refine qm_Rp.go 1 (c' := (36, [.ref 118, .int 0, .int q], [.int q, .ref 170, .int 0, .ref 118], h)) rfl ?_
        obtain ⟨v7, q_v7⟩ : ∃ v_, h.2.1 170 q.toInt.toNat = v_ := ⟨_, rfl⟩
        have b_v7 : (0 : Int) ≤ v7.toInt ∧ v7.toInt ≤ 4 := by rw [← q_v7]; exact b170 (q.toInt.toNat)
        refine hp_ial (v := v7) rfl (hH.1 170 (0, 40) rfl) q_v7 (fun ia_7 ib_7 => ?_)
        refine qm_Rp.go 0 (c' := (37, [.ref 118, .int 0, .int q], [.int v7, .int 0, .ref 118], h)) rfl ?_
        refine hp_inv (o := 118) (r := []) (as := [.ref 118, .int 0, .int v7]) rfl rfl (hH.1 118 (17, 105) rfl) rfl rfl rfl (px_own0 (h := h) hH q_sv q_hs b_sv b170 (y := v7) (by omega) (fun r9 hr => ?_))
        rcases hr with ⟨hr, hy⟩ | ⟨hr, hy⟩
        · obtain rfl : r9 = 1 := hk_eqi.mpr (hr.trans rfl)
          have y10 := hy
          refine qm_Rp.go 2 (c' := (47, [.ref 118, .int 0, .int q], [.ref 118], h)) rfl ?_
          refine hp_getr rfl (hH.1 118 (17, 105) rfl) rfl (hH.2 118 87 (some 178) rfl) ?_
          refine qm_Rp.go 2 (c' := (52, [.ref 118, .int 0, .int q], [.int q, .int 0, .ref 178], h)) rfl ?_
          refine hp_ias rfl (hH.1 178 (0, 2) rfl) (fun ia_10 ib_10 => ?_)
          refine qm_Rp.go 1 (c' := (54, [.ref 118, .int 0, .int q], [.ref 118], (h.1, qm_up h.2.1 178 0 q, h.2.2.1, h.2.2.2))) rfl ?_
          refine hp_getr rfl (hH.1 118 (17, 105) rfl) rfl (hH.2 118 88 (some 179) rfl) ?_
          refine qm_Rp.go 2 (c' := (59, [.ref 118, .int 0, .int q], [.int 0, .int 0, .ref 179], (h.1, qm_up h.2.1 178 0 q, h.2.2.1, h.2.2.2))) rfl ?_
          refine hp_ias rfl (hH.1 179 (0, 2) rfl) (fun ia_11 ib_11 => ?_)
          refine qm_Rp.go 1 (c' := (61, [.ref 118, .int 0, .int q], [.ref 118], (h.1, qm_up (qm_up h.2.1 178 0 q) 179 0 0, h.2.2.1, h.2.2.2))) rfl ?_
          refine hp_getr rfl (hH.1 118 (17, 105) rfl) rfl (hH.2 118 80 (some 172) rfl) ?_
          refine qm_Rp.go 2 (c' := (66, [.ref 118, .int 0, .int q], [.int 1, .int q, .ref 172], (h.1, qm_up (qm_up h.2.1 178 0 q) 179 0 0, h.2.2.1, h.2.2.2))) rfl ?_
          refine hp_ias rfl (hH.1 172 (0, 40) rfl) (fun ia_12 ib_12 => ?_)
          refine qm_Rp.go 1 (c' := (68, [.ref 118, .int 0, .int q], [.ref 118], (h.1, qm_up (qm_up (qm_up h.2.1 178 0 q) 179 0 0) 172 q.toInt.toNat 1, h.2.2.1, h.2.2.2))) rfl ?_
          refine hp_getr rfl (hH.1 118 (17, 105) rfl) rfl (hH.2 118 81 (some 173) rfl) ?_
          refine qm_Rp.go 2 (c' := (73, [.ref 118, .int 0, .int q], [.int 0, .int q, .ref 173], (h.1, qm_up (qm_up (qm_up h.2.1 178 0 q) 179 0 0) 172 q.toInt.toNat 1, h.2.2.1, h.2.2.2))) rfl ?_
          refine hp_ias rfl (hH.1 173 (0, 40) rfl) (fun ia_13 ib_13 => ?_)
          refine qm_Rp.go 1 (c' := (75, [.ref 118, .int 0, .int q], [.ref 118], (h.1, qm_up (qm_up (qm_up (qm_up h.2.1 178 0 q) 179 0 0) 172 q.toInt.toNat 1) 173 q.toInt.toNat 0, h.2.2.1, h.2.2.2))) rfl ?_
          refine hp_getr rfl (hH.1 118 (17, 105) rfl) rfl (hH.2 118 82 (some 174) rfl) ?_
          refine qm_Rp.go 2 (c' := (80, [.ref 118, .int 0, .int q], [.ref 118, .int q, .ref 174], (h.1, qm_up (qm_up (qm_up (qm_up h.2.1 178 0 q) 179 0 0) 172 q.toInt.toNat 1) 173 q.toInt.toNat 0, h.2.2.1, h.2.2.2))) rfl ?_
          obtain ⟨v15, q_v15⟩ : ∃ v_, h.2.1 118 85 = v_ := ⟨_, rfl⟩
          refine hp_geti (v := v15) rfl (hH.1 118 (17, 105) rfl) rfl (show (qm_up (qm_up (qm_up (qm_up h.2.1 178 0 q) 179 0 0) 172 q.toInt.toNat 1) 173 q.toInt.toNat 0) 118 85 = _ from ((hk_ot rfl).trans ((hk_ot rfl).trans ((hk_ot rfl).trans ((hk_ot rfl).trans q_v15))))) ?_
          refine qm_Rp.go 0 (c' := (83, [.ref 118, .int 0, .int q], [.int v15, .int q, .ref 174], (h.1, qm_up (qm_up (qm_up (qm_up h.2.1 178 0 q) 179 0 0) 172 q.toInt.toNat 1) 173 q.toInt.toNat 0, h.2.2.1, h.2.2.2))) rfl ?_
          refine hp_ias rfl (hH.1 174 (0, 40) rfl) (fun ia_15 ib_15 => ?_)
          refine qm_Rp.go 1 (c' := (87, [.ref 118, .int 0, .int (q + 1)], [], (h.1, qm_up (qm_up (qm_up (qm_up (qm_up h.2.1 178 0 q) 179 0 0) 172 q.toInt.toNat 1) 173 q.toInt.toNat 0) 174 q.toInt.toNat v15, h.2.2.1, h.2.2.2))) rfl ?_
          obtain ⟨v17, q_v17, e_v17⟩ := hk_add (x := q) (y := 1) (a := q.toInt) (b := 1) rfl rfl (by omega) (by omega)
          rw [q_v17]
          refine qm_Rp.go 1 (c' := (2, [.ref 118, .int 0, .int v17], [], (h.1, qm_up (qm_up (qm_up (qm_up (qm_up h.2.1 178 0 q) 179 0 0) 172 q.toInt.toNat 1) 173 q.toInt.toNat 0) 174 q.toInt.toNat v15, h.2.2.1, h.2.2.2))) rfl ?_
          refine qm_Rp.go 2 (c' := (4, [.ref 118, .int 0, .int v17], [.ref 118, .int v17], (h.1, qm_up (qm_up (qm_up (qm_up (qm_up h.2.1 178 0 q) 179 0 0) 172 q.toInt.toNat 1) 173 q.toInt.toNat 0) 174 q.toInt.toNat v15, h.2.2.1, h.2.2.2))) rfl ?_
          refine hp_geti (v := n) rfl (hH.1 118 (17, 105) rfl) rfl (show (qm_up (qm_up (qm_up (qm_up (qm_up h.2.1 178 0 q) 179 0 0) 172 q.toInt.toNat 1) 173 q.toInt.toNat 0) 174 q.toInt.toNat v15) 118 75 = _ from ((hk_ot rfl).trans ((hk_ot rfl).trans ((hk_ot rfl).trans ((hk_ot rfl).trans ((hk_ot rfl).trans q_n)))))) ?_
          refine qm_Rp.go 0 (c' := (7, [.ref 118, .int 0, .int v17], [.int n, .int v17], (h.1, qm_up (qm_up (qm_up (qm_up (qm_up h.2.1 178 0 q) 179 0 0) 172 q.toInt.toNat 1) 173 q.toInt.toNat 0) 174 q.toInt.toNat v15, h.2.2.1, h.2.2.2))) rfl ?_
          refine hp_cge (ix := v17.toInt) (iy := n.toInt) rfl rfl rfl (fun z18 => ?_) (fun z18 => ?_)
          · refine qm_Rp.go 0 (c' := (90, [.ref 118, .int 0, .int v17], [], (h.1, qm_up (qm_up (qm_up (qm_up (qm_up h.2.1 178 0 q) 179 0 0) 172 q.toInt.toNat 1) 173 q.toInt.toNat 0) 174 q.toInt.toNat v15, h.2.2.1, h.2.2.2))) rfl ?_
            refine qm_Rp.rt (v := none) (h' := (h.1, qm_up (qm_up (qm_up (qm_up (qm_up h.2.1 178 0 q) 179 0 0) 172 q.toInt.toNat 1) 173 q.toInt.toNat 0) 174 q.toInt.toNat v15, h.2.2.1, h.2.2.2)) rfl ?_
            have hnx : jNx h.2.1 0 = q.toInt.toNat := by rw [← hF, show n.toInt.toNat - q.toInt.toNat = (n.toInt.toNat - q.toInt.toNat - 1) + 1 by omega, jFs_1 ⟨by rw [q_v3]; omega, by rw [q_v7]; exact y10⟩]
            have e : jTk h.2.1 0 = qm_up (qm_up (qm_up (qm_up (qm_up h.2.1 178 0 q) 179 0 0) 172 q.toInt.toNat 1) 173 q.toInt.toNat 0) 174 q.toInt.toNat v15 := by
              rw [jTk_1 (by rw [hnx, q_n]; omega), hnx]
              unfold jT1
              rw [i32_n (by omega), q_v15, show Int32.ofInt ((0 : Nat) : Int) = 0 from by decide]
            rw [e] at k
            exact k
          · refine qm_Rp.go 1 (c' := (11, [.ref 118, .int 0, .int v17], [.ref 118], (h.1, qm_up (qm_up (qm_up (qm_up (qm_up h.2.1 178 0 q) 179 0 0) 172 q.toInt.toNat 1) 173 q.toInt.toNat 0) 174 q.toInt.toNat v15, h.2.2.1, h.2.2.2))) rfl ?_
            refine hp_getr rfl (hH.1 118 (17, 105) rfl) rfl (hH.2 118 87 (some 178) rfl) ?_
            refine qm_Rp.go 1 (c' := (15, [.ref 118, .int 0, .int v17], [.int 0, .ref 178], (h.1, qm_up (qm_up (qm_up (qm_up (qm_up h.2.1 178 0 q) 179 0 0) 172 q.toInt.toNat 1) 173 q.toInt.toNat 0) 174 q.toInt.toNat v15, h.2.2.1, h.2.2.2))) rfl ?_
            refine hp_ial (v := q) rfl (hH.1 178 (0, 2) rfl) (show (qm_up (qm_up (qm_up (qm_up (qm_up h.2.1 178 0 q) 179 0 0) 172 q.toInt.toNat 1) 173 q.toInt.toNat 0) 174 q.toInt.toNat v15) 178 0 = _ from ((hk_ot rfl).trans ((hk_ot rfl).trans ((hk_ot rfl).trans ((hk_ot rfl).trans (hk_same)))))) (fun ia_18 ib_18 => ?_)
            refine qm_Rp.go 1 (c' := (17, [.ref 118, .int 0, .int v17], [.int (-1), .int q], (h.1, qm_up (qm_up (qm_up (qm_up (qm_up h.2.1 178 0 q) 179 0 0) 172 q.toInt.toNat 1) 173 q.toInt.toNat 0) 174 q.toInt.toNat v15, h.2.2.1, h.2.2.2))) rfl ?_
            refine hp_cne (ix := q.toInt) (iy := (-1)) rfl rfl rfl (fun z20 => ?_) (fun z20 => by exfalso; omega)
            refine qm_Rp.go 0 (c' := (90, [.ref 118, .int 0, .int v17], [], (h.1, qm_up (qm_up (qm_up (qm_up (qm_up h.2.1 178 0 q) 179 0 0) 172 q.toInt.toNat 1) 173 q.toInt.toNat 0) 174 q.toInt.toNat v15, h.2.2.1, h.2.2.2))) rfl ?_
            refine qm_Rp.rt (v := none) (h' := (h.1, qm_up (qm_up (qm_up (qm_up (qm_up h.2.1 178 0 q) 179 0 0) 172 q.toInt.toNat 1) 173 q.toInt.toNat 0) 174 q.toInt.toNat v15, h.2.2.1, h.2.2.2)) rfl ?_
            have hnx : jNx h.2.1 0 = q.toInt.toNat := by rw [← hF, show n.toInt.toNat - q.toInt.toNat = (n.toInt.toNat - q.toInt.toNat - 1) + 1 by omega, jFs_1 ⟨by rw [q_v3]; omega, by rw [q_v7]; exact y10⟩]
            have e : jTk h.2.1 0 = qm_up (qm_up (qm_up (qm_up (qm_up h.2.1 178 0 q) 179 0 0) 172 q.toInt.toNat 1) 173 q.toInt.toNat 0) 174 q.toInt.toNat v15 := by
              rw [jTk_1 (by rw [hnx, q_n]; omega), hnx]
              unfold jT1
              rw [i32_n (by omega), q_v15, show Int32.ofInt ((0 : Nat) : Int) = 0 from by decide]
            rw [e] at k
            exact k
        · obtain rfl : r9 = 0 := hk_eqi.mpr (hr.trans rfl)
          have y21 := hy
          refine qm_Rp.go 3 (c' := (87, [.ref 118, .int 0, .int (q + 1)], [], h)) rfl ?_
          obtain ⟨v22, q_v22, e_v22⟩ := hk_add (x := q) (y := 1) (a := q.toInt) (b := 1) rfl rfl (by omega) (by omega)
          rw [q_v22]
          refine qm_Rp.go 1 (c' := (2, [.ref 118, .int 0, .int v22], [], h)) rfl ?_
          have hF2 : jFs (jFr h.2.1 0) (n.toInt.toNat - v22.toInt.toNat) v22.toInt.toNat = jNx h.2.1 0 := by rw [← hF, show n.toInt.toNat - q.toInt.toNat = (n.toInt.toNat - v22.toInt.toNat) + 1 by omega, jFs_0 (fun z => y21 (by have z := z.2; rw [q_v7] at z; exact z)), show q.toInt.toNat + 1 = v22.toInt.toNat by omega]
          exact ih g hg v22 (by omega) hF2
theorem px_tk0 {X : Option (Nat × (Nat → Int32))} {Z : Option Value → qm_H → Prop} {h : qm_H} {fu : Nat} (hH : hk_H h) {n sv hs : Int32} (q_n : h.2.1 118 75 = n) (b_n : 0 ≤ n.toInt ∧ n.toInt ≤ 40) (q_hc : h.2.1 178 0 = -1) (q_sv : h.2.1 177 1 = sv) (q_hs : h.2.1 178 1 = hs) (b_sv : -1 ≤ sv.toInt ∧ sv.toInt ≤ 4) (b170 : ∀ k, (0 : Int) ≤ (h.2.1 170 k).toInt ∧ (h.2.1 170 k).toInt ≤ 4) (k : Z none (h.1, jTk h.2.1 0, h.2.2.1, h.2.2.2)) : qm_Rp fu X cd_363 (qm_ent 3 [.ref 118, .int 0] h) Z := by
  refine qm_Rp.go 2 (c' := (2, [.ref 118, .int 0, .int 0], [], h)) rfl ?_
  exact px_tkl0 hH q_n b_n q_hc q_sv q_hs b_sv b170 k _ 0 ⟨by decide, b_n.1⟩ (by unfold jNx; rw [q_n]; rfl)
theorem px_own1 {X : Option (Nat × (Nat → Int32))} {Z : Option Value → qm_H → Prop} {h : qm_H} {fu : Nat} (hH : hk_H h) {sv hs y : Int32} (q_sv : h.2.1 177 0 = sv) (q_hs : h.2.1 178 0 = hs) (b_sv : -1 ≤ sv.toInt ∧ sv.toInt ≤ 4) (b170 : ∀ k, (0 : Int) ≤ (h.2.1 170 k).toInt ∧ (h.2.1 170 k).toInt ≤ 4) (b_y : 0 ≤ y.toInt ∧ y.toInt ≤ 4) (k : ∀ r : Int32, (r.toInt = 1 ∧ jSd h.2.1 1 y.toInt ∨ r.toInt = 0 ∧ ¬ jSd h.2.1 1 y.toInt) → Z (some (.int r)) h) : qm_Rp fu X cd_364 (qm_ent 5 [.ref 118, .int 1, .int y] h) Z := by
  refine qm_Rp.go 0 (c' := (0, [.ref 118, .int 1, .int y, .float 0, .float 0], [], h)) rfl ?_
  have kz0 : (0 : Int32).toInt = 0 := rfl
  have kz1 : (1 : Int32).toInt = 1 := rfl
  have kz2 : (2 : Int32).toInt = 2 := rfl
  have kz3 : (3 : Int32).toInt = 3 := rfl
  have kz4 : (4 : Int32).toInt = 4 := rfl
  have kz5 : (5 : Int32).toInt = 5 := rfl
  have kz6 : (6 : Int32).toInt = 6 := rfl
  have kz7 : (7 : Int32).toInt = 7 := rfl
  have kz8 : (8 : Int32).toInt = 8 := rfl
  have kz9 : (9 : Int32).toInt = 9 := rfl
  have kzm1 : ((-1) : Int32).toInt = (-1) := rfl
  have kzm2 : ((-2) : Int32).toInt = (-2) := rfl
  have kzm3 : ((-3) : Int32).toInt = (-3) := rfl
  refine qm_Rp.go 10 (c' := (18, [.ref 118, .int 1, .int y, .int 0, .int (-1)], [.ref 118, .int (-1)], h)) rfl ?_
  refine hp_getr rfl (hH.1 118 (17, 105) rfl) rfl (hH.2 118 86 (some 177) rfl) ?_
  refine qm_Rp.go 1 (c' := (22, [.ref 118, .int 1, .int y, .int 0, .int (-1)], [.int 0, .ref 177, .int (-1)], h)) rfl ?_
  refine hp_ial (v := sv) rfl (hH.1 177 (0, 2) rfl) q_sv (fun ia_0 ib_0 => ?_)
  refine qm_Rp.go 2 (c' := (25, [.ref 118, .int 1, .int y, .int 0, .int (-1)], [.int (sv - y), .int (-1)], h)) rfl ?_
  obtain ⟨v2, q_v2, e_v2⟩ := hk_sub (x := sv) (y := y) (a := sv.toInt) (b := y.toInt) rfl rfl (by omega) (by omega)
  rw [q_v2]
  refine qm_Rp.go 1 (c' := (26, [.ref 118, .int 1, .int y, .int 0, .int (-1)], [.int ((-1) * v2)], h)) rfl ?_
  obtain ⟨v3, q_v3, e_v3⟩ := hk_mul (x := (-1)) (y := v2) (a := (-1)) (b := v2.toInt) rfl rfl (by omega) (by omega)
  rw [q_v3]
  refine hp_zle (ix := v3.toInt) rfl rfl (fun z4 => ?_) (fun z4 => ?_)
  · refine qm_Rp.go 1 (c' := (63, [.ref 118, .int 1, .int y, .int 0, .int (-1)], [.int 0], h)) rfl ?_
    refine qm_Rp.rt (v := (some (.int 0))) (h' := h) rfl ?_
    exact k 0 (Or.inr ⟨rfl, fun z => by have z := jSd_1.mp z; rw [q_sv, q_hs] at z; omega⟩)
  · refine qm_Rp.go 1 (c' := (30, [.ref 118, .int 1, .int y, .int 0, .int (-1)], [.ref 118], h)) rfl ?_
    refine hp_getr rfl (hH.1 118 (17, 105) rfl) rfl (hH.2 118 87 (some 178) rfl) ?_
    refine qm_Rp.go 1 (c' := (34, [.ref 118, .int 1, .int y, .int 0, .int (-1)], [.int 0, .ref 178], h)) rfl ?_
    refine hp_ial (v := hs) rfl (hH.1 178 (0, 2) rfl) q_hs (fun ia_4 ib_4 => ?_)
    refine qm_Rp.go 1 (c' := (36, [.ref 118, .int 1, .int y, .int 0, .int (-1)], [.int (-1), .int hs], h)) rfl ?_
    refine hp_ceq (ix := hs.toInt) (iy := (-1)) rfl rfl rfl (fun z6 => ?_) (fun z6 => ?_)
    · refine qm_Rp.go 2 (c' := (63, [.ref 118, .int 1, .int y, .int 0, .int (-1)], [.int 1], h)) rfl ?_
      refine qm_Rp.rt (v := (some (.int 1))) (h' := h) rfl ?_
      exact k 1 (Or.inl ⟨rfl, jSd_1.mpr (by rw [q_sv, q_hs]; omega)⟩)
    · refine qm_Rp.go 2 (c' := (42, [.ref 118, .int 1, .int y, .int 0, .int (-1)], [.ref 118, .int (-1)], h)) rfl ?_
      refine hp_getr rfl (hH.1 118 (17, 105) rfl) rfl (hH.2 118 78 (some 170) rfl) ?_
      refine qm_Rp.go 1 (c' := (46, [.ref 118, .int 1, .int y, .int 0, .int (-1)], [.ref 118, .ref 170, .int (-1)], h)) rfl ?_
      refine hp_getr rfl (hH.1 118 (17, 105) rfl) rfl (hH.2 118 87 (some 178) rfl) ?_
      refine qm_Rp.go 1 (c' := (50, [.ref 118, .int 1, .int y, .int 0, .int (-1)], [.int 0, .ref 178, .ref 170, .int (-1)], h)) rfl ?_
      refine hp_ial (v := hs) rfl (hH.1 178 (0, 2) rfl) q_hs (fun ia_6 ib_6 => ?_)
      refine qm_Rp.go 0 (c' := (51, [.ref 118, .int 1, .int y, .int 0, .int (-1)], [.int hs, .ref 170, .int (-1)], h)) rfl ?_
      obtain ⟨v8, q_v8⟩ : ∃ v_, h.2.1 170 hs.toInt.toNat = v_ := ⟨_, rfl⟩
      have b_v8 : (0 : Int) ≤ v8.toInt ∧ v8.toInt ≤ 4 := by rw [← q_v8]; exact b170 (hs.toInt.toNat)
      refine hp_ial (v := v8) rfl (hH.1 170 (0, 40) rfl) q_v8 (fun ia_8 ib_8 => ?_)
      refine qm_Rp.go 2 (c' := (54, [.ref 118, .int 1, .int y, .int 0, .int (-1)], [.int (v8 - y), .int (-1)], h)) rfl ?_
      obtain ⟨v10, q_v10, e_v10⟩ := hk_sub (x := v8) (y := y) (a := v8.toInt) (b := y.toInt) rfl rfl (by omega) (by omega)
      rw [q_v10]
      refine qm_Rp.go 1 (c' := (55, [.ref 118, .int 1, .int y, .int 0, .int (-1)], [.int ((-1) * v10)], h)) rfl ?_
      obtain ⟨v11, q_v11, e_v11⟩ := hk_mul (x := (-1)) (y := v10) (a := (-1)) (b := v10.toInt) rfl rfl (by omega) (by omega)
      rw [q_v11]
      refine hp_zle (ix := v11.toInt) rfl rfl (fun z12 => ?_) (fun z12 => ?_)
      · refine qm_Rp.go 1 (c' := (63, [.ref 118, .int 1, .int y, .int 0, .int (-1)], [.int 0], h)) rfl ?_
        refine qm_Rp.rt (v := (some (.int 0))) (h' := h) rfl ?_
        exact k 0 (Or.inr ⟨rfl, fun z => by have z := jSd_1.mp z; rw [q_sv, q_hs, q_v8] at z; omega⟩)
      · refine qm_Rp.go 2 (c' := (63, [.ref 118, .int 1, .int y, .int 0, .int (-1)], [.int 1], h)) rfl ?_
        refine qm_Rp.rt (v := (some (.int 1))) (h' := h) rfl ?_
        exact k 1 (Or.inl ⟨rfl, jSd_1.mpr (by rw [q_sv, q_hs, q_v8]; omega)⟩)
set_option maxHeartbeats 20000000 in
theorem px_tkl1 {X : Option (Nat × (Nat → Int32))} {Z : Option Value → qm_H → Prop} {h : qm_H} (hH : hk_H h) {n sv hs : Int32} (q_n : h.2.1 118 75 = n) (b_n : 0 ≤ n.toInt ∧ n.toInt ≤ 40) (q_hc : h.2.1 178 1 = -1) (q_sv : h.2.1 177 0 = sv) (q_hs : h.2.1 178 0 = hs) (b_sv : -1 ≤ sv.toInt ∧ sv.toInt ≤ 4) (b170 : ∀ k, (0 : Int) ≤ (h.2.1 170 k).toInt ∧ (h.2.1 170 k).toInt ≤ 4) (k : Z none (h.1, jTk h.2.1 1, h.2.2.1, h.2.2.2)) : ∀ (fu : Nat) (q : Int32), (0 ≤ q.toInt ∧ q.toInt ≤ n.toInt) → (jFs (jFr h.2.1 1) (n.toInt.toNat - q.toInt.toNat) q.toInt.toNat = jNx h.2.1 1) → qm_Rp fu X cd_363 (2, [.ref 118, .int 1, .int q], [], h) Z := by
  intro fu
  induction fu using Nat.strongRecOn with
  | ind fu ih =>
    intro q b_q hF
    have kz0 : (0 : Int32).toInt = 0 := rfl
    have kz1 : (1 : Int32).toInt = 1 := rfl
    have kz2 : (2 : Int32).toInt = 2 := rfl
    have kz3 : (3 : Int32).toInt = 3 := rfl
    have kz4 : (4 : Int32).toInt = 4 := rfl
    have kz5 : (5 : Int32).toInt = 5 := rfl
    have kz6 : (6 : Int32).toInt = 6 := rfl
    have kz7 : (7 : Int32).toInt = 7 := rfl
    have kz8 : (8 : Int32).toInt = 8 := rfl
    have kz9 : (9 : Int32).toInt = 9 := rfl
    have kzm1 : ((-1) : Int32).toInt = (-1) := rfl
    have kzm2 : ((-2) : Int32).toInt = (-2) := rfl
    have kzm3 : ((-3) : Int32).toInt = (-3) := rfl
    refine qm_Rp.go1 1 (c' := (4, [.ref 118, .int 1, .int q], [.ref 118, .int q], h)) rfl (fun g hg => ?_)
    refine hp_geti (v := n) rfl (hH.1 118 (17, 105) rfl) rfl q_n ?_
    refine qm_Rp.go 0 (c' := (7, [.ref 118, .int 1, .int q], [.int n, .int q], h)) rfl ?_
    refine hp_cge (ix := q.toInt) (iy := n.toInt) rfl rfl rfl (fun z1 => ?_) (fun z1 => ?_)
    · refine qm_Rp.go 0 (c' := (90, [.ref 118, .int 1, .int q], [], h)) rfl ?_
      refine qm_Rp.rt (v := none) (h' := h) rfl ?_
      rw [show n.toInt.toNat - q.toInt.toNat = 0 by omega] at hF
      have hF : q.toInt.toNat = jNx h.2.1 1 := hF
      rw [jTk_0 (by rw [← hF, q_n]; omega)] at k
      exact k
    · refine qm_Rp.go 1 (c' := (11, [.ref 118, .int 1, .int q], [.ref 118], h)) rfl ?_
      refine hp_getr rfl (hH.1 118 (17, 105) rfl) rfl (hH.2 118 87 (some 178) rfl) ?_
      refine qm_Rp.go 1 (c' := (15, [.ref 118, .int 1, .int q], [.int 1, .ref 178], h)) rfl ?_
      refine hp_ial (v := (-1)) rfl (hH.1 178 (0, 2) rfl) q_hc (fun ia_1 ib_1 => ?_)
      refine qm_Rp.go 3 (c' := (21, [.ref 118, .int 1, .int q], [.ref 118], h)) rfl ?_
      refine hp_getr rfl (hH.1 118 (17, 105) rfl) rfl (hH.2 118 80 (some 172) rfl) ?_
      refine qm_Rp.go 1 (c' := (25, [.ref 118, .int 1, .int q], [.int q, .ref 172], h)) rfl ?_
      obtain ⟨v3, q_v3⟩ : ∃ v_, h.2.1 172 q.toInt.toNat = v_ := ⟨_, rfl⟩
      refine hp_ial (v := v3) rfl (hH.1 172 (0, 40) rfl) q_v3 (fun ia_3 ib_3 => ?_)
      refine qm_Rp.go 0 (c' := (26, [.ref 118, .int 1, .int q], [.int v3], h)) rfl ?_
      refine hp_zne (ix := v3.toInt) rfl rfl (fun z5 => ?_) (fun z5 => ?_)
      · refine qm_Rp.go 1 (c' := (87, [.ref 118, .int 1, .int (q + 1)], [], h)) rfl ?_
        obtain ⟨v6, q_v6, e_v6⟩ := hk_add (x := q) (y := 1) (a := q.toInt) (b := 1) rfl rfl (by omega) (by omega)
        rw [q_v6]
        refine qm_Rp.go 1 (c' := (2, [.ref 118, .int 1, .int v6], [], h)) rfl ?_
        have hF2 : jFs (jFr h.2.1 1) (n.toInt.toNat - v6.toInt.toNat) v6.toInt.toNat = jNx h.2.1 1 := by rw [← hF, show n.toInt.toNat - q.toInt.toNat = (n.toInt.toNat - v6.toInt.toNat) + 1 by omega, jFs_0 (fun z => by have z := z.1; rw [q_v3] at z; omega), show q.toInt.toNat + 1 = v6.toInt.toNat by omega]
        exact ih g hg v6 (by omega) hF2
      · refine qm_Rp.go 3 (c' := (32, [.ref 118, .int 1, .int q], [.ref 118, .int 1, .ref 118], h)) rfl ?_
        refine hp_getr rfl (hH.1 118 (17, 105) rfl) rfl (hH.2 118 78 (some 170) rfl) ?_
        refine qm_Rp.go 1 (c' := (36, [.ref 118, .int 1, .int q], [.int q, .ref 170, .int 1, .ref 118], h)) rfl ?_
        obtain ⟨v7, q_v7⟩ : ∃ v_, h.2.1 170 q.toInt.toNat = v_ := ⟨_, rfl⟩
        have b_v7 : (0 : Int) ≤ v7.toInt ∧ v7.toInt ≤ 4 := by rw [← q_v7]; exact b170 (q.toInt.toNat)
        refine hp_ial (v := v7) rfl (hH.1 170 (0, 40) rfl) q_v7 (fun ia_7 ib_7 => ?_)
        refine qm_Rp.go 0 (c' := (37, [.ref 118, .int 1, .int q], [.int v7, .int 1, .ref 118], h)) rfl ?_
        refine hp_inv (o := 118) (r := []) (as := [.ref 118, .int 1, .int v7]) rfl rfl (hH.1 118 (17, 105) rfl) rfl rfl rfl (px_own1 (h := h) hH q_sv q_hs b_sv b170 (y := v7) (by omega) (fun r9 hr => ?_))
        rcases hr with ⟨hr, hy⟩ | ⟨hr, hy⟩
        · obtain rfl : r9 = 1 := hk_eqi.mpr (hr.trans rfl)
          have y10 := hy
          refine qm_Rp.go 2 (c' := (47, [.ref 118, .int 1, .int q], [.ref 118], h)) rfl ?_
          refine hp_getr rfl (hH.1 118 (17, 105) rfl) rfl (hH.2 118 87 (some 178) rfl) ?_
          refine qm_Rp.go 2 (c' := (52, [.ref 118, .int 1, .int q], [.int q, .int 1, .ref 178], h)) rfl ?_
          refine hp_ias rfl (hH.1 178 (0, 2) rfl) (fun ia_10 ib_10 => ?_)
          refine qm_Rp.go 1 (c' := (54, [.ref 118, .int 1, .int q], [.ref 118], (h.1, qm_up h.2.1 178 1 q, h.2.2.1, h.2.2.2))) rfl ?_
          refine hp_getr rfl (hH.1 118 (17, 105) rfl) rfl (hH.2 118 88 (some 179) rfl) ?_
          refine qm_Rp.go 2 (c' := (59, [.ref 118, .int 1, .int q], [.int 0, .int 1, .ref 179], (h.1, qm_up h.2.1 178 1 q, h.2.2.1, h.2.2.2))) rfl ?_
          refine hp_ias rfl (hH.1 179 (0, 2) rfl) (fun ia_11 ib_11 => ?_)
          refine qm_Rp.go 1 (c' := (61, [.ref 118, .int 1, .int q], [.ref 118], (h.1, qm_up (qm_up h.2.1 178 1 q) 179 1 0, h.2.2.1, h.2.2.2))) rfl ?_
          refine hp_getr rfl (hH.1 118 (17, 105) rfl) rfl (hH.2 118 80 (some 172) rfl) ?_
          refine qm_Rp.go 2 (c' := (66, [.ref 118, .int 1, .int q], [.int 1, .int q, .ref 172], (h.1, qm_up (qm_up h.2.1 178 1 q) 179 1 0, h.2.2.1, h.2.2.2))) rfl ?_
          refine hp_ias rfl (hH.1 172 (0, 40) rfl) (fun ia_12 ib_12 => ?_)
          refine qm_Rp.go 1 (c' := (68, [.ref 118, .int 1, .int q], [.ref 118], (h.1, qm_up (qm_up (qm_up h.2.1 178 1 q) 179 1 0) 172 q.toInt.toNat 1, h.2.2.1, h.2.2.2))) rfl ?_
          refine hp_getr rfl (hH.1 118 (17, 105) rfl) rfl (hH.2 118 81 (some 173) rfl) ?_
          refine qm_Rp.go 2 (c' := (73, [.ref 118, .int 1, .int q], [.int 1, .int q, .ref 173], (h.1, qm_up (qm_up (qm_up h.2.1 178 1 q) 179 1 0) 172 q.toInt.toNat 1, h.2.2.1, h.2.2.2))) rfl ?_
          refine hp_ias rfl (hH.1 173 (0, 40) rfl) (fun ia_13 ib_13 => ?_)
          refine qm_Rp.go 1 (c' := (75, [.ref 118, .int 1, .int q], [.ref 118], (h.1, qm_up (qm_up (qm_up (qm_up h.2.1 178 1 q) 179 1 0) 172 q.toInt.toNat 1) 173 q.toInt.toNat 1, h.2.2.1, h.2.2.2))) rfl ?_
          refine hp_getr rfl (hH.1 118 (17, 105) rfl) rfl (hH.2 118 82 (some 174) rfl) ?_
          refine qm_Rp.go 2 (c' := (80, [.ref 118, .int 1, .int q], [.ref 118, .int q, .ref 174], (h.1, qm_up (qm_up (qm_up (qm_up h.2.1 178 1 q) 179 1 0) 172 q.toInt.toNat 1) 173 q.toInt.toNat 1, h.2.2.1, h.2.2.2))) rfl ?_
          obtain ⟨v15, q_v15⟩ : ∃ v_, h.2.1 118 85 = v_ := ⟨_, rfl⟩
          refine hp_geti (v := v15) rfl (hH.1 118 (17, 105) rfl) rfl (show (qm_up (qm_up (qm_up (qm_up h.2.1 178 1 q) 179 1 0) 172 q.toInt.toNat 1) 173 q.toInt.toNat 1) 118 85 = _ from ((hk_ot rfl).trans ((hk_ot rfl).trans ((hk_ot rfl).trans ((hk_ot rfl).trans q_v15))))) ?_
          refine qm_Rp.go 0 (c' := (83, [.ref 118, .int 1, .int q], [.int v15, .int q, .ref 174], (h.1, qm_up (qm_up (qm_up (qm_up h.2.1 178 1 q) 179 1 0) 172 q.toInt.toNat 1) 173 q.toInt.toNat 1, h.2.2.1, h.2.2.2))) rfl ?_
          refine hp_ias rfl (hH.1 174 (0, 40) rfl) (fun ia_15 ib_15 => ?_)
          refine qm_Rp.go 1 (c' := (87, [.ref 118, .int 1, .int (q + 1)], [], (h.1, qm_up (qm_up (qm_up (qm_up (qm_up h.2.1 178 1 q) 179 1 0) 172 q.toInt.toNat 1) 173 q.toInt.toNat 1) 174 q.toInt.toNat v15, h.2.2.1, h.2.2.2))) rfl ?_
          obtain ⟨v17, q_v17, e_v17⟩ := hk_add (x := q) (y := 1) (a := q.toInt) (b := 1) rfl rfl (by omega) (by omega)
          rw [q_v17]
          refine qm_Rp.go 1 (c' := (2, [.ref 118, .int 1, .int v17], [], (h.1, qm_up (qm_up (qm_up (qm_up (qm_up h.2.1 178 1 q) 179 1 0) 172 q.toInt.toNat 1) 173 q.toInt.toNat 1) 174 q.toInt.toNat v15, h.2.2.1, h.2.2.2))) rfl ?_
          refine qm_Rp.go 2 (c' := (4, [.ref 118, .int 1, .int v17], [.ref 118, .int v17], (h.1, qm_up (qm_up (qm_up (qm_up (qm_up h.2.1 178 1 q) 179 1 0) 172 q.toInt.toNat 1) 173 q.toInt.toNat 1) 174 q.toInt.toNat v15, h.2.2.1, h.2.2.2))) rfl ?_
          refine hp_geti (v := n) rfl (hH.1 118 (17, 105) rfl) rfl (show (qm_up (qm_up (qm_up (qm_up (qm_up h.2.1 178 1 q) 179 1 0) 172 q.toInt.toNat 1) 173 q.toInt.toNat 1) 174 q.toInt.toNat v15) 118 75 = _ from ((hk_ot rfl).trans ((hk_ot rfl).trans ((hk_ot rfl).trans ((hk_ot rfl).trans ((hk_ot rfl).trans q_n)))))) ?_
          refine qm_Rp.go 0 (c' := (7, [.ref 118, .int 1, .int v17], [.int n, .int v17], (h.1, qm_up (qm_up (qm_up (qm_up (qm_up h.2.1 178 1 q) 179 1 0) 172 q.toInt.toNat 1) 173 q.toInt.toNat 1) 174 q.toInt.toNat v15, h.2.2.1, h.2.2.2))) rfl ?_
          refine hp_cge (ix := v17.toInt) (iy := n.toInt) rfl rfl rfl (fun z18 => ?_) (fun z18 => ?_)
          · refine qm_Rp.go 0 (c' := (90, [.ref 118, .int 1, .int v17], [], (h.1, qm_up (qm_up (qm_up (qm_up (qm_up h.2.1 178 1 q) 179 1 0) 172 q.toInt.toNat 1) 173 q.toInt.toNat 1) 174 q.toInt.toNat v15, h.2.2.1, h.2.2.2))) rfl ?_
            refine qm_Rp.rt (v := none) (h' := (h.1, qm_up (qm_up (qm_up (qm_up (qm_up h.2.1 178 1 q) 179 1 0) 172 q.toInt.toNat 1) 173 q.toInt.toNat 1) 174 q.toInt.toNat v15, h.2.2.1, h.2.2.2)) rfl ?_
            have hnx : jNx h.2.1 1 = q.toInt.toNat := by rw [← hF, show n.toInt.toNat - q.toInt.toNat = (n.toInt.toNat - q.toInt.toNat - 1) + 1 by omega, jFs_1 ⟨by rw [q_v3]; omega, by rw [q_v7]; exact y10⟩]
            have e : jTk h.2.1 1 = qm_up (qm_up (qm_up (qm_up (qm_up h.2.1 178 1 q) 179 1 0) 172 q.toInt.toNat 1) 173 q.toInt.toNat 1) 174 q.toInt.toNat v15 := by
              rw [jTk_1 (by rw [hnx, q_n]; omega), hnx]
              unfold jT1
              rw [i32_n (by omega), q_v15, show Int32.ofInt ((1 : Nat) : Int) = 1 from by decide]
            rw [e] at k
            exact k
          · refine qm_Rp.go 1 (c' := (11, [.ref 118, .int 1, .int v17], [.ref 118], (h.1, qm_up (qm_up (qm_up (qm_up (qm_up h.2.1 178 1 q) 179 1 0) 172 q.toInt.toNat 1) 173 q.toInt.toNat 1) 174 q.toInt.toNat v15, h.2.2.1, h.2.2.2))) rfl ?_
            refine hp_getr rfl (hH.1 118 (17, 105) rfl) rfl (hH.2 118 87 (some 178) rfl) ?_
            refine qm_Rp.go 1 (c' := (15, [.ref 118, .int 1, .int v17], [.int 1, .ref 178], (h.1, qm_up (qm_up (qm_up (qm_up (qm_up h.2.1 178 1 q) 179 1 0) 172 q.toInt.toNat 1) 173 q.toInt.toNat 1) 174 q.toInt.toNat v15, h.2.2.1, h.2.2.2))) rfl ?_
            refine hp_ial (v := q) rfl (hH.1 178 (0, 2) rfl) (show (qm_up (qm_up (qm_up (qm_up (qm_up h.2.1 178 1 q) 179 1 0) 172 q.toInt.toNat 1) 173 q.toInt.toNat 1) 174 q.toInt.toNat v15) 178 1 = _ from ((hk_ot rfl).trans ((hk_ot rfl).trans ((hk_ot rfl).trans ((hk_ot rfl).trans (hk_same)))))) (fun ia_18 ib_18 => ?_)
            refine qm_Rp.go 1 (c' := (17, [.ref 118, .int 1, .int v17], [.int (-1), .int q], (h.1, qm_up (qm_up (qm_up (qm_up (qm_up h.2.1 178 1 q) 179 1 0) 172 q.toInt.toNat 1) 173 q.toInt.toNat 1) 174 q.toInt.toNat v15, h.2.2.1, h.2.2.2))) rfl ?_
            refine hp_cne (ix := q.toInt) (iy := (-1)) rfl rfl rfl (fun z20 => ?_) (fun z20 => by exfalso; omega)
            refine qm_Rp.go 0 (c' := (90, [.ref 118, .int 1, .int v17], [], (h.1, qm_up (qm_up (qm_up (qm_up (qm_up h.2.1 178 1 q) 179 1 0) 172 q.toInt.toNat 1) 173 q.toInt.toNat 1) 174 q.toInt.toNat v15, h.2.2.1, h.2.2.2))) rfl ?_
            refine qm_Rp.rt (v := none) (h' := (h.1, qm_up (qm_up (qm_up (qm_up (qm_up h.2.1 178 1 q) 179 1 0) 172 q.toInt.toNat 1) 173 q.toInt.toNat 1) 174 q.toInt.toNat v15, h.2.2.1, h.2.2.2)) rfl ?_
            have hnx : jNx h.2.1 1 = q.toInt.toNat := by rw [← hF, show n.toInt.toNat - q.toInt.toNat = (n.toInt.toNat - q.toInt.toNat - 1) + 1 by omega, jFs_1 ⟨by rw [q_v3]; omega, by rw [q_v7]; exact y10⟩]
            have e : jTk h.2.1 1 = qm_up (qm_up (qm_up (qm_up (qm_up h.2.1 178 1 q) 179 1 0) 172 q.toInt.toNat 1) 173 q.toInt.toNat 1) 174 q.toInt.toNat v15 := by
              rw [jTk_1 (by rw [hnx, q_n]; omega), hnx]
              unfold jT1
              rw [i32_n (by omega), q_v15, show Int32.ofInt ((1 : Nat) : Int) = 1 from by decide]
            rw [e] at k
            exact k
        · obtain rfl : r9 = 0 := hk_eqi.mpr (hr.trans rfl)
          have y21 := hy
          refine qm_Rp.go 3 (c' := (87, [.ref 118, .int 1, .int (q + 1)], [], h)) rfl ?_
          obtain ⟨v22, q_v22, e_v22⟩ := hk_add (x := q) (y := 1) (a := q.toInt) (b := 1) rfl rfl (by omega) (by omega)
          rw [q_v22]
          refine qm_Rp.go 1 (c' := (2, [.ref 118, .int 1, .int v22], [], h)) rfl ?_
          have hF2 : jFs (jFr h.2.1 1) (n.toInt.toNat - v22.toInt.toNat) v22.toInt.toNat = jNx h.2.1 1 := by rw [← hF, show n.toInt.toNat - q.toInt.toNat = (n.toInt.toNat - v22.toInt.toNat) + 1 by omega, jFs_0 (fun z => y21 (by have z := z.2; rw [q_v7] at z; exact z)), show q.toInt.toNat + 1 = v22.toInt.toNat by omega]
          exact ih g hg v22 (by omega) hF2
theorem px_tk1 {X : Option (Nat × (Nat → Int32))} {Z : Option Value → qm_H → Prop} {h : qm_H} {fu : Nat} (hH : hk_H h) {n sv hs : Int32} (q_n : h.2.1 118 75 = n) (b_n : 0 ≤ n.toInt ∧ n.toInt ≤ 40) (q_hc : h.2.1 178 1 = -1) (q_sv : h.2.1 177 0 = sv) (q_hs : h.2.1 178 0 = hs) (b_sv : -1 ≤ sv.toInt ∧ sv.toInt ≤ 4) (b170 : ∀ k, (0 : Int) ≤ (h.2.1 170 k).toInt ∧ (h.2.1 170 k).toInt ≤ 4) (k : Z none (h.1, jTk h.2.1 1, h.2.2.1, h.2.2.2)) : qm_Rp fu X cd_363 (qm_ent 3 [.ref 118, .int 1] h) Z := by
  refine qm_Rp.go 2 (c' := (2, [.ref 118, .int 1, .int 0], [], h)) rfl ?_
  exact px_tkl1 hH q_n b_n q_hc q_sv q_hs b_sv b170 k _ 0 ⟨by decide, b_n.1⟩ (by unfold jNx; rw [q_n]; rfl)
theorem jEq_tr {a b c : Nat → Nat → Int32} (h : jEq a b) (g : jEq b c) : jEq a c := ⟨fun o h1 h2 => (h.1 o h1 h2).trans (g.1 o h1 h2), fun f hf => (h.2 f hf).trans (g.2 f hf)⟩
theorem jEq_P {s : Nat} {A : Nat → Nat → Int} {K I : Nat → Nat → Int32} (h : jP s (A, K)) (e : jEq K I) : jP s (A, I) := ⟨h.1, h.2.1, h.2.2.1, jEq_I h.2.2.2.1 e, by show 0 ≤ (I 118 85).toInt; rw [← e.2 85 (by decide)]; exact h.2.2.2.2⟩
theorem zR_tk {A : Nat → Nat → Int} {I : Nat → Nat → Int32} {v : Int32} (hr : zR A I) : zR A (qm_up I 118 85 v) := zR_cg hr (fun o ho => Or.inr ⟨pI_sk ((show ∀ o ∈ [127, 128, 129, 131, 132, 146, 147, 148, 149, 150, 151, 152, 153, 154], Nat.beq o 118 = false from by decide) o ho), rfl⟩) (Or.inr ⟨hk_neq (by decide), rfl⟩) (Or.inr ⟨hk_neq (by decide), rfl⟩) ⟨hk_neq (by decide), rfl⟩
theorem jI_tk {K : Nat → Nat → Int32} {v : Int32} (h : jI K) : jI (qm_up K 118 85 v) := by
  unfold jI jCr jRw at h ⊢
  rw [up_o (show (177 : Nat) ≠ 118 by decide), up_o (show (178 : Nat) ≠ 118 by decide), up_o (show (179 : Nat) ≠ 118 by decide), up_o (show (172 : Nat) ≠ 118 by decide), up_o (show (170 : Nat) ≠ 118 by decide), up_o (show (168 : Nat) ≠ 118 by decide), up_o (show (169 : Nat) ≠ 118 by decide), up_o (show (173 : Nat) ≠ 118 by decide), up_o (show (175 : Nat) ≠ 118 by decide), show qm_up K 118 85 v 118 75 = K 118 75 from hk_neq (by decide)]
  exact h
theorem jTi_r {s : Nat} {p : (Nat → Nat → Int) × (Nat → Nat → Int32)} (h : jRs p.2) : jTi s p = jCk p := by
  unfold jTi
  rw [okb_t h]
  rfl
theorem jTi_w {s : Nat} {p : (Nat → Nat → Int) × (Nat → Nat → Int32)} (h : ¬ jRs p.2) : jTi s p = jCk (jSt s (jSt s p 0) 1) := by
  unfold jTi
  rw [okb_f h]
  rfl
theorem jCk_P {s : Nat} {p : (Nat → Nat → Int) × (Nat → Nat → Int32)} (h : jP s p) (ht : 0 ≤ (p.2 118 85 + 1).toInt) : jP s (jCk p) := ⟨h.1, h.2.1, h.2.2.1, jI_tk h.2.2.2.1, by
  show 0 ≤ (qm_up p.2 118 85 (p.2 118 85 + 1) 118 85).toInt
  rw [hk_same]
  exact ht⟩
theorem jTi_118 {s : Nat} {p : (Nat → Nat → Int) × (Nat → Nat → Int32)} : (jTi s p).2 118 85 = p.2 118 85 + 1 := by
  by_cases h : jRs p.2
  · rw [jTi_r h]
    show qm_up p.2 118 85 (p.2 118 85 + 1) 118 85 = _
    exact hk_same
  · rw [jTi_w h]
    show qm_up (jSt s (jSt s p 0) 1).2 118 85 ((jSt s (jSt s p 0) 1).2 118 85 + 1) 118 85 = _
    rw [hk_same, jSt_118, jSt_118]
theorem jTi_P {s : Nat} {p : (Nat → Nat → Int) × (Nat → Nat → Int32)} (h : jP s p) (ht : 0 ≤ (p.2 118 85 + 1).toInt) : jP s (jTi s p) := by
  by_cases q : jRs p.2
  · rw [jTi_r q]
    exact jCk_P h ht
  · rw [jTi_w q]
    exact jCk_P (jSt_P (by decide) (jSt_P (by decide) h)) (by rw [jSt_118, jSt_118]; exact ht)
/-- work: so many ticks, if they may be -/
noncomputable def jWk (s : Nat) (p : (Nat → Nat → Int) × (Nat → Nat → Int32)) (n : Int32) : (Nat → Nat → Int) × (Nat → Nat → Int32) := bif okb (0 ≤ n.toInt ∧ n.toInt ≤ 200) then jRn s n.toInt.toNat p else p
theorem jWk_1 {s : Nat} {p : (Nat → Nat → Int) × (Nat → Nat → Int32)} {n : Int32} (h : 0 ≤ n.toInt ∧ n.toInt ≤ 200) : jWk s p n = jRn s n.toInt.toNat p := by
  unfold jWk
  rw [okb_t h]
  rfl
theorem jWk_0 {s : Nat} {p : (Nat → Nat → Int) × (Nat → Nat → Int32)} {n : Int32} (h : ¬ (0 ≤ n.toInt ∧ n.toInt ≤ 200)) : jWk s p n = p := by
  unfold jWk
  rw [okb_f h]
  rfl
theorem jRn_P {s : Nat} : ∀ {m : Nat} {p : (Nat → Nat → Int) × (Nat → Nat → Int32)}, jP s p → (p.2 118 85).toInt + (m : Int) ≤ 2000000000 → jP s (jRn s m p) ∧ ((jRn s m p).2 118 85).toInt = (p.2 118 85).toInt + (m : Int)
  | 0, p, h, _ => ⟨h, by show (p.2 118 85).toInt = (p.2 118 85).toInt + ((0 : Nat) : Int); omega⟩
  | m + 1, p, h, ht => by
    have t0 := h.2.2.2.2
    obtain ⟨z, z1, z2⟩ := hk_add (x := p.2 118 85) (y := 1) (a := (p.2 118 85).toInt) (b := 1) rfl rfl (by omega) (by omega)
    have e : ((jTi s p).2 118 85).toInt = (p.2 118 85).toInt + 1 := by
      rw [jTi_118, z1, z2]
    have ih := jRn_P (s := s) (m := m) (p := jTi s p) (jTi_P h (by rw [z1]; omega)) (by omega)
    refine ⟨ih.1, ?_⟩
    show ((jRn s m (jTi s p)).2 118 85).toInt = _
    omega
theorem mi_1 {a b d : Int32} : a + b - d + 1 = a + 1 + b - d := by
  rw [Int32.sub_eq_add_neg, Int32.sub_eq_add_neg]
  ac_rfl
theorem mi_2 {a b d : Int32} : a + b - d + 1 = a + (b + 1) - d := by
  rw [Int32.sub_eq_add_neg, Int32.sub_eq_add_neg]
  ac_rfl
theorem px_wrest00 {X : Option (Nat × (Nat → Int32))} {Z : Option Value → qm_H → Prop} {h : qm_H} {fu : Nat} (hH : hk_H h) {A : Nat → Nat → Int} (hP : jP 0 (A, h.2.1)) (hr : zR A h.2.1) {hv : Int32} (q_hv : h.2.1 178 0 = hv) (b_hv : -1 ≤ hv.toInt ∧ hv.toInt ≤ 39) (b170 : ∀ k, (0 : Int) ≤ (h.2.1 170 k).toInt ∧ (h.2.1 170 k).toInt ≤ 4) (b177 : ∀ d : Nat, d < 2 → -1 ≤ (h.2.1 177 d).toInt ∧ (h.2.1 177 d).toInt ≤ 4) (b179 : 0 ≤ (h.2.1 179 0).toInt ∧ (h.2.1 179 0).toInt ≤ 1) (k : ∀ (I : Nat → Nat → Int32) (v : Int32), (∀ o, [150, 151, 152, 153, 154, 155, 156, 172, 173, 174, 175, 176, 177, 178, 179, 180, 181].contains o = false → ∀ i, I o i = h.2.1 o i) → zR (jGo 0 A h.2.1 0).1 I → jEq (jGo 0 A h.2.1 0).2 I → (v.toInt = 1 ∧ I 181 0 = h.2.1 181 0 + 1 ∧ I 181 1 = h.2.1 181 1 ∨ v.toInt = 0 ∧ ∀ i, I 181 i = h.2.1 181 i) → Z (some (.int v)) (h.1, I, h.2.2.1, h.2.2.2)) : qm_Rp fu X cd_362 (15, [.ref 118, .int 0, .float 0, .float 0], [], h) Z := by
  have kz0 : (0 : Int32).toInt = 0 := rfl
  have kz1 : (1 : Int32).toInt = 1 := rfl
  have kz2 : (2 : Int32).toInt = 2 := rfl
  have kz3 : (3 : Int32).toInt = 3 := rfl
  have kz4 : (4 : Int32).toInt = 4 := rfl
  have kz5 : (5 : Int32).toInt = 5 := rfl
  have kz6 : (6 : Int32).toInt = 6 := rfl
  have kz7 : (7 : Int32).toInt = 7 := rfl
  have kz8 : (8 : Int32).toInt = 8 := rfl
  have kz9 : (9 : Int32).toInt = 9 := rfl
  have kzm1 : ((-1) : Int32).toInt = (-1) := rfl
  have kzm2 : ((-2) : Int32).toInt = (-2) := rfl
  have kzm3 : ((-3) : Int32).toInt = (-3) := rfl
  refine qm_Rp.go 1 (c' := (16, [.ref 118, .int 0, .float 0, .float 0], [.ref 118], h)) rfl ?_
  refine hp_getr rfl (hH.1 118 (17, 105) rfl) rfl (hH.2 118 87 (some 178) rfl) ?_
  refine qm_Rp.go 1 (c' := (20, [.ref 118, .int 0, .float 0, .float 0], [.int 0, .ref 178], h)) rfl ?_
  refine hp_ial (v := hv) rfl (hH.1 178 (0, 2) rfl) q_hv (fun ia_0 ib_0 => ?_)
  refine qm_Rp.go 1 (c' := (22, [.ref 118, .int 0, .float 0, .float 0], [.int (-1), .int hv], h)) rfl ?_
  refine hp_cne (ix := hv.toInt) (iy := (-1)) rfl rfl rfl (fun z2 => ?_) (fun z2 => ?_)
  · refine qm_Rp.go 1 (c' := (28, [.ref 118, .int 0, .float 0, .float 0], [.ref 118], h)) rfl ?_
    refine hp_getr rfl (hH.1 118 (17, 105) rfl) rfl (hH.2 118 87 (some 178) rfl) ?_
    refine qm_Rp.go 1 (c' := (32, [.ref 118, .int 0, .float 0, .float 0], [.int 0, .ref 178], h)) rfl ?_
    refine hp_ial (v := hv) rfl (hH.1 178 (0, 2) rfl) q_hv (fun ia_2 ib_2 => ?_)
    refine qm_Rp.go 2 (c' := (35, [.ref 118, .int 0, .int hv, .float 0], [.ref 118], h)) rfl ?_
    refine hp_getr rfl (hH.1 118 (17, 105) rfl) rfl (hH.2 118 86 (some 177) rfl) ?_
    refine qm_Rp.go 1 (c' := (39, [.ref 118, .int 0, .int hv, .float 0], [.int 0, .ref 177], h)) rfl ?_
    obtain ⟨v4, q_v4⟩ : ∃ v_, h.2.1 177 0 = v_ := ⟨_, rfl⟩
    have b_v4 : (-1 : Int) ≤ v4.toInt ∧ v4.toInt ≤ 4 := by rw [← q_v4]; exact b177 0 (by decide)
    refine hp_ial (v := v4) rfl (hH.1 177 (0, 2) rfl) q_v4 (fun ia_4 ib_4 => ?_)
    refine qm_Rp.go 1 (c' := (41, [.ref 118, .int 0, .int hv, .float 0], [.ref 118, .int v4], h)) rfl ?_
    refine hp_getr rfl (hH.1 118 (17, 105) rfl) rfl (hH.2 118 78 (some 170) rfl) ?_
    refine qm_Rp.go 1 (c' := (45, [.ref 118, .int 0, .int hv, .float 0], [.int hv, .ref 170, .int v4], h)) rfl ?_
    obtain ⟨v6, q_v6⟩ : ∃ v_, h.2.1 170 hv.toInt.toNat = v_ := ⟨_, rfl⟩
    have b_v6 : (0 : Int) ≤ v6.toInt ∧ v6.toInt ≤ 4 := by rw [← q_v6]; exact b170 (hv.toInt.toNat)
    refine hp_ial (v := v6) rfl (hH.1 170 (0, 40) rfl) q_v6 (fun ia_6 ib_6 => ?_)
    refine qm_Rp.go 0 (c' := (46, [.ref 118, .int 0, .int hv, .float 0], [.int v6, .int v4], h)) rfl ?_
    refine hp_ceq (ix := v4.toInt) (iy := v6.toInt) rfl rfl rfl (fun z8 => ?_) (fun z8 => ?_)
    · refine qm_Rp.go 1 (c' := (118, [.ref 118, .int 0, .int hv, .float 0], [.ref 118], h)) rfl ?_
      obtain ⟨v9, q_v9⟩ : ∃ v_, h.2.1 118 85 = v_ := ⟨_, rfl⟩
      refine hp_geti (v := v9) rfl (hH.1 118 (17, 105) rfl) rfl q_v9 ?_
      refine qm_Rp.go 1 (c' := (122, [.ref 118, .int 0, .int hv, .float 0], [.ref 118, .int v9], h)) rfl ?_
      obtain ⟨v10, q_v10⟩ : ∃ v_, h.2.1 118 91 = v_ := ⟨_, rfl⟩
      refine hp_geti (v := v10) rfl (hH.1 118 (17, 105) rfl) rfl q_v10 ?_
      refine qm_Rp.go 1 (c' := (126, [.ref 118, .int 0, .int hv, .float 0], [.ref 118, .int v10, .int v9], h)) rfl ?_
      obtain ⟨v11, q_v11⟩ : ∃ v_, h.2.1 118 92 = v_ := ⟨_, rfl⟩
      refine hp_geti (v := v11) rfl (hH.1 118 (17, 105) rfl) rfl q_v11 ?_
      refine qm_Rp.go 0 (c' := (129, [.ref 118, .int 0, .int hv, .float 0], [.int v11, .int v10, .int v9], h)) rfl ?_
      refine qm_Rp.call (j := 270) (as := [.int v9, .int v10, .int v11]) (c' := (132, [.ref 118, .int 0, .int hv, .float 0], [], h)) rfl rfl ?_
      refine qm_Rp.go 2 (c' := (2, [.int v9, .int v10, .int v11], [.int v10, .int v9], h)) rfl ?_
      refine hp_clt (ix := v9.toInt) (iy := v10.toInt) rfl rfl rfl (fun z12 => ?_) (fun z12 => ?_)
      · refine qm_Rp.go 1 (c' := (15, [.int v9, .int v10, .int v11], [.int 0], h)) rfl ?_
        refine qm_Rp.rt (v := (some (.int 0))) (h' := h) rfl ?_
        refine qm_Rp.go 2 (c' := (138, [.ref 118, .int 0, .int hv, .float 0], [.ref 118], h)) rfl ?_
        refine hp_getr rfl (hH.1 118 (17, 105) rfl) rfl (hH.2 118 88 (some 179) rfl) ?_
        refine qm_Rp.go 2 (c' := (143, [.ref 118, .int 0, .int hv, .float 0], [.int 0, .ref 179, .int 0, .ref 179], h)) rfl ?_
        obtain ⟨v13, q_v13⟩ : ∃ v_, h.2.1 179 0 = v_ := ⟨_, rfl⟩
        have b_v13 : (0 : Int) ≤ v13.toInt ∧ v13.toInt ≤ 1 := by rw [← q_v13]; exact b179
        refine hp_ial (v := v13) rfl (hH.1 179 (0, 2) rfl) q_v13 (fun ia_13 ib_13 => ?_)
        refine qm_Rp.go 2 (c' := (146, [.ref 118, .int 0, .int hv, .float 0], [.int (v13 + 1), .int 0, .ref 179], h)) rfl ?_
        obtain ⟨v15, q_v15, e_v15⟩ := hk_add (x := v13) (y := 1) (a := v13.toInt) (b := 1) rfl rfl (by omega) (by omega)
        rw [q_v15]
        refine hp_ias rfl (hH.1 179 (0, 2) rfl) (fun ia_15 ib_15 => ?_)
        refine qm_Rp.go 1 (c' := (148, [.ref 118, .int 0, .int hv, .float 0], [.ref 118], (h.1, qm_up h.2.1 179 0 v15, h.2.2.1, h.2.2.2))) rfl ?_
        refine hp_getr rfl (hH.1 118 (17, 105) rfl) rfl (hH.2 118 88 (some 179) rfl) ?_
        refine qm_Rp.go 1 (c' := (152, [.ref 118, .int 0, .int hv, .float 0], [.int 0, .ref 179], (h.1, qm_up h.2.1 179 0 v15, h.2.2.1, h.2.2.2))) rfl ?_
        refine hp_ial (v := v15) rfl (hH.1 179 (0, 2) rfl) (show (qm_up h.2.1 179 0 v15) 179 0 = _ from (hk_same)) (fun ia_16 ib_16 => ?_)
        refine qm_Rp.go 1 (c' := (154, [.ref 118, .int 0, .int hv, .float 0], [.int 2, .int v15], (h.1, qm_up h.2.1 179 0 v15, h.2.2.1, h.2.2.2))) rfl ?_
        refine hp_cge (ix := v15.toInt) (iy := 2) rfl rfl rfl (fun z18 => ?_) (fun z18 => ?_)
        · refine qm_Rp.go 1 (c' := (160, [.ref 118, .int 0, .int hv, .float 0], [.ref 118], (h.1, qm_up h.2.1 179 0 v15, h.2.2.1, h.2.2.2))) rfl ?_
          refine hp_getr rfl (hH.1 118 (17, 105) rfl) rfl (hH.2 118 84 (some 176) rfl) ?_
          refine qm_Rp.go 2 (c' := (165, [.ref 118, .int 0, .int hv, .float 0], [.ref 118, .int hv, .ref 176], (h.1, qm_up h.2.1 179 0 v15, h.2.2.1, h.2.2.2))) rfl ?_
          refine hp_getr rfl (hH.1 118 (17, 105) rfl) rfl (hH.2 118 76 (some 168) rfl) ?_
          refine qm_Rp.go 1 (c' := (169, [.ref 118, .int 0, .int hv, .float 0], [.int hv, .ref 168, .int hv, .ref 176], (h.1, qm_up h.2.1 179 0 v15, h.2.2.1, h.2.2.2))) rfl ?_
          obtain ⟨v19, q_v19⟩ : ∃ v_, h.2.1 168 hv.toInt.toNat = v_ := ⟨_, rfl⟩
          refine hp_ial (v := v19) rfl (hH.1 168 (0, 40) rfl) (show (qm_up h.2.1 179 0 v15) 168 hv.toInt.toNat = _ from ((hk_ot rfl).trans q_v19)) (fun ia_19 ib_19 => ?_)
          refine qm_Rp.go 0 (c' := (170, [.ref 118, .int 0, .int hv, .float 0], [.int v19, .int hv, .ref 176], (h.1, qm_up h.2.1 179 0 v15, h.2.2.1, h.2.2.2))) rfl ?_
          refine hp_zne (ix := v19.toInt) rfl rfl (fun z21 => ?_) (fun z21 => ?_)
          · refine qm_Rp.go 2 (c' := (200, [.ref 118, .int 0, .int hv, .float 0], [.ref 118, .ref 118, .int hv, .ref 176], (h.1, qm_up h.2.1 179 0 v15, h.2.2.1, h.2.2.2))) rfl ?_
            refine hp_getr rfl (hH.1 118 (17, 105) rfl) rfl (hH.2 118 78 (some 170) rfl) ?_
            refine qm_Rp.go 1 (c' := (204, [.ref 118, .int 0, .int hv, .float 0], [.int hv, .ref 170, .ref 118, .int hv, .ref 176], (h.1, qm_up h.2.1 179 0 v15, h.2.2.1, h.2.2.2))) rfl ?_
            refine hp_ial (v := v6) rfl (hH.1 170 (0, 40) rfl) (show (qm_up h.2.1 179 0 v15) 170 hv.toInt.toNat = _ from ((hk_ot rfl).trans q_v6)) (fun ia_21 ib_21 => ?_)
            refine qm_Rp.go 1 (c' := (206, [.ref 118, .int 0, .int hv, .float 0], [.ref 118, .int v6, .ref 118, .int hv, .ref 176], (h.1, qm_up h.2.1 179 0 v15, h.2.2.1, h.2.2.2))) rfl ?_
            refine hp_getr rfl (hH.1 118 (17, 105) rfl) rfl (hH.2 118 79 (some 171) rfl) ?_
            refine qm_Rp.go 1 (c' := (210, [.ref 118, .int 0, .int hv, .float 0], [.int hv, .ref 171, .int v6, .ref 118, .int hv, .ref 176], (h.1, qm_up h.2.1 179 0 v15, h.2.2.1, h.2.2.2))) rfl ?_
            obtain ⟨v23, q_v23⟩ : ∃ v_, h.2.1 171 hv.toInt.toNat = v_ := ⟨_, rfl⟩
            refine hp_ial (v := v23) rfl (hH.1 171 (0, 40) rfl) (show (qm_up h.2.1 179 0 v15) 171 hv.toInt.toNat = _ from ((hk_ot rfl).trans q_v23)) (fun ia_23 ib_23 => ?_)
            refine qm_Rp.go 1 (c' := (212, [.ref 118, .int 0, .int hv, .float 0], [.ref 118, .int v23, .int v6, .ref 118, .int hv, .ref 176], (h.1, qm_up h.2.1 179 0 v15, h.2.2.1, h.2.2.2))) rfl ?_
            refine hp_getr rfl (hH.1 118 (17, 105) rfl) rfl (hH.2 118 77 (some 169) rfl) ?_
            refine qm_Rp.go 1 (c' := (216, [.ref 118, .int 0, .int hv, .float 0], [.int hv, .ref 169, .int v23, .int v6, .ref 118, .int hv, .ref 176], (h.1, qm_up h.2.1 179 0 v15, h.2.2.1, h.2.2.2))) rfl ?_
            obtain ⟨v25, q_v25⟩ : ∃ v_, h.2.1 169 hv.toInt.toNat = v_ := ⟨_, rfl⟩
            refine hp_ial (v := v25) rfl (hH.1 169 (0, 40) rfl) (show (qm_up h.2.1 179 0 v15) 169 hv.toInt.toNat = _ from ((hk_ot rfl).trans q_v25)) (fun ia_25 ib_25 => ?_)
            refine qm_Rp.go 0 (c' := (217, [.ref 118, .int 0, .int hv, .float 0], [.int v25, .int v23, .int v6, .ref 118, .int hv, .ref 176], (h.1, qm_up h.2.1 179 0 v15, h.2.2.1, h.2.2.2))) rfl ?_
            refine hp_inv (o := 118) (r := [.int hv, .ref 176]) (as := [.ref 118, .int v6, .int v23, .int v25]) rfl rfl (hH.1 118 (17, 105) rfl) rfl rfl rfl (pz_runl0 (h := (h.1, qm_up h.2.1 179 0 v15, h.2.2.1, h.2.2.2)) hH hP.1 (zR_j hr (fun o ho i => ((hk_mod ho rfl).trans rfl))) hP.2.2.1 (fun I27 v28 f_I27 zr_I27 e_v28 => ?_))
            have f_I27 : ∀ o, [150, 151, 152, 153, 154, 155, 156].contains o = false → ∀ i, I27 o i = (qm_up h.2.1 179 0 v15) o i := f_I27
            refine qm_Rp.go 0 (c' := (220, [.ref 118, .int 0, .int hv, .float 0], [.int v28, .int hv, .ref 176], (h.1, I27, h.2.2.1, h.2.2.2))) rfl ?_
            refine hp_ias rfl (hH.1 176 (0, 40) rfl) (fun ia_28 ib_28 => ?_)
            refine qm_Rp.go 1 (c' := (222, [.ref 118, .int 0, .int hv, .float 0], [.ref 118], (h.1, qm_up I27 176 hv.toInt.toNat v28, h.2.2.1, h.2.2.2))) rfl ?_
            refine hp_getr rfl (hH.1 118 (17, 105) rfl) rfl (hH.2 118 80 (some 172) rfl) ?_
            refine qm_Rp.go 2 (c' := (227, [.ref 118, .int 0, .int hv, .float 0], [.int 2, .int hv, .ref 172], (h.1, qm_up I27 176 hv.toInt.toNat v28, h.2.2.1, h.2.2.2))) rfl ?_
            refine hp_ias rfl (hH.1 172 (0, 40) rfl) (fun ia_29 ib_29 => ?_)
            refine qm_Rp.go 1 (c' := (229, [.ref 118, .int 0, .int hv, .float 0], [.ref 118], (h.1, qm_up (qm_up I27 176 hv.toInt.toNat v28) 172 hv.toInt.toNat 2, h.2.2.1, h.2.2.2))) rfl ?_
            refine hp_getr rfl (hH.1 118 (17, 105) rfl) rfl (hH.2 118 83 (some 175) rfl) ?_
            refine qm_Rp.go 2 (c' := (234, [.ref 118, .int 0, .int hv, .float 0], [.ref 118, .int hv, .ref 175], (h.1, qm_up (qm_up I27 176 hv.toInt.toNat v28) 172 hv.toInt.toNat 2, h.2.2.1, h.2.2.2))) rfl ?_
            refine hp_geti (v := v9) rfl (hH.1 118 (17, 105) rfl) rfl (show (qm_up (qm_up I27 176 hv.toInt.toNat v28) 172 hv.toInt.toNat 2) 118 85 = _ from ((hk_ot rfl).trans ((hk_ot rfl).trans ((f_I27 118 rfl 85).trans ((hk_ot rfl).trans q_v9))))) ?_
            refine qm_Rp.go 0 (c' := (237, [.ref 118, .int 0, .int hv, .float 0], [.int v9, .int hv, .ref 175], (h.1, qm_up (qm_up I27 176 hv.toInt.toNat v28) 172 hv.toInt.toNat 2, h.2.2.1, h.2.2.2))) rfl ?_
            refine hp_ias rfl (hH.1 175 (0, 40) rfl) (fun ia_30 ib_30 => ?_)
            refine qm_Rp.go 1 (c' := (239, [.ref 118, .int 0, .int hv, .float 0], [.ref 118], (h.1, qm_up (qm_up (qm_up I27 176 hv.toInt.toNat v28) 172 hv.toInt.toNat 2) 175 hv.toInt.toNat v9, h.2.2.1, h.2.2.2))) rfl ?_
            refine hp_getr rfl (hH.1 118 (17, 105) rfl) rfl (hH.2 118 87 (some 178) rfl) ?_
            refine qm_Rp.go 2 (c' := (244, [.ref 118, .int 0, .int hv, .float 0], [.int (-1), .int 0, .ref 178], (h.1, qm_up (qm_up (qm_up I27 176 hv.toInt.toNat v28) 172 hv.toInt.toNat 2) 175 hv.toInt.toNat v9, h.2.2.1, h.2.2.2))) rfl ?_
            refine hp_ias rfl (hH.1 178 (0, 2) rfl) (fun ia_31 ib_31 => ?_)
            refine qm_Rp.go 1 (c' := (246, [.ref 118, .int 0, .int hv, .float 0], [.ref 118], (h.1, qm_up (qm_up (qm_up (qm_up I27 176 hv.toInt.toNat v28) 172 hv.toInt.toNat 2) 175 hv.toInt.toNat v9) 178 0 (-1), h.2.2.1, h.2.2.2))) rfl ?_
            refine hp_getr rfl (hH.1 118 (17, 105) rfl) rfl (hH.2 118 88 (some 179) rfl) ?_
            refine qm_Rp.go 2 (c' := (251, [.ref 118, .int 0, .int hv, .float 0], [.int 0, .int 0, .ref 179], (h.1, qm_up (qm_up (qm_up (qm_up I27 176 hv.toInt.toNat v28) 172 hv.toInt.toNat 2) 175 hv.toInt.toNat v9) 178 0 (-1), h.2.2.1, h.2.2.2))) rfl ?_
            refine hp_ias rfl (hH.1 179 (0, 2) rfl) (fun ia_32 ib_32 => ?_)
            refine qm_Rp.go 1 (c' := (253, [.ref 118, .int 0, .int hv, .float 0], [.ref 118], (h.1, qm_up (qm_up (qm_up (qm_up (qm_up I27 176 hv.toInt.toNat v28) 172 hv.toInt.toNat 2) 175 hv.toInt.toNat v9) 178 0 (-1)) 179 0 0, h.2.2.1, h.2.2.2))) rfl ?_
            refine hp_getr rfl (hH.1 118 (17, 105) rfl) rfl (hH.2 118 90 (some 181) rfl) ?_
            refine qm_Rp.go 2 (c' := (258, [.ref 118, .int 0, .int hv, .float 0], [.int 0, .ref 181, .int 0, .ref 181], (h.1, qm_up (qm_up (qm_up (qm_up (qm_up I27 176 hv.toInt.toNat v28) 172 hv.toInt.toNat 2) 175 hv.toInt.toNat v9) 178 0 (-1)) 179 0 0, h.2.2.1, h.2.2.2))) rfl ?_
            obtain ⟨v34, q_v34⟩ : ∃ v_, h.2.1 181 0 = v_ := ⟨_, rfl⟩
            refine hp_ial (v := v34) rfl (hH.1 181 (0, 2) rfl) (show (qm_up (qm_up (qm_up (qm_up (qm_up I27 176 hv.toInt.toNat v28) 172 hv.toInt.toNat 2) 175 hv.toInt.toNat v9) 178 0 (-1)) 179 0 0) 181 0 = _ from ((hk_ot rfl).trans ((hk_ot rfl).trans ((hk_ot rfl).trans ((hk_ot rfl).trans ((hk_ot rfl).trans ((f_I27 181 rfl 0).trans ((hk_ot rfl).trans q_v34)))))))) (fun ia_34 ib_34 => ?_)
            refine qm_Rp.go 2 (c' := (261, [.ref 118, .int 0, .int hv, .float 0], [.int (v34 + 1), .int 0, .ref 181], (h.1, qm_up (qm_up (qm_up (qm_up (qm_up I27 176 hv.toInt.toNat v28) 172 hv.toInt.toNat 2) 175 hv.toInt.toNat v9) 178 0 (-1)) 179 0 0, h.2.2.1, h.2.2.2))) rfl ?_
            obtain ⟨v36, q_v36⟩ : ∃ v_, (v34 + 1) = v_ := ⟨_, rfl⟩
            rw [q_v36]
            refine hp_ias rfl (hH.1 181 (0, 2) rfl) (fun ia_36 ib_36 => ?_)
            refine qm_Rp.go 1 (c' := (263, [.ref 118, .int 0, .int hv, .float 0], [.int 1], (h.1, qm_up (qm_up (qm_up (qm_up (qm_up (qm_up I27 176 hv.toInt.toNat v28) 172 hv.toInt.toNat 2) 175 hv.toInt.toNat v9) 178 0 (-1)) 179 0 0) 181 0 v36, h.2.2.1, h.2.2.2))) rfl ?_
            refine qm_Rp.rt (v := (some (.int 1))) (h' := (h.1, qm_up (qm_up (qm_up (qm_up (qm_up (qm_up I27 176 hv.toInt.toNat v28) 172 hv.toInt.toNat 2) 175 hv.toInt.toNat v9) 178 0 (-1)) 179 0 0) 181 0 v36, h.2.2.1, h.2.2.2)) rfl ?_
            have e := jGo_f (s := 0) (A := A) (K := h.2.1) (c := 0) (by rw [q_hv]; omega) (by rw [q_v4, q_hv, q_v6]; exact hk_eqi.mpr (by omega)) (fun z => by unfold jWn at z; rw [q_v10, q_v9, q_v11] at z; omega) (by rw [q_v13, q_v15]; omega)
            have eR : jRe 0 A h.2.1 hv.toInt.toNat = v28.toInt := by unfold jRe; rw [q_v19, q_v25, q_v6, q_v23, okb_f (show ¬ v19.toInt = 0 by omega)]; exact e_v28.symm
            have eS : zR (jSh 0 A h.2.1 hv.toInt.toNat) I27 := by unfold jSh; rw [q_v19, q_v25, q_v6, q_v23, okb_f (show ¬ v19.toInt = 0 by omega)]; exact zr_I27
            rw [q_hv, eR, Int32.ofInt_toInt] at e
            have e2 : jEq (jFi h.2.1 0 hv.toInt.toNat v28) (qm_up (qm_up (qm_up (qm_up (qm_up (qm_up I27 176 hv.toInt.toNat v28) 172 hv.toInt.toNat 2) 175 hv.toInt.toNat v9) 178 0 (-1)) 179 0 0) 181 0 v36) := by
              unfold jFi
              rw [q_v13, q_v15, q_v9, q_v34, q_v36]
              exact jEq_up (jEq_up (jEq_up (jEq_up (jEq_up (jEq_up (jEq_fr jEq_rf f_I27 (by decide)))))))
            refine k (qm_up (qm_up (qm_up (qm_up (qm_up (qm_up I27 176 hv.toInt.toNat v28) 172 hv.toInt.toNat 2) 175 hv.toInt.toNat v9) 178 0 (-1)) 179 0 0) 181 0 v36) 1 (fun o ho i => ((hk_mod ho rfl).trans ((hk_mod ho rfl).trans ((hk_mod ho rfl).trans ((hk_mod ho rfl).trans ((hk_mod ho rfl).trans ((hk_mod ho rfl).trans ((f_I27 o (hk_ms rfl ho) i).trans ((hk_mod ho rfl).trans rfl))))))))) (by rw [e]; exact zR_j eS (fun o ho i => ((hk_mod ho rfl).trans ((hk_mod ho rfl).trans ((hk_mod ho rfl).trans ((hk_mod ho rfl).trans ((hk_mod ho rfl).trans ((hk_mod ho rfl).trans rfl)))))))) (by rw [e]; exact e2) (Or.inl ⟨rfl, ?_, ?_⟩)
            · rw [q_v34, q_v36]; exact hk_same
            · exact ((hk_neq (by decide)).trans ((hk_ot rfl).trans ((hk_ot rfl).trans ((hk_ot rfl).trans ((hk_ot rfl).trans ((hk_ot rfl).trans ((f_I27 181 rfl 1).trans ((hk_ot rfl).trans rfl))))))))
          · refine qm_Rp.go 2 (c' := (175, [.ref 118, .int 0, .int hv, .float 0], [.ref 118, .ref 118, .int hv, .ref 176], (h.1, qm_up h.2.1 179 0 v15, h.2.2.1, h.2.2.2))) rfl ?_
            refine hp_getr rfl (hH.1 118 (17, 105) rfl) rfl (hH.2 118 77 (some 169) rfl) ?_
            refine qm_Rp.go 1 (c' := (179, [.ref 118, .int 0, .int hv, .float 0], [.int hv, .ref 169, .ref 118, .int hv, .ref 176], (h.1, qm_up h.2.1 179 0 v15, h.2.2.1, h.2.2.2))) rfl ?_
            obtain ⟨v38, q_v38⟩ : ∃ v_, h.2.1 169 hv.toInt.toNat = v_ := ⟨_, rfl⟩
            refine hp_ial (v := v38) rfl (hH.1 169 (0, 40) rfl) (show (qm_up h.2.1 179 0 v15) 169 hv.toInt.toNat = _ from ((hk_ot rfl).trans q_v38)) (fun ia_38 ib_38 => ?_)
            refine qm_Rp.go 1 (c' := (181, [.ref 118, .int 0, .int hv, .float 0], [.ref 118, .int v38, .ref 118, .int hv, .ref 176], (h.1, qm_up h.2.1 179 0 v15, h.2.2.1, h.2.2.2))) rfl ?_
            refine hp_getr rfl (hH.1 118 (17, 105) rfl) rfl (hH.2 118 78 (some 170) rfl) ?_
            refine qm_Rp.go 1 (c' := (185, [.ref 118, .int 0, .int hv, .float 0], [.int hv, .ref 170, .int v38, .ref 118, .int hv, .ref 176], (h.1, qm_up h.2.1 179 0 v15, h.2.2.1, h.2.2.2))) rfl ?_
            refine hp_ial (v := v6) rfl (hH.1 170 (0, 40) rfl) (show (qm_up h.2.1 179 0 v15) 170 hv.toInt.toNat = _ from ((hk_ot rfl).trans q_v6)) (fun ia_39 ib_39 => ?_)
            refine qm_Rp.go 1 (c' := (187, [.ref 118, .int 0, .int hv, .float 0], [.ref 118, .int v6, .int v38, .ref 118, .int hv, .ref 176], (h.1, qm_up h.2.1 179 0 v15, h.2.2.1, h.2.2.2))) rfl ?_
            refine hp_getr rfl (hH.1 118 (17, 105) rfl) rfl (hH.2 118 79 (some 171) rfl) ?_
            refine qm_Rp.go 1 (c' := (191, [.ref 118, .int 0, .int hv, .float 0], [.int hv, .ref 171, .int v6, .int v38, .ref 118, .int hv, .ref 176], (h.1, qm_up h.2.1 179 0 v15, h.2.2.1, h.2.2.2))) rfl ?_
            obtain ⟨v41, q_v41⟩ : ∃ v_, h.2.1 171 hv.toInt.toNat = v_ := ⟨_, rfl⟩
            refine hp_ial (v := v41) rfl (hH.1 171 (0, 40) rfl) (show (qm_up h.2.1 179 0 v15) 171 hv.toInt.toNat = _ from ((hk_ot rfl).trans q_v41)) (fun ia_41 ib_41 => ?_)
            refine qm_Rp.go 0 (c' := (192, [.ref 118, .int 0, .int hv, .float 0], [.int v41, .int v6, .int v38, .ref 118, .int hv, .ref 176], (h.1, qm_up h.2.1 179 0 v15, h.2.2.1, h.2.2.2))) rfl ?_
            refine hp_inv (o := 118) (r := [.int hv, .ref 176]) (as := [.ref 118, .int v38, .int v6, .int v41]) rfl rfl (hH.1 118 (17, 105) rfl) rfl rfl rfl (pz_rload0 (h := (h.1, qm_up h.2.1 179 0 v15, h.2.2.1, h.2.2.2)) hH hP.1 (zR_j hr (fun o ho i => ((hk_mod ho rfl).trans rfl))) hP.2.2.1 (fun I43 v44 f_I43 zr_I43 e_v44 => ?_))
            have f_I43 : ∀ o, [150, 151, 152, 153, 154, 155, 156].contains o = false → ∀ i, I43 o i = (qm_up h.2.1 179 0 v15) o i := f_I43
            refine qm_Rp.go 1 (c' := (220, [.ref 118, .int 0, .int hv, .float 0], [.int v44, .int hv, .ref 176], (h.1, I43, h.2.2.1, h.2.2.2))) rfl ?_
            refine hp_ias rfl (hH.1 176 (0, 40) rfl) (fun ia_44 ib_44 => ?_)
            refine qm_Rp.go 1 (c' := (222, [.ref 118, .int 0, .int hv, .float 0], [.ref 118], (h.1, qm_up I43 176 hv.toInt.toNat v44, h.2.2.1, h.2.2.2))) rfl ?_
            refine hp_getr rfl (hH.1 118 (17, 105) rfl) rfl (hH.2 118 80 (some 172) rfl) ?_
            refine qm_Rp.go 2 (c' := (227, [.ref 118, .int 0, .int hv, .float 0], [.int 2, .int hv, .ref 172], (h.1, qm_up I43 176 hv.toInt.toNat v44, h.2.2.1, h.2.2.2))) rfl ?_
            refine hp_ias rfl (hH.1 172 (0, 40) rfl) (fun ia_45 ib_45 => ?_)
            refine qm_Rp.go 1 (c' := (229, [.ref 118, .int 0, .int hv, .float 0], [.ref 118], (h.1, qm_up (qm_up I43 176 hv.toInt.toNat v44) 172 hv.toInt.toNat 2, h.2.2.1, h.2.2.2))) rfl ?_
            refine hp_getr rfl (hH.1 118 (17, 105) rfl) rfl (hH.2 118 83 (some 175) rfl) ?_
            refine qm_Rp.go 2 (c' := (234, [.ref 118, .int 0, .int hv, .float 0], [.ref 118, .int hv, .ref 175], (h.1, qm_up (qm_up I43 176 hv.toInt.toNat v44) 172 hv.toInt.toNat 2, h.2.2.1, h.2.2.2))) rfl ?_
            refine hp_geti (v := v9) rfl (hH.1 118 (17, 105) rfl) rfl (show (qm_up (qm_up I43 176 hv.toInt.toNat v44) 172 hv.toInt.toNat 2) 118 85 = _ from ((hk_ot rfl).trans ((hk_ot rfl).trans ((f_I43 118 rfl 85).trans ((hk_ot rfl).trans q_v9))))) ?_
            refine qm_Rp.go 0 (c' := (237, [.ref 118, .int 0, .int hv, .float 0], [.int v9, .int hv, .ref 175], (h.1, qm_up (qm_up I43 176 hv.toInt.toNat v44) 172 hv.toInt.toNat 2, h.2.2.1, h.2.2.2))) rfl ?_
            refine hp_ias rfl (hH.1 175 (0, 40) rfl) (fun ia_46 ib_46 => ?_)
            refine qm_Rp.go 1 (c' := (239, [.ref 118, .int 0, .int hv, .float 0], [.ref 118], (h.1, qm_up (qm_up (qm_up I43 176 hv.toInt.toNat v44) 172 hv.toInt.toNat 2) 175 hv.toInt.toNat v9, h.2.2.1, h.2.2.2))) rfl ?_
            refine hp_getr rfl (hH.1 118 (17, 105) rfl) rfl (hH.2 118 87 (some 178) rfl) ?_
            refine qm_Rp.go 2 (c' := (244, [.ref 118, .int 0, .int hv, .float 0], [.int (-1), .int 0, .ref 178], (h.1, qm_up (qm_up (qm_up I43 176 hv.toInt.toNat v44) 172 hv.toInt.toNat 2) 175 hv.toInt.toNat v9, h.2.2.1, h.2.2.2))) rfl ?_
            refine hp_ias rfl (hH.1 178 (0, 2) rfl) (fun ia_47 ib_47 => ?_)
            refine qm_Rp.go 1 (c' := (246, [.ref 118, .int 0, .int hv, .float 0], [.ref 118], (h.1, qm_up (qm_up (qm_up (qm_up I43 176 hv.toInt.toNat v44) 172 hv.toInt.toNat 2) 175 hv.toInt.toNat v9) 178 0 (-1), h.2.2.1, h.2.2.2))) rfl ?_
            refine hp_getr rfl (hH.1 118 (17, 105) rfl) rfl (hH.2 118 88 (some 179) rfl) ?_
            refine qm_Rp.go 2 (c' := (251, [.ref 118, .int 0, .int hv, .float 0], [.int 0, .int 0, .ref 179], (h.1, qm_up (qm_up (qm_up (qm_up I43 176 hv.toInt.toNat v44) 172 hv.toInt.toNat 2) 175 hv.toInt.toNat v9) 178 0 (-1), h.2.2.1, h.2.2.2))) rfl ?_
            refine hp_ias rfl (hH.1 179 (0, 2) rfl) (fun ia_48 ib_48 => ?_)
            refine qm_Rp.go 1 (c' := (253, [.ref 118, .int 0, .int hv, .float 0], [.ref 118], (h.1, qm_up (qm_up (qm_up (qm_up (qm_up I43 176 hv.toInt.toNat v44) 172 hv.toInt.toNat 2) 175 hv.toInt.toNat v9) 178 0 (-1)) 179 0 0, h.2.2.1, h.2.2.2))) rfl ?_
            refine hp_getr rfl (hH.1 118 (17, 105) rfl) rfl (hH.2 118 90 (some 181) rfl) ?_
            refine qm_Rp.go 2 (c' := (258, [.ref 118, .int 0, .int hv, .float 0], [.int 0, .ref 181, .int 0, .ref 181], (h.1, qm_up (qm_up (qm_up (qm_up (qm_up I43 176 hv.toInt.toNat v44) 172 hv.toInt.toNat 2) 175 hv.toInt.toNat v9) 178 0 (-1)) 179 0 0, h.2.2.1, h.2.2.2))) rfl ?_
            obtain ⟨v50, q_v50⟩ : ∃ v_, h.2.1 181 0 = v_ := ⟨_, rfl⟩
            refine hp_ial (v := v50) rfl (hH.1 181 (0, 2) rfl) (show (qm_up (qm_up (qm_up (qm_up (qm_up I43 176 hv.toInt.toNat v44) 172 hv.toInt.toNat 2) 175 hv.toInt.toNat v9) 178 0 (-1)) 179 0 0) 181 0 = _ from ((hk_ot rfl).trans ((hk_ot rfl).trans ((hk_ot rfl).trans ((hk_ot rfl).trans ((hk_ot rfl).trans ((f_I43 181 rfl 0).trans ((hk_ot rfl).trans q_v50)))))))) (fun ia_50 ib_50 => ?_)
            refine qm_Rp.go 2 (c' := (261, [.ref 118, .int 0, .int hv, .float 0], [.int (v50 + 1), .int 0, .ref 181], (h.1, qm_up (qm_up (qm_up (qm_up (qm_up I43 176 hv.toInt.toNat v44) 172 hv.toInt.toNat 2) 175 hv.toInt.toNat v9) 178 0 (-1)) 179 0 0, h.2.2.1, h.2.2.2))) rfl ?_
            obtain ⟨v52, q_v52⟩ : ∃ v_, (v50 + 1) = v_ := ⟨_, rfl⟩
            rw [q_v52]
            refine hp_ias rfl (hH.1 181 (0, 2) rfl) (fun ia_52 ib_52 => ?_)
            refine qm_Rp.go 1 (c' := (263, [.ref 118, .int 0, .int hv, .float 0], [.int 1], (h.1, qm_up (qm_up (qm_up (qm_up (qm_up (qm_up I43 176 hv.toInt.toNat v44) 172 hv.toInt.toNat 2) 175 hv.toInt.toNat v9) 178 0 (-1)) 179 0 0) 181 0 v52, h.2.2.1, h.2.2.2))) rfl ?_
            refine qm_Rp.rt (v := (some (.int 1))) (h' := (h.1, qm_up (qm_up (qm_up (qm_up (qm_up (qm_up I43 176 hv.toInt.toNat v44) 172 hv.toInt.toNat 2) 175 hv.toInt.toNat v9) 178 0 (-1)) 179 0 0) 181 0 v52, h.2.2.1, h.2.2.2)) rfl ?_
            have e := jGo_f (s := 0) (A := A) (K := h.2.1) (c := 0) (by rw [q_hv]; omega) (by rw [q_v4, q_hv, q_v6]; exact hk_eqi.mpr (by omega)) (fun z => by unfold jWn at z; rw [q_v10, q_v9, q_v11] at z; omega) (by rw [q_v13, q_v15]; omega)
            have eR : jRe 0 A h.2.1 hv.toInt.toNat = v44.toInt := by unfold jRe; rw [q_v19, q_v38, q_v6, q_v41, okb_t (show v19.toInt = 0 by omega)]; exact e_v44.symm
            have eS : zR (jSh 0 A h.2.1 hv.toInt.toNat) I43 := by unfold jSh; rw [q_v19, q_v38, q_v6, q_v41, okb_t (show v19.toInt = 0 by omega)]; exact zr_I43
            rw [q_hv, eR, Int32.ofInt_toInt] at e
            have e2 : jEq (jFi h.2.1 0 hv.toInt.toNat v44) (qm_up (qm_up (qm_up (qm_up (qm_up (qm_up I43 176 hv.toInt.toNat v44) 172 hv.toInt.toNat 2) 175 hv.toInt.toNat v9) 178 0 (-1)) 179 0 0) 181 0 v52) := by
              unfold jFi
              rw [q_v13, q_v15, q_v9, q_v50, q_v52]
              exact jEq_up (jEq_up (jEq_up (jEq_up (jEq_up (jEq_up (jEq_fr jEq_rf f_I43 (by decide)))))))
            refine k (qm_up (qm_up (qm_up (qm_up (qm_up (qm_up I43 176 hv.toInt.toNat v44) 172 hv.toInt.toNat 2) 175 hv.toInt.toNat v9) 178 0 (-1)) 179 0 0) 181 0 v52) 1 (fun o ho i => ((hk_mod ho rfl).trans ((hk_mod ho rfl).trans ((hk_mod ho rfl).trans ((hk_mod ho rfl).trans ((hk_mod ho rfl).trans ((hk_mod ho rfl).trans ((f_I43 o (hk_ms rfl ho) i).trans ((hk_mod ho rfl).trans rfl))))))))) (by rw [e]; exact zR_j eS (fun o ho i => ((hk_mod ho rfl).trans ((hk_mod ho rfl).trans ((hk_mod ho rfl).trans ((hk_mod ho rfl).trans ((hk_mod ho rfl).trans ((hk_mod ho rfl).trans rfl)))))))) (by rw [e]; exact e2) (Or.inl ⟨rfl, ?_, ?_⟩)
            · rw [q_v50, q_v52]; exact hk_same
            · exact ((hk_neq (by decide)).trans ((hk_ot rfl).trans ((hk_ot rfl).trans ((hk_ot rfl).trans ((hk_ot rfl).trans ((hk_ot rfl).trans ((f_I43 181 rfl 1).trans ((hk_ot rfl).trans rfl))))))))
        · refine qm_Rp.go 1 (c' := (158, [.ref 118, .int 0, .int hv, .float 0], [.int 0], (h.1, qm_up h.2.1 179 0 v15, h.2.2.1, h.2.2.2))) rfl ?_
          refine qm_Rp.rt (v := (some (.int 0))) (h' := (h.1, qm_up h.2.1 179 0 v15, h.2.2.1, h.2.2.2)) rfl ?_
          have e := jGo_l (s := 0) (A := A) (K := h.2.1) (c := 0) (by rw [q_hv]; omega) (by rw [q_v4, q_hv, q_v6]; exact hk_eqi.mpr (by omega)) (fun z => by unfold jWn at z; rw [q_v10, q_v9, q_v11] at z; omega) (by rw [q_v13, q_v15]; omega)
          have e2 : jLi h.2.1 0 = qm_up h.2.1 179 0 v15 := by unfold jLi; rw [q_v13, q_v15]
          exact k (qm_up h.2.1 179 0 v15) 0 (fun o ho i => ((hk_mod ho rfl).trans rfl)) (by rw [e]; exact zR_j hr (fun o ho i => ((hk_mod ho rfl).trans rfl))) (by rw [e]; show jEq (jLi h.2.1 0) _; rw [e2]; exact jEq_rf) (Or.inr ⟨rfl, fun i => ((hk_ot rfl).trans rfl)⟩)
      · refine qm_Rp.go 2 (c' := (7, [.int v9, .int v10, .int v11], [.int v11, .int v9], h)) rfl ?_
        refine hp_cgt (ix := v9.toInt) (iy := v11.toInt) rfl rfl rfl (fun z54 => ?_) (fun z54 => ?_)
        · refine qm_Rp.go 1 (c' := (15, [.int v9, .int v10, .int v11], [.int 0], h)) rfl ?_
          refine qm_Rp.rt (v := (some (.int 0))) (h' := h) rfl ?_
          refine qm_Rp.go 2 (c' := (138, [.ref 118, .int 0, .int hv, .float 0], [.ref 118], h)) rfl ?_
          refine hp_getr rfl (hH.1 118 (17, 105) rfl) rfl (hH.2 118 88 (some 179) rfl) ?_
          refine qm_Rp.go 2 (c' := (143, [.ref 118, .int 0, .int hv, .float 0], [.int 0, .ref 179, .int 0, .ref 179], h)) rfl ?_
          obtain ⟨v55, q_v55⟩ : ∃ v_, h.2.1 179 0 = v_ := ⟨_, rfl⟩
          have b_v55 : (0 : Int) ≤ v55.toInt ∧ v55.toInt ≤ 1 := by rw [← q_v55]; exact b179
          refine hp_ial (v := v55) rfl (hH.1 179 (0, 2) rfl) q_v55 (fun ia_55 ib_55 => ?_)
          refine qm_Rp.go 2 (c' := (146, [.ref 118, .int 0, .int hv, .float 0], [.int (v55 + 1), .int 0, .ref 179], h)) rfl ?_
          obtain ⟨v57, q_v57, e_v57⟩ := hk_add (x := v55) (y := 1) (a := v55.toInt) (b := 1) rfl rfl (by omega) (by omega)
          rw [q_v57]
          refine hp_ias rfl (hH.1 179 (0, 2) rfl) (fun ia_57 ib_57 => ?_)
          refine qm_Rp.go 1 (c' := (148, [.ref 118, .int 0, .int hv, .float 0], [.ref 118], (h.1, qm_up h.2.1 179 0 v57, h.2.2.1, h.2.2.2))) rfl ?_
          refine hp_getr rfl (hH.1 118 (17, 105) rfl) rfl (hH.2 118 88 (some 179) rfl) ?_
          refine qm_Rp.go 1 (c' := (152, [.ref 118, .int 0, .int hv, .float 0], [.int 0, .ref 179], (h.1, qm_up h.2.1 179 0 v57, h.2.2.1, h.2.2.2))) rfl ?_
          refine hp_ial (v := v57) rfl (hH.1 179 (0, 2) rfl) (show (qm_up h.2.1 179 0 v57) 179 0 = _ from (hk_same)) (fun ia_58 ib_58 => ?_)
          refine qm_Rp.go 1 (c' := (154, [.ref 118, .int 0, .int hv, .float 0], [.int 2, .int v57], (h.1, qm_up h.2.1 179 0 v57, h.2.2.1, h.2.2.2))) rfl ?_
          refine hp_cge (ix := v57.toInt) (iy := 2) rfl rfl rfl (fun z60 => ?_) (fun z60 => ?_)
          · refine qm_Rp.go 1 (c' := (160, [.ref 118, .int 0, .int hv, .float 0], [.ref 118], (h.1, qm_up h.2.1 179 0 v57, h.2.2.1, h.2.2.2))) rfl ?_
            refine hp_getr rfl (hH.1 118 (17, 105) rfl) rfl (hH.2 118 84 (some 176) rfl) ?_
            refine qm_Rp.go 2 (c' := (165, [.ref 118, .int 0, .int hv, .float 0], [.ref 118, .int hv, .ref 176], (h.1, qm_up h.2.1 179 0 v57, h.2.2.1, h.2.2.2))) rfl ?_
            refine hp_getr rfl (hH.1 118 (17, 105) rfl) rfl (hH.2 118 76 (some 168) rfl) ?_
            refine qm_Rp.go 1 (c' := (169, [.ref 118, .int 0, .int hv, .float 0], [.int hv, .ref 168, .int hv, .ref 176], (h.1, qm_up h.2.1 179 0 v57, h.2.2.1, h.2.2.2))) rfl ?_
            obtain ⟨v61, q_v61⟩ : ∃ v_, h.2.1 168 hv.toInt.toNat = v_ := ⟨_, rfl⟩
            refine hp_ial (v := v61) rfl (hH.1 168 (0, 40) rfl) (show (qm_up h.2.1 179 0 v57) 168 hv.toInt.toNat = _ from ((hk_ot rfl).trans q_v61)) (fun ia_61 ib_61 => ?_)
            refine qm_Rp.go 0 (c' := (170, [.ref 118, .int 0, .int hv, .float 0], [.int v61, .int hv, .ref 176], (h.1, qm_up h.2.1 179 0 v57, h.2.2.1, h.2.2.2))) rfl ?_
            refine hp_zne (ix := v61.toInt) rfl rfl (fun z63 => ?_) (fun z63 => ?_)
            · refine qm_Rp.go 2 (c' := (200, [.ref 118, .int 0, .int hv, .float 0], [.ref 118, .ref 118, .int hv, .ref 176], (h.1, qm_up h.2.1 179 0 v57, h.2.2.1, h.2.2.2))) rfl ?_
              refine hp_getr rfl (hH.1 118 (17, 105) rfl) rfl (hH.2 118 78 (some 170) rfl) ?_
              refine qm_Rp.go 1 (c' := (204, [.ref 118, .int 0, .int hv, .float 0], [.int hv, .ref 170, .ref 118, .int hv, .ref 176], (h.1, qm_up h.2.1 179 0 v57, h.2.2.1, h.2.2.2))) rfl ?_
              refine hp_ial (v := v6) rfl (hH.1 170 (0, 40) rfl) (show (qm_up h.2.1 179 0 v57) 170 hv.toInt.toNat = _ from ((hk_ot rfl).trans q_v6)) (fun ia_63 ib_63 => ?_)
              refine qm_Rp.go 1 (c' := (206, [.ref 118, .int 0, .int hv, .float 0], [.ref 118, .int v6, .ref 118, .int hv, .ref 176], (h.1, qm_up h.2.1 179 0 v57, h.2.2.1, h.2.2.2))) rfl ?_
              refine hp_getr rfl (hH.1 118 (17, 105) rfl) rfl (hH.2 118 79 (some 171) rfl) ?_
              refine qm_Rp.go 1 (c' := (210, [.ref 118, .int 0, .int hv, .float 0], [.int hv, .ref 171, .int v6, .ref 118, .int hv, .ref 176], (h.1, qm_up h.2.1 179 0 v57, h.2.2.1, h.2.2.2))) rfl ?_
              obtain ⟨v65, q_v65⟩ : ∃ v_, h.2.1 171 hv.toInt.toNat = v_ := ⟨_, rfl⟩
              refine hp_ial (v := v65) rfl (hH.1 171 (0, 40) rfl) (show (qm_up h.2.1 179 0 v57) 171 hv.toInt.toNat = _ from ((hk_ot rfl).trans q_v65)) (fun ia_65 ib_65 => ?_)
              refine qm_Rp.go 1 (c' := (212, [.ref 118, .int 0, .int hv, .float 0], [.ref 118, .int v65, .int v6, .ref 118, .int hv, .ref 176], (h.1, qm_up h.2.1 179 0 v57, h.2.2.1, h.2.2.2))) rfl ?_
              refine hp_getr rfl (hH.1 118 (17, 105) rfl) rfl (hH.2 118 77 (some 169) rfl) ?_
              refine qm_Rp.go 1 (c' := (216, [.ref 118, .int 0, .int hv, .float 0], [.int hv, .ref 169, .int v65, .int v6, .ref 118, .int hv, .ref 176], (h.1, qm_up h.2.1 179 0 v57, h.2.2.1, h.2.2.2))) rfl ?_
              obtain ⟨v67, q_v67⟩ : ∃ v_, h.2.1 169 hv.toInt.toNat = v_ := ⟨_, rfl⟩
              refine hp_ial (v := v67) rfl (hH.1 169 (0, 40) rfl) (show (qm_up h.2.1 179 0 v57) 169 hv.toInt.toNat = _ from ((hk_ot rfl).trans q_v67)) (fun ia_67 ib_67 => ?_)
              refine qm_Rp.go 0 (c' := (217, [.ref 118, .int 0, .int hv, .float 0], [.int v67, .int v65, .int v6, .ref 118, .int hv, .ref 176], (h.1, qm_up h.2.1 179 0 v57, h.2.2.1, h.2.2.2))) rfl ?_
              refine hp_inv (o := 118) (r := [.int hv, .ref 176]) (as := [.ref 118, .int v6, .int v65, .int v67]) rfl rfl (hH.1 118 (17, 105) rfl) rfl rfl rfl (pz_runl0 (h := (h.1, qm_up h.2.1 179 0 v57, h.2.2.1, h.2.2.2)) hH hP.1 (zR_j hr (fun o ho i => ((hk_mod ho rfl).trans rfl))) hP.2.2.1 (fun I69 v70 f_I69 zr_I69 e_v70 => ?_))
              have f_I69 : ∀ o, [150, 151, 152, 153, 154, 155, 156].contains o = false → ∀ i, I69 o i = (qm_up h.2.1 179 0 v57) o i := f_I69
              refine qm_Rp.go 0 (c' := (220, [.ref 118, .int 0, .int hv, .float 0], [.int v70, .int hv, .ref 176], (h.1, I69, h.2.2.1, h.2.2.2))) rfl ?_
              refine hp_ias rfl (hH.1 176 (0, 40) rfl) (fun ia_70 ib_70 => ?_)
              refine qm_Rp.go 1 (c' := (222, [.ref 118, .int 0, .int hv, .float 0], [.ref 118], (h.1, qm_up I69 176 hv.toInt.toNat v70, h.2.2.1, h.2.2.2))) rfl ?_
              refine hp_getr rfl (hH.1 118 (17, 105) rfl) rfl (hH.2 118 80 (some 172) rfl) ?_
              refine qm_Rp.go 2 (c' := (227, [.ref 118, .int 0, .int hv, .float 0], [.int 2, .int hv, .ref 172], (h.1, qm_up I69 176 hv.toInt.toNat v70, h.2.2.1, h.2.2.2))) rfl ?_
              refine hp_ias rfl (hH.1 172 (0, 40) rfl) (fun ia_71 ib_71 => ?_)
              refine qm_Rp.go 1 (c' := (229, [.ref 118, .int 0, .int hv, .float 0], [.ref 118], (h.1, qm_up (qm_up I69 176 hv.toInt.toNat v70) 172 hv.toInt.toNat 2, h.2.2.1, h.2.2.2))) rfl ?_
              refine hp_getr rfl (hH.1 118 (17, 105) rfl) rfl (hH.2 118 83 (some 175) rfl) ?_
              refine qm_Rp.go 2 (c' := (234, [.ref 118, .int 0, .int hv, .float 0], [.ref 118, .int hv, .ref 175], (h.1, qm_up (qm_up I69 176 hv.toInt.toNat v70) 172 hv.toInt.toNat 2, h.2.2.1, h.2.2.2))) rfl ?_
              refine hp_geti (v := v9) rfl (hH.1 118 (17, 105) rfl) rfl (show (qm_up (qm_up I69 176 hv.toInt.toNat v70) 172 hv.toInt.toNat 2) 118 85 = _ from ((hk_ot rfl).trans ((hk_ot rfl).trans ((f_I69 118 rfl 85).trans ((hk_ot rfl).trans q_v9))))) ?_
              refine qm_Rp.go 0 (c' := (237, [.ref 118, .int 0, .int hv, .float 0], [.int v9, .int hv, .ref 175], (h.1, qm_up (qm_up I69 176 hv.toInt.toNat v70) 172 hv.toInt.toNat 2, h.2.2.1, h.2.2.2))) rfl ?_
              refine hp_ias rfl (hH.1 175 (0, 40) rfl) (fun ia_72 ib_72 => ?_)
              refine qm_Rp.go 1 (c' := (239, [.ref 118, .int 0, .int hv, .float 0], [.ref 118], (h.1, qm_up (qm_up (qm_up I69 176 hv.toInt.toNat v70) 172 hv.toInt.toNat 2) 175 hv.toInt.toNat v9, h.2.2.1, h.2.2.2))) rfl ?_
              refine hp_getr rfl (hH.1 118 (17, 105) rfl) rfl (hH.2 118 87 (some 178) rfl) ?_
              refine qm_Rp.go 2 (c' := (244, [.ref 118, .int 0, .int hv, .float 0], [.int (-1), .int 0, .ref 178], (h.1, qm_up (qm_up (qm_up I69 176 hv.toInt.toNat v70) 172 hv.toInt.toNat 2) 175 hv.toInt.toNat v9, h.2.2.1, h.2.2.2))) rfl ?_
              refine hp_ias rfl (hH.1 178 (0, 2) rfl) (fun ia_73 ib_73 => ?_)
              refine qm_Rp.go 1 (c' := (246, [.ref 118, .int 0, .int hv, .float 0], [.ref 118], (h.1, qm_up (qm_up (qm_up (qm_up I69 176 hv.toInt.toNat v70) 172 hv.toInt.toNat 2) 175 hv.toInt.toNat v9) 178 0 (-1), h.2.2.1, h.2.2.2))) rfl ?_
              refine hp_getr rfl (hH.1 118 (17, 105) rfl) rfl (hH.2 118 88 (some 179) rfl) ?_
              refine qm_Rp.go 2 (c' := (251, [.ref 118, .int 0, .int hv, .float 0], [.int 0, .int 0, .ref 179], (h.1, qm_up (qm_up (qm_up (qm_up I69 176 hv.toInt.toNat v70) 172 hv.toInt.toNat 2) 175 hv.toInt.toNat v9) 178 0 (-1), h.2.2.1, h.2.2.2))) rfl ?_
              refine hp_ias rfl (hH.1 179 (0, 2) rfl) (fun ia_74 ib_74 => ?_)
              refine qm_Rp.go 1 (c' := (253, [.ref 118, .int 0, .int hv, .float 0], [.ref 118], (h.1, qm_up (qm_up (qm_up (qm_up (qm_up I69 176 hv.toInt.toNat v70) 172 hv.toInt.toNat 2) 175 hv.toInt.toNat v9) 178 0 (-1)) 179 0 0, h.2.2.1, h.2.2.2))) rfl ?_
              refine hp_getr rfl (hH.1 118 (17, 105) rfl) rfl (hH.2 118 90 (some 181) rfl) ?_
              refine qm_Rp.go 2 (c' := (258, [.ref 118, .int 0, .int hv, .float 0], [.int 0, .ref 181, .int 0, .ref 181], (h.1, qm_up (qm_up (qm_up (qm_up (qm_up I69 176 hv.toInt.toNat v70) 172 hv.toInt.toNat 2) 175 hv.toInt.toNat v9) 178 0 (-1)) 179 0 0, h.2.2.1, h.2.2.2))) rfl ?_
              obtain ⟨v76, q_v76⟩ : ∃ v_, h.2.1 181 0 = v_ := ⟨_, rfl⟩
              refine hp_ial (v := v76) rfl (hH.1 181 (0, 2) rfl) (show (qm_up (qm_up (qm_up (qm_up (qm_up I69 176 hv.toInt.toNat v70) 172 hv.toInt.toNat 2) 175 hv.toInt.toNat v9) 178 0 (-1)) 179 0 0) 181 0 = _ from ((hk_ot rfl).trans ((hk_ot rfl).trans ((hk_ot rfl).trans ((hk_ot rfl).trans ((hk_ot rfl).trans ((f_I69 181 rfl 0).trans ((hk_ot rfl).trans q_v76)))))))) (fun ia_76 ib_76 => ?_)
              refine qm_Rp.go 2 (c' := (261, [.ref 118, .int 0, .int hv, .float 0], [.int (v76 + 1), .int 0, .ref 181], (h.1, qm_up (qm_up (qm_up (qm_up (qm_up I69 176 hv.toInt.toNat v70) 172 hv.toInt.toNat 2) 175 hv.toInt.toNat v9) 178 0 (-1)) 179 0 0, h.2.2.1, h.2.2.2))) rfl ?_
              obtain ⟨v78, q_v78⟩ : ∃ v_, (v76 + 1) = v_ := ⟨_, rfl⟩
              rw [q_v78]
              refine hp_ias rfl (hH.1 181 (0, 2) rfl) (fun ia_78 ib_78 => ?_)
              refine qm_Rp.go 1 (c' := (263, [.ref 118, .int 0, .int hv, .float 0], [.int 1], (h.1, qm_up (qm_up (qm_up (qm_up (qm_up (qm_up I69 176 hv.toInt.toNat v70) 172 hv.toInt.toNat 2) 175 hv.toInt.toNat v9) 178 0 (-1)) 179 0 0) 181 0 v78, h.2.2.1, h.2.2.2))) rfl ?_
              refine qm_Rp.rt (v := (some (.int 1))) (h' := (h.1, qm_up (qm_up (qm_up (qm_up (qm_up (qm_up I69 176 hv.toInt.toNat v70) 172 hv.toInt.toNat 2) 175 hv.toInt.toNat v9) 178 0 (-1)) 179 0 0) 181 0 v78, h.2.2.1, h.2.2.2)) rfl ?_
              have e := jGo_f (s := 0) (A := A) (K := h.2.1) (c := 0) (by rw [q_hv]; omega) (by rw [q_v4, q_hv, q_v6]; exact hk_eqi.mpr (by omega)) (fun z => by unfold jWn at z; rw [q_v10, q_v9, q_v11] at z; omega) (by rw [q_v55, q_v57]; omega)
              have eR : jRe 0 A h.2.1 hv.toInt.toNat = v70.toInt := by unfold jRe; rw [q_v61, q_v67, q_v6, q_v65, okb_f (show ¬ v61.toInt = 0 by omega)]; exact e_v70.symm
              have eS : zR (jSh 0 A h.2.1 hv.toInt.toNat) I69 := by unfold jSh; rw [q_v61, q_v67, q_v6, q_v65, okb_f (show ¬ v61.toInt = 0 by omega)]; exact zr_I69
              rw [q_hv, eR, Int32.ofInt_toInt] at e
              have e2 : jEq (jFi h.2.1 0 hv.toInt.toNat v70) (qm_up (qm_up (qm_up (qm_up (qm_up (qm_up I69 176 hv.toInt.toNat v70) 172 hv.toInt.toNat 2) 175 hv.toInt.toNat v9) 178 0 (-1)) 179 0 0) 181 0 v78) := by
                unfold jFi
                rw [q_v55, q_v57, q_v9, q_v76, q_v78]
                exact jEq_up (jEq_up (jEq_up (jEq_up (jEq_up (jEq_up (jEq_fr jEq_rf f_I69 (by decide)))))))
              refine k (qm_up (qm_up (qm_up (qm_up (qm_up (qm_up I69 176 hv.toInt.toNat v70) 172 hv.toInt.toNat 2) 175 hv.toInt.toNat v9) 178 0 (-1)) 179 0 0) 181 0 v78) 1 (fun o ho i => ((hk_mod ho rfl).trans ((hk_mod ho rfl).trans ((hk_mod ho rfl).trans ((hk_mod ho rfl).trans ((hk_mod ho rfl).trans ((hk_mod ho rfl).trans ((f_I69 o (hk_ms rfl ho) i).trans ((hk_mod ho rfl).trans rfl))))))))) (by rw [e]; exact zR_j eS (fun o ho i => ((hk_mod ho rfl).trans ((hk_mod ho rfl).trans ((hk_mod ho rfl).trans ((hk_mod ho rfl).trans ((hk_mod ho rfl).trans ((hk_mod ho rfl).trans rfl)))))))) (by rw [e]; exact e2) (Or.inl ⟨rfl, ?_, ?_⟩)
              · rw [q_v76, q_v78]; exact hk_same
              · exact ((hk_neq (by decide)).trans ((hk_ot rfl).trans ((hk_ot rfl).trans ((hk_ot rfl).trans ((hk_ot rfl).trans ((hk_ot rfl).trans ((f_I69 181 rfl 1).trans ((hk_ot rfl).trans rfl))))))))
            · refine qm_Rp.go 2 (c' := (175, [.ref 118, .int 0, .int hv, .float 0], [.ref 118, .ref 118, .int hv, .ref 176], (h.1, qm_up h.2.1 179 0 v57, h.2.2.1, h.2.2.2))) rfl ?_
              refine hp_getr rfl (hH.1 118 (17, 105) rfl) rfl (hH.2 118 77 (some 169) rfl) ?_
              refine qm_Rp.go 1 (c' := (179, [.ref 118, .int 0, .int hv, .float 0], [.int hv, .ref 169, .ref 118, .int hv, .ref 176], (h.1, qm_up h.2.1 179 0 v57, h.2.2.1, h.2.2.2))) rfl ?_
              obtain ⟨v80, q_v80⟩ : ∃ v_, h.2.1 169 hv.toInt.toNat = v_ := ⟨_, rfl⟩
              refine hp_ial (v := v80) rfl (hH.1 169 (0, 40) rfl) (show (qm_up h.2.1 179 0 v57) 169 hv.toInt.toNat = _ from ((hk_ot rfl).trans q_v80)) (fun ia_80 ib_80 => ?_)
              refine qm_Rp.go 1 (c' := (181, [.ref 118, .int 0, .int hv, .float 0], [.ref 118, .int v80, .ref 118, .int hv, .ref 176], (h.1, qm_up h.2.1 179 0 v57, h.2.2.1, h.2.2.2))) rfl ?_
              refine hp_getr rfl (hH.1 118 (17, 105) rfl) rfl (hH.2 118 78 (some 170) rfl) ?_
              refine qm_Rp.go 1 (c' := (185, [.ref 118, .int 0, .int hv, .float 0], [.int hv, .ref 170, .int v80, .ref 118, .int hv, .ref 176], (h.1, qm_up h.2.1 179 0 v57, h.2.2.1, h.2.2.2))) rfl ?_
              refine hp_ial (v := v6) rfl (hH.1 170 (0, 40) rfl) (show (qm_up h.2.1 179 0 v57) 170 hv.toInt.toNat = _ from ((hk_ot rfl).trans q_v6)) (fun ia_81 ib_81 => ?_)
              refine qm_Rp.go 1 (c' := (187, [.ref 118, .int 0, .int hv, .float 0], [.ref 118, .int v6, .int v80, .ref 118, .int hv, .ref 176], (h.1, qm_up h.2.1 179 0 v57, h.2.2.1, h.2.2.2))) rfl ?_
              refine hp_getr rfl (hH.1 118 (17, 105) rfl) rfl (hH.2 118 79 (some 171) rfl) ?_
              refine qm_Rp.go 1 (c' := (191, [.ref 118, .int 0, .int hv, .float 0], [.int hv, .ref 171, .int v6, .int v80, .ref 118, .int hv, .ref 176], (h.1, qm_up h.2.1 179 0 v57, h.2.2.1, h.2.2.2))) rfl ?_
              obtain ⟨v83, q_v83⟩ : ∃ v_, h.2.1 171 hv.toInt.toNat = v_ := ⟨_, rfl⟩
              refine hp_ial (v := v83) rfl (hH.1 171 (0, 40) rfl) (show (qm_up h.2.1 179 0 v57) 171 hv.toInt.toNat = _ from ((hk_ot rfl).trans q_v83)) (fun ia_83 ib_83 => ?_)
              refine qm_Rp.go 0 (c' := (192, [.ref 118, .int 0, .int hv, .float 0], [.int v83, .int v6, .int v80, .ref 118, .int hv, .ref 176], (h.1, qm_up h.2.1 179 0 v57, h.2.2.1, h.2.2.2))) rfl ?_
              refine hp_inv (o := 118) (r := [.int hv, .ref 176]) (as := [.ref 118, .int v80, .int v6, .int v83]) rfl rfl (hH.1 118 (17, 105) rfl) rfl rfl rfl (pz_rload0 (h := (h.1, qm_up h.2.1 179 0 v57, h.2.2.1, h.2.2.2)) hH hP.1 (zR_j hr (fun o ho i => ((hk_mod ho rfl).trans rfl))) hP.2.2.1 (fun I85 v86 f_I85 zr_I85 e_v86 => ?_))
              have f_I85 : ∀ o, [150, 151, 152, 153, 154, 155, 156].contains o = false → ∀ i, I85 o i = (qm_up h.2.1 179 0 v57) o i := f_I85
              refine qm_Rp.go 1 (c' := (220, [.ref 118, .int 0, .int hv, .float 0], [.int v86, .int hv, .ref 176], (h.1, I85, h.2.2.1, h.2.2.2))) rfl ?_
              refine hp_ias rfl (hH.1 176 (0, 40) rfl) (fun ia_86 ib_86 => ?_)
              refine qm_Rp.go 1 (c' := (222, [.ref 118, .int 0, .int hv, .float 0], [.ref 118], (h.1, qm_up I85 176 hv.toInt.toNat v86, h.2.2.1, h.2.2.2))) rfl ?_
              refine hp_getr rfl (hH.1 118 (17, 105) rfl) rfl (hH.2 118 80 (some 172) rfl) ?_
              refine qm_Rp.go 2 (c' := (227, [.ref 118, .int 0, .int hv, .float 0], [.int 2, .int hv, .ref 172], (h.1, qm_up I85 176 hv.toInt.toNat v86, h.2.2.1, h.2.2.2))) rfl ?_
              refine hp_ias rfl (hH.1 172 (0, 40) rfl) (fun ia_87 ib_87 => ?_)
              refine qm_Rp.go 1 (c' := (229, [.ref 118, .int 0, .int hv, .float 0], [.ref 118], (h.1, qm_up (qm_up I85 176 hv.toInt.toNat v86) 172 hv.toInt.toNat 2, h.2.2.1, h.2.2.2))) rfl ?_
              refine hp_getr rfl (hH.1 118 (17, 105) rfl) rfl (hH.2 118 83 (some 175) rfl) ?_
              refine qm_Rp.go 2 (c' := (234, [.ref 118, .int 0, .int hv, .float 0], [.ref 118, .int hv, .ref 175], (h.1, qm_up (qm_up I85 176 hv.toInt.toNat v86) 172 hv.toInt.toNat 2, h.2.2.1, h.2.2.2))) rfl ?_
              refine hp_geti (v := v9) rfl (hH.1 118 (17, 105) rfl) rfl (show (qm_up (qm_up I85 176 hv.toInt.toNat v86) 172 hv.toInt.toNat 2) 118 85 = _ from ((hk_ot rfl).trans ((hk_ot rfl).trans ((f_I85 118 rfl 85).trans ((hk_ot rfl).trans q_v9))))) ?_
              refine qm_Rp.go 0 (c' := (237, [.ref 118, .int 0, .int hv, .float 0], [.int v9, .int hv, .ref 175], (h.1, qm_up (qm_up I85 176 hv.toInt.toNat v86) 172 hv.toInt.toNat 2, h.2.2.1, h.2.2.2))) rfl ?_
              refine hp_ias rfl (hH.1 175 (0, 40) rfl) (fun ia_88 ib_88 => ?_)
              refine qm_Rp.go 1 (c' := (239, [.ref 118, .int 0, .int hv, .float 0], [.ref 118], (h.1, qm_up (qm_up (qm_up I85 176 hv.toInt.toNat v86) 172 hv.toInt.toNat 2) 175 hv.toInt.toNat v9, h.2.2.1, h.2.2.2))) rfl ?_
              refine hp_getr rfl (hH.1 118 (17, 105) rfl) rfl (hH.2 118 87 (some 178) rfl) ?_
              refine qm_Rp.go 2 (c' := (244, [.ref 118, .int 0, .int hv, .float 0], [.int (-1), .int 0, .ref 178], (h.1, qm_up (qm_up (qm_up I85 176 hv.toInt.toNat v86) 172 hv.toInt.toNat 2) 175 hv.toInt.toNat v9, h.2.2.1, h.2.2.2))) rfl ?_
              refine hp_ias rfl (hH.1 178 (0, 2) rfl) (fun ia_89 ib_89 => ?_)
              refine qm_Rp.go 1 (c' := (246, [.ref 118, .int 0, .int hv, .float 0], [.ref 118], (h.1, qm_up (qm_up (qm_up (qm_up I85 176 hv.toInt.toNat v86) 172 hv.toInt.toNat 2) 175 hv.toInt.toNat v9) 178 0 (-1), h.2.2.1, h.2.2.2))) rfl ?_
              refine hp_getr rfl (hH.1 118 (17, 105) rfl) rfl (hH.2 118 88 (some 179) rfl) ?_
              refine qm_Rp.go 2 (c' := (251, [.ref 118, .int 0, .int hv, .float 0], [.int 0, .int 0, .ref 179], (h.1, qm_up (qm_up (qm_up (qm_up I85 176 hv.toInt.toNat v86) 172 hv.toInt.toNat 2) 175 hv.toInt.toNat v9) 178 0 (-1), h.2.2.1, h.2.2.2))) rfl ?_
              refine hp_ias rfl (hH.1 179 (0, 2) rfl) (fun ia_90 ib_90 => ?_)
              refine qm_Rp.go 1 (c' := (253, [.ref 118, .int 0, .int hv, .float 0], [.ref 118], (h.1, qm_up (qm_up (qm_up (qm_up (qm_up I85 176 hv.toInt.toNat v86) 172 hv.toInt.toNat 2) 175 hv.toInt.toNat v9) 178 0 (-1)) 179 0 0, h.2.2.1, h.2.2.2))) rfl ?_
              refine hp_getr rfl (hH.1 118 (17, 105) rfl) rfl (hH.2 118 90 (some 181) rfl) ?_
              refine qm_Rp.go 2 (c' := (258, [.ref 118, .int 0, .int hv, .float 0], [.int 0, .ref 181, .int 0, .ref 181], (h.1, qm_up (qm_up (qm_up (qm_up (qm_up I85 176 hv.toInt.toNat v86) 172 hv.toInt.toNat 2) 175 hv.toInt.toNat v9) 178 0 (-1)) 179 0 0, h.2.2.1, h.2.2.2))) rfl ?_
              obtain ⟨v92, q_v92⟩ : ∃ v_, h.2.1 181 0 = v_ := ⟨_, rfl⟩
              refine hp_ial (v := v92) rfl (hH.1 181 (0, 2) rfl) (show (qm_up (qm_up (qm_up (qm_up (qm_up I85 176 hv.toInt.toNat v86) 172 hv.toInt.toNat 2) 175 hv.toInt.toNat v9) 178 0 (-1)) 179 0 0) 181 0 = _ from ((hk_ot rfl).trans ((hk_ot rfl).trans ((hk_ot rfl).trans ((hk_ot rfl).trans ((hk_ot rfl).trans ((f_I85 181 rfl 0).trans ((hk_ot rfl).trans q_v92)))))))) (fun ia_92 ib_92 => ?_)
              refine qm_Rp.go 2 (c' := (261, [.ref 118, .int 0, .int hv, .float 0], [.int (v92 + 1), .int 0, .ref 181], (h.1, qm_up (qm_up (qm_up (qm_up (qm_up I85 176 hv.toInt.toNat v86) 172 hv.toInt.toNat 2) 175 hv.toInt.toNat v9) 178 0 (-1)) 179 0 0, h.2.2.1, h.2.2.2))) rfl ?_
              obtain ⟨v94, q_v94⟩ : ∃ v_, (v92 + 1) = v_ := ⟨_, rfl⟩
              rw [q_v94]
              refine hp_ias rfl (hH.1 181 (0, 2) rfl) (fun ia_94 ib_94 => ?_)
              refine qm_Rp.go 1 (c' := (263, [.ref 118, .int 0, .int hv, .float 0], [.int 1], (h.1, qm_up (qm_up (qm_up (qm_up (qm_up (qm_up I85 176 hv.toInt.toNat v86) 172 hv.toInt.toNat 2) 175 hv.toInt.toNat v9) 178 0 (-1)) 179 0 0) 181 0 v94, h.2.2.1, h.2.2.2))) rfl ?_
              refine qm_Rp.rt (v := (some (.int 1))) (h' := (h.1, qm_up (qm_up (qm_up (qm_up (qm_up (qm_up I85 176 hv.toInt.toNat v86) 172 hv.toInt.toNat 2) 175 hv.toInt.toNat v9) 178 0 (-1)) 179 0 0) 181 0 v94, h.2.2.1, h.2.2.2)) rfl ?_
              have e := jGo_f (s := 0) (A := A) (K := h.2.1) (c := 0) (by rw [q_hv]; omega) (by rw [q_v4, q_hv, q_v6]; exact hk_eqi.mpr (by omega)) (fun z => by unfold jWn at z; rw [q_v10, q_v9, q_v11] at z; omega) (by rw [q_v55, q_v57]; omega)
              have eR : jRe 0 A h.2.1 hv.toInt.toNat = v86.toInt := by unfold jRe; rw [q_v61, q_v80, q_v6, q_v83, okb_t (show v61.toInt = 0 by omega)]; exact e_v86.symm
              have eS : zR (jSh 0 A h.2.1 hv.toInt.toNat) I85 := by unfold jSh; rw [q_v61, q_v80, q_v6, q_v83, okb_t (show v61.toInt = 0 by omega)]; exact zr_I85
              rw [q_hv, eR, Int32.ofInt_toInt] at e
              have e2 : jEq (jFi h.2.1 0 hv.toInt.toNat v86) (qm_up (qm_up (qm_up (qm_up (qm_up (qm_up I85 176 hv.toInt.toNat v86) 172 hv.toInt.toNat 2) 175 hv.toInt.toNat v9) 178 0 (-1)) 179 0 0) 181 0 v94) := by
                unfold jFi
                rw [q_v55, q_v57, q_v9, q_v92, q_v94]
                exact jEq_up (jEq_up (jEq_up (jEq_up (jEq_up (jEq_up (jEq_fr jEq_rf f_I85 (by decide)))))))
              refine k (qm_up (qm_up (qm_up (qm_up (qm_up (qm_up I85 176 hv.toInt.toNat v86) 172 hv.toInt.toNat 2) 175 hv.toInt.toNat v9) 178 0 (-1)) 179 0 0) 181 0 v94) 1 (fun o ho i => ((hk_mod ho rfl).trans ((hk_mod ho rfl).trans ((hk_mod ho rfl).trans ((hk_mod ho rfl).trans ((hk_mod ho rfl).trans ((hk_mod ho rfl).trans ((f_I85 o (hk_ms rfl ho) i).trans ((hk_mod ho rfl).trans rfl))))))))) (by rw [e]; exact zR_j eS (fun o ho i => ((hk_mod ho rfl).trans ((hk_mod ho rfl).trans ((hk_mod ho rfl).trans ((hk_mod ho rfl).trans ((hk_mod ho rfl).trans ((hk_mod ho rfl).trans rfl)))))))) (by rw [e]; exact e2) (Or.inl ⟨rfl, ?_, ?_⟩)
              · rw [q_v92, q_v94]; exact hk_same
              · exact ((hk_neq (by decide)).trans ((hk_ot rfl).trans ((hk_ot rfl).trans ((hk_ot rfl).trans ((hk_ot rfl).trans ((hk_ot rfl).trans ((f_I85 181 rfl 1).trans ((hk_ot rfl).trans rfl))))))))
          · refine qm_Rp.go 1 (c' := (158, [.ref 118, .int 0, .int hv, .float 0], [.int 0], (h.1, qm_up h.2.1 179 0 v57, h.2.2.1, h.2.2.2))) rfl ?_
            refine qm_Rp.rt (v := (some (.int 0))) (h' := (h.1, qm_up h.2.1 179 0 v57, h.2.2.1, h.2.2.2)) rfl ?_
            have e := jGo_l (s := 0) (A := A) (K := h.2.1) (c := 0) (by rw [q_hv]; omega) (by rw [q_v4, q_hv, q_v6]; exact hk_eqi.mpr (by omega)) (fun z => by unfold jWn at z; rw [q_v10, q_v9, q_v11] at z; omega) (by rw [q_v55, q_v57]; omega)
            have e2 : jLi h.2.1 0 = qm_up h.2.1 179 0 v57 := by unfold jLi; rw [q_v55, q_v57]
            exact k (qm_up h.2.1 179 0 v57) 0 (fun o ho i => ((hk_mod ho rfl).trans rfl)) (by rw [e]; exact zR_j hr (fun o ho i => ((hk_mod ho rfl).trans rfl))) (by rw [e]; show jEq (jLi h.2.1 0) _; rw [e2]; exact jEq_rf) (Or.inr ⟨rfl, fun i => ((hk_ot rfl).trans rfl)⟩)
        · refine qm_Rp.go 2 (c' := (15, [.int v9, .int v10, .int v11], [.int 1], h)) rfl ?_
          refine qm_Rp.rt (v := (some (.int 1))) (h' := h) rfl ?_
          refine qm_Rp.go 2 (c' := (136, [.ref 118, .int 0, .int hv, .float 0], [.int 0], h)) rfl ?_
          refine qm_Rp.rt (v := (some (.int 0))) (h' := h) rfl ?_
          have e := jGo_w (s := 0) (A := A) (K := h.2.1) (c := 0) (by rw [q_hv]; omega) (by rw [q_v4, q_hv, q_v6]; exact hk_eqi.mpr (by omega)) (by unfold jWn; rw [q_v10, q_v9, q_v11]; omega)
          exact k h.2.1 0 (fun _ _ _ => rfl) (by rw [e]; exact hr) (by rw [e]; exact jEq_rf) (Or.inr ⟨rfl, fun _ => rfl⟩)
    · refine qm_Rp.go 1 (c' := (50, [.ref 118, .int 0, .int hv, .float 0], [.ref 118], h)) rfl ?_
      refine hp_getr rfl (hH.1 118 (17, 105) rfl) rfl (hH.2 118 86 (some 177) rfl) ?_
      refine qm_Rp.go 1 (c' := (54, [.ref 118, .int 0, .int hv, .float 0], [.int 0, .ref 177], h)) rfl ?_
      refine hp_ial (v := v4) rfl (hH.1 177 (0, 2) rfl) q_v4 (fun ia_95 ib_95 => ?_)
      refine qm_Rp.go 1 (c' := (56, [.ref 118, .int 0, .int hv, .float 0], [.ref 118, .int v4], h)) rfl ?_
      refine hp_getr rfl (hH.1 118 (17, 105) rfl) rfl (hH.2 118 78 (some 170) rfl) ?_
      refine qm_Rp.go 1 (c' := (60, [.ref 118, .int 0, .int hv, .float 0], [.int hv, .ref 170, .int v4], h)) rfl ?_
      refine hp_ial (v := v6) rfl (hH.1 170 (0, 40) rfl) q_v6 (fun ia_96 ib_96 => ?_)
      refine qm_Rp.go 0 (c' := (61, [.ref 118, .int 0, .int hv, .float 0], [.int v6, .int v4], h)) rfl ?_
      refine hp_cge (ix := v4.toInt) (iy := v6.toInt) rfl rfl rfl (fun z98 => ?_) (fun z98 => ?_)
      · refine qm_Rp.go 1 (c' := (76, [.ref 118, .int 0, .int hv, .float 0], [.ref 118], h)) rfl ?_
        refine hp_getr rfl (hH.1 118 (17, 105) rfl) rfl (hH.2 118 86 (some 177) rfl) ?_
        refine qm_Rp.go 1 (c' := (80, [.ref 118, .int 0, .int hv, .float 0], [.int 0, .ref 177], h)) rfl ?_
        refine hp_ial (v := v4) rfl (hH.1 177 (0, 2) rfl) q_v4 (fun ia_98 ib_98 => ?_)
        refine qm_Rp.go 2 (c' := (83, [.ref 118, .int 0, .int hv, .float 0], [.int (v4 - 1)], h)) rfl ?_
        obtain ⟨v100, q_v100, e_v100⟩ := hk_sub (x := v4) (y := 1) (a := v4.toInt) (b := 1) rfl rfl (by omega) (by omega)
        rw [q_v100]
        refine qm_Rp.go 3 (c' := (86, [.ref 118, .int 0, .int hv, .int v100], [.ref 118, .int v100], h)) rfl ?_
        refine hp_getr rfl (hH.1 118 (17, 105) rfl) rfl (hH.2 118 86 (some 177) rfl) ?_
        refine qm_Rp.go 3 (c' := (92, [.ref 118, .int 0, .int hv, .int v100], [.int 1, .ref 177, .int v100], h)) rfl ?_
        obtain ⟨v101, q_v101⟩ : ∃ v_, h.2.1 177 1 = v_ := ⟨_, rfl⟩
        have b_v101 : (-1 : Int) ≤ v101.toInt ∧ v101.toInt ≤ 4 := by rw [← q_v101]; exact b177 1 (by decide)
        refine hp_ial (v := v101) rfl (hH.1 177 (0, 2) rfl) q_v101 (fun ia_101 ib_101 => ?_)
        refine qm_Rp.go 0 (c' := (93, [.ref 118, .int 0, .int hv, .int v100], [.int v101, .int v100], h)) rfl ?_
        refine hp_cne (ix := v100.toInt) (iy := v101.toInt) rfl rfl rfl (fun z103 => ?_) (fun z103 => ?_)
        · refine qm_Rp.go 1 (c' := (99, [.ref 118, .int 0, .int hv, .int v100], [.ref 118], h)) rfl ?_
          refine hp_getr rfl (hH.1 118 (17, 105) rfl) rfl (hH.2 118 86 (some 177) rfl) ?_
          refine qm_Rp.go 2 (c' := (104, [.ref 118, .int 0, .int hv, .int v100], [.int v100, .int 0, .ref 177], h)) rfl ?_
          refine hp_ias rfl (hH.1 177 (0, 2) rfl) (fun ia_103 ib_103 => ?_)
          refine qm_Rp.go 1 (c' := (106, [.ref 118, .int 0, .int hv, .int v100], [.ref 118], (h.1, qm_up h.2.1 177 0 v100, h.2.2.1, h.2.2.2))) rfl ?_
          refine hp_getr rfl (hH.1 118 (17, 105) rfl) rfl (hH.2 118 89 (some 180) rfl) ?_
          refine qm_Rp.go 2 (c' := (111, [.ref 118, .int 0, .int hv, .int v100], [.int 0, .ref 180, .int 0, .ref 180], (h.1, qm_up h.2.1 177 0 v100, h.2.2.1, h.2.2.2))) rfl ?_
          obtain ⟨v105, q_v105⟩ : ∃ v_, h.2.1 180 0 = v_ := ⟨_, rfl⟩
          refine hp_ial (v := v105) rfl (hH.1 180 (0, 2) rfl) (show (qm_up h.2.1 177 0 v100) 180 0 = _ from ((hk_ot rfl).trans q_v105)) (fun ia_105 ib_105 => ?_)
          refine qm_Rp.go 2 (c' := (114, [.ref 118, .int 0, .int hv, .int v100], [.int (v105 + 1), .int 0, .ref 180], (h.1, qm_up h.2.1 177 0 v100, h.2.2.1, h.2.2.2))) rfl ?_
          obtain ⟨v107, q_v107⟩ : ∃ v_, (v105 + 1) = v_ := ⟨_, rfl⟩
          rw [q_v107]
          refine hp_ias rfl (hH.1 180 (0, 2) rfl) (fun ia_107 ib_107 => ?_)
          refine qm_Rp.go 1 (c' := (116, [.ref 118, .int 0, .int hv, .int v100], [.int 0], (h.1, qm_up (qm_up h.2.1 177 0 v100) 180 0 v107, h.2.2.1, h.2.2.2))) rfl ?_
          refine qm_Rp.rt (v := (some (.int 0))) (h' := (h.1, qm_up (qm_up h.2.1 177 0 v100) 180 0 v107, h.2.2.1, h.2.2.2)) rfl ?_
          have hmv : jMv h.2.1 0 = v100 := by unfold jMv; rw [q_hv, q_v6, q_v4, okb_f (show ¬ v4.toInt < v6.toInt by omega)]; exact q_v100
          have e := jGo_m (s := 0) (A := A) (K := h.2.1) (c := 0) (by rw [q_hv]; omega) (fun z => by rw [q_v4, q_hv, q_v6] at z; have := congrArg Int32.toInt z; omega) (by rw [hmv, show 1 - 0 = 1 from rfl, q_v101]; exact fun z => by have := congrArg Int32.toInt z; omega)
          have e2 : jMo h.2.1 0 = qm_up (qm_up h.2.1 177 0 v100) 180 0 v107 := by unfold jMo; rw [hmv, q_v105, q_v107]
          exact k (qm_up (qm_up h.2.1 177 0 v100) 180 0 v107) 0 (fun o ho i => ((hk_mod ho rfl).trans ((hk_mod ho rfl).trans rfl))) (by rw [e]; exact zR_j hr (fun o ho i => ((hk_mod ho rfl).trans ((hk_mod ho rfl).trans rfl)))) (by rw [e]; show jEq (jMo h.2.1 0) _; rw [e2]; exact jEq_rf) (Or.inr ⟨rfl, fun i => ((hk_ot rfl).trans ((hk_ot rfl).trans rfl))⟩)
        · refine qm_Rp.go 1 (c' := (97, [.ref 118, .int 0, .int hv, .int v100], [.int 0], h)) rfl ?_
          refine qm_Rp.rt (v := (some (.int 0))) (h' := h) rfl ?_
          have hmv : jMv h.2.1 0 = v100 := by unfold jMv; rw [q_hv, q_v6, q_v4, okb_f (show ¬ v4.toInt < v6.toInt by omega)]; exact q_v100
          have e := jGo_b (s := 0) (A := A) (K := h.2.1) (c := 0) (by rw [q_hv]; omega) (fun z => by rw [q_v4, q_hv, q_v6] at z; have := congrArg Int32.toInt z; omega) (by rw [hmv, show 1 - 0 = 1 from rfl, q_v101]; exact hk_eqi.mpr (by omega))
          exact k h.2.1 0 (fun _ _ _ => rfl) (by rw [e]; exact hr) (by rw [e]; exact jEq_rf) (Or.inr ⟨rfl, fun _ => rfl⟩)
      · refine qm_Rp.go 1 (c' := (65, [.ref 118, .int 0, .int hv, .float 0], [.ref 118], h)) rfl ?_
        refine hp_getr rfl (hH.1 118 (17, 105) rfl) rfl (hH.2 118 86 (some 177) rfl) ?_
        refine qm_Rp.go 1 (c' := (69, [.ref 118, .int 0, .int hv, .float 0], [.int 0, .ref 177], h)) rfl ?_
        refine hp_ial (v := v4) rfl (hH.1 177 (0, 2) rfl) q_v4 (fun ia_108 ib_108 => ?_)
        refine qm_Rp.go 2 (c' := (72, [.ref 118, .int 0, .int hv, .float 0], [.int (v4 + 1)], h)) rfl ?_
        obtain ⟨v110, q_v110, e_v110⟩ := hk_add (x := v4) (y := 1) (a := v4.toInt) (b := 1) rfl rfl (by omega) (by omega)
        rw [q_v110]
        refine qm_Rp.go 1 (c' := (83, [.ref 118, .int 0, .int hv, .float 0], [.int v110], h)) rfl ?_
        refine qm_Rp.go 3 (c' := (86, [.ref 118, .int 0, .int hv, .int v110], [.ref 118, .int v110], h)) rfl ?_
        refine hp_getr rfl (hH.1 118 (17, 105) rfl) rfl (hH.2 118 86 (some 177) rfl) ?_
        refine qm_Rp.go 3 (c' := (92, [.ref 118, .int 0, .int hv, .int v110], [.int 1, .ref 177, .int v110], h)) rfl ?_
        obtain ⟨v111, q_v111⟩ : ∃ v_, h.2.1 177 1 = v_ := ⟨_, rfl⟩
        have b_v111 : (-1 : Int) ≤ v111.toInt ∧ v111.toInt ≤ 4 := by rw [← q_v111]; exact b177 1 (by decide)
        refine hp_ial (v := v111) rfl (hH.1 177 (0, 2) rfl) q_v111 (fun ia_111 ib_111 => ?_)
        refine qm_Rp.go 0 (c' := (93, [.ref 118, .int 0, .int hv, .int v110], [.int v111, .int v110], h)) rfl ?_
        refine hp_cne (ix := v110.toInt) (iy := v111.toInt) rfl rfl rfl (fun z113 => ?_) (fun z113 => ?_)
        · refine qm_Rp.go 1 (c' := (99, [.ref 118, .int 0, .int hv, .int v110], [.ref 118], h)) rfl ?_
          refine hp_getr rfl (hH.1 118 (17, 105) rfl) rfl (hH.2 118 86 (some 177) rfl) ?_
          refine qm_Rp.go 2 (c' := (104, [.ref 118, .int 0, .int hv, .int v110], [.int v110, .int 0, .ref 177], h)) rfl ?_
          refine hp_ias rfl (hH.1 177 (0, 2) rfl) (fun ia_113 ib_113 => ?_)
          refine qm_Rp.go 1 (c' := (106, [.ref 118, .int 0, .int hv, .int v110], [.ref 118], (h.1, qm_up h.2.1 177 0 v110, h.2.2.1, h.2.2.2))) rfl ?_
          refine hp_getr rfl (hH.1 118 (17, 105) rfl) rfl (hH.2 118 89 (some 180) rfl) ?_
          refine qm_Rp.go 2 (c' := (111, [.ref 118, .int 0, .int hv, .int v110], [.int 0, .ref 180, .int 0, .ref 180], (h.1, qm_up h.2.1 177 0 v110, h.2.2.1, h.2.2.2))) rfl ?_
          obtain ⟨v115, q_v115⟩ : ∃ v_, h.2.1 180 0 = v_ := ⟨_, rfl⟩
          refine hp_ial (v := v115) rfl (hH.1 180 (0, 2) rfl) (show (qm_up h.2.1 177 0 v110) 180 0 = _ from ((hk_ot rfl).trans q_v115)) (fun ia_115 ib_115 => ?_)
          refine qm_Rp.go 2 (c' := (114, [.ref 118, .int 0, .int hv, .int v110], [.int (v115 + 1), .int 0, .ref 180], (h.1, qm_up h.2.1 177 0 v110, h.2.2.1, h.2.2.2))) rfl ?_
          obtain ⟨v117, q_v117⟩ : ∃ v_, (v115 + 1) = v_ := ⟨_, rfl⟩
          rw [q_v117]
          refine hp_ias rfl (hH.1 180 (0, 2) rfl) (fun ia_117 ib_117 => ?_)
          refine qm_Rp.go 1 (c' := (116, [.ref 118, .int 0, .int hv, .int v110], [.int 0], (h.1, qm_up (qm_up h.2.1 177 0 v110) 180 0 v117, h.2.2.1, h.2.2.2))) rfl ?_
          refine qm_Rp.rt (v := (some (.int 0))) (h' := (h.1, qm_up (qm_up h.2.1 177 0 v110) 180 0 v117, h.2.2.1, h.2.2.2)) rfl ?_
          have hmv : jMv h.2.1 0 = v110 := by unfold jMv; rw [q_hv, q_v6, q_v4, okb_t (show v4.toInt < v6.toInt by omega)]; exact q_v110
          have e := jGo_m (s := 0) (A := A) (K := h.2.1) (c := 0) (by rw [q_hv]; omega) (fun z => by rw [q_v4, q_hv, q_v6] at z; have := congrArg Int32.toInt z; omega) (by rw [hmv, show 1 - 0 = 1 from rfl, q_v111]; exact fun z => by have := congrArg Int32.toInt z; omega)
          have e2 : jMo h.2.1 0 = qm_up (qm_up h.2.1 177 0 v110) 180 0 v117 := by unfold jMo; rw [hmv, q_v115, q_v117]
          exact k (qm_up (qm_up h.2.1 177 0 v110) 180 0 v117) 0 (fun o ho i => ((hk_mod ho rfl).trans ((hk_mod ho rfl).trans rfl))) (by rw [e]; exact zR_j hr (fun o ho i => ((hk_mod ho rfl).trans ((hk_mod ho rfl).trans rfl)))) (by rw [e]; show jEq (jMo h.2.1 0) _; rw [e2]; exact jEq_rf) (Or.inr ⟨rfl, fun i => ((hk_ot rfl).trans ((hk_ot rfl).trans rfl))⟩)
        · refine qm_Rp.go 1 (c' := (97, [.ref 118, .int 0, .int hv, .int v110], [.int 0], h)) rfl ?_
          refine qm_Rp.rt (v := (some (.int 0))) (h' := h) rfl ?_
          have hmv : jMv h.2.1 0 = v110 := by unfold jMv; rw [q_hv, q_v6, q_v4, okb_t (show v4.toInt < v6.toInt by omega)]; exact q_v110
          have e := jGo_b (s := 0) (A := A) (K := h.2.1) (c := 0) (by rw [q_hv]; omega) (fun z => by rw [q_v4, q_hv, q_v6] at z; have := congrArg Int32.toInt z; omega) (by rw [hmv, show 1 - 0 = 1 from rfl, q_v111]; exact hk_eqi.mpr (by omega))
          exact k h.2.1 0 (fun _ _ _ => rfl) (by rw [e]; exact hr) (by rw [e]; exact jEq_rf) (Or.inr ⟨rfl, fun _ => rfl⟩)
  · refine qm_Rp.go 1 (c' := (26, [.ref 118, .int 0, .float 0, .float 0], [.int 0], h)) rfl ?_
    refine qm_Rp.rt (v := (some (.int 0))) (h' := h) rfl ?_
    have e := jGo_n (s := 0) (A := A) (K := h.2.1) (c := 0) (by rw [q_hv]; omega)
    exact k h.2.1 0 (fun _ _ _ => rfl) (by rw [e]; exact hr) (by rw [e]; exact jEq_rf) (Or.inr ⟨rfl, fun _ => rfl⟩)
theorem px_works00 {X : Option (Nat × (Nat → Int32))} {Z : Option Value → qm_H → Prop} {h : qm_H} {fu : Nat} (hH : hk_H h) {A : Nat → Nat → Int} (hP : jP 0 (A, h.2.1)) (hr : zR A h.2.1) (b170 : ∀ k, (0 : Int) ≤ (h.2.1 170 k).toInt ∧ (h.2.1 170 k).toInt ≤ 4) (k : ∀ (I : Nat → Nat → Int32) (v : Int32), (∀ o, [150, 151, 152, 153, 154, 155, 156, 172, 173, 174, 175, 176, 177, 178, 179, 180, 181].contains o = false → ∀ i, I o i = h.2.1 o i) → zR (jSt 0 (A, h.2.1) 0).1 I → jEq (jSt 0 (A, h.2.1) 0).2 I → (v.toInt = 1 ∧ I 181 0 = h.2.1 181 0 + 1 ∧ I 181 1 = h.2.1 181 1 ∨ v.toInt = 0 ∧ ∀ i, I 181 i = h.2.1 181 i) → Z (some (.int v)) (h.1, I, h.2.2.1, h.2.2.2)) : qm_Rp fu X cd_362 (qm_ent 4 [.ref 118, .int 0] h) Z := by
  have hP0 := hP
  obtain ⟨p1, p2, p3, ⟨⟨n1, n2⟩, n3, n4, n5⟩, p5⟩ := hP
  have cr := n3 0 (by decide)
  have b9 : -1 ≤ (h.2.1 178 0).toInt ∧ (h.2.1 178 0).toInt ≤ 39 := by
    rcases cr with w | w
    · have w1 : (h.2.1 178 0).toInt = -1 := w.1
      omega
    · have n1 : 0 ≤ (h.2.1 118 75).toInt ∧ (h.2.1 118 75).toInt ≤ 40 := n1
      have w1 : 0 ≤ (h.2.1 178 0).toInt ∧ (h.2.1 178 0).toInt < (h.2.1 118 75).toInt := w.1
      omega
  have b179 : 0 ≤ (h.2.1 179 0).toInt ∧ (h.2.1 179 0).toInt ≤ 1 := by
    rcases cr with w | w
    · have w2 : (h.2.1 179 0).toInt = 0 := w.2
      omega
    · exact w.2.2
  have kz : (-1 : Int32).toInt = -1 := rfl
  refine qm_Rp.go 1 (c' := (1, [.ref 118, .int 0, .float 0, .float 0], [.ref 118], h)) rfl ?_
  refine hp_getr rfl (hH.1 118 (17, 105) rfl) rfl (hH.2 118 87 (some 178) rfl) ?_
  refine qm_Rp.go 1 (c' := (5, [.ref 118, .int 0, .float 0, .float 0], [.int 0, .ref 178], h)) rfl ?_
  refine hp_ial (v := h.2.1 178 0) rfl (hH.1 178 (0, 2) rfl) rfl (fun _ _ => ?_)
  refine qm_Rp.go 1 (c' := (7, [.ref 118, .int 0, .float 0, .float 0], [.int (-1), .int (h.2.1 178 0)], h)) rfl ?_
  refine hp_cne (ix := (h.2.1 178 0).toInt) (iy := -1) rfl rfl rfl (fun z => ?_) (fun z => ?_)
  · refine qm_Rp.go 0 (c' := (15, [.ref 118, .int 0, .float 0, .float 0], [], h)) rfl ?_
    rw [jSt_0 z] at k
    exact px_wrest00 hH hP0 hr rfl b9 b170 n2 b179 k
  · refine qm_Rp.go 2 (c' := (12, [.ref 118, .int 0, .float 0, .float 0], [.int 0, .ref 118], h)) rfl ?_
    rw [jSt_1 z] at k
    have jT : jI (jTk h.2.1 0) := jTk_I (by decide) hP0.2.2.2.1
    have f9 : ∀ o, [172, 173, 174, 178, 179].contains o = false → jTk h.2.1 0 o = h.2.1 o := fun o ho => by
      have m : ∀ q ∈ [172, 173, 174, 178, 179], o ≠ q := fun q hq e => by
        subst e
        rw [List.contains_iff_mem.mpr hq] at ho
        cases ho
      by_cases q : jNx h.2.1 0 < (h.2.1 118 75).toInt.toNat
      · rw [jTk_1 q]
        exact jT1_at.1 o (m 178 (by decide)) (m 179 (by decide)) (m 172 (by decide)) (m 173 (by decide)) (m 174 (by decide))
      · rw [jTk_0 q]
    have hP2 : jP 0 (A, jTk h.2.1 0) := ⟨p1, p2, p3, jT, by show 0 ≤ (jTk h.2.1 0 118 85).toInt; rw [jTk_118]; exact p5⟩
    have cr2 := jT.2.1 0 (by decide)
    refine hp_inv (o := 118) (r := []) (as := [.ref 118, .int 0]) rfl rfl (hH.1 118 (17, 105) rfl) rfl rfl rfl (px_tk0 (h := h) hH (n := h.2.1 118 75) rfl n1 (hk_eqi.mpr (z.trans kz.symm)) (sv := h.2.1 177 1) rfl (hs := h.2.1 178 1) rfl (n2 1 (by decide)) b170 ?_)
    refine px_wrest00 (h := (h.1, jTk h.2.1 0, h.2.2.1, h.2.2.2)) hH hP2 (zR_j hr (fun o ho i => by show jTk h.2.1 0 o i = h.2.1 o i; rw [f9 o (hk_ms rfl ho)])) rfl ?_ (fun q => by show (0 : Int) ≤ (jTk h.2.1 0 170 q).toInt ∧ (jTk h.2.1 0 170 q).toInt ≤ 4; rw [f9 170 rfl]; exact b170 q) jT.1.2 ?_ (fun I v f g1 g2 g3 => k I v (fun o ho i => (f o ho i).trans (by show jTk h.2.1 0 o i = h.2.1 o i; rw [f9 o (hk_ms rfl ho)])) g1 g2 ?_)
    · rcases cr2 with w | w
      · have w1 : (jTk h.2.1 0 178 0).toInt = -1 := w.1
        show -1 ≤ (jTk h.2.1 0 178 0).toInt ∧ (jTk h.2.1 0 178 0).toInt ≤ 39
        omega
      · have n1 : 0 ≤ (jTk h.2.1 0 118 75).toInt ∧ (jTk h.2.1 0 118 75).toInt ≤ 40 := jT.1.1
        have w1 : 0 ≤ (jTk h.2.1 0 178 0).toInt ∧ (jTk h.2.1 0 178 0).toInt < (jTk h.2.1 0 118 75).toInt := w.1
        show -1 ≤ (jTk h.2.1 0 178 0).toInt ∧ (jTk h.2.1 0 178 0).toInt ≤ 39
        omega
    · rcases cr2 with w | w
      · have w2 : (jTk h.2.1 0 179 0).toInt = 0 := w.2
        show 0 ≤ (jTk h.2.1 0 179 0).toInt ∧ (jTk h.2.1 0 179 0).toInt ≤ 1
        omega
      · exact w.2.2
    · have g3 : (v.toInt = 1 ∧ I 181 0 = jTk h.2.1 0 181 0 + 1 ∧ I 181 1 = jTk h.2.1 0 181 1 ∨ v.toInt = 0 ∧ ∀ i, I 181 i = jTk h.2.1 0 181 i) := g3
      rw [f9 181 rfl] at g3
      exact g3
theorem px_wk00 {X : Option (Nat × (Nat → Int32))} {Z : Option Value → qm_H → Prop} {h : qm_H} {fu : Nat} (hH : hk_H h) {A : Nat → Nat → Int} {K : Nat → Nat → Int32} (hP : jP 0 (A, K)) (hr : zR A h.2.1) (je : jEq K h.2.1) (b170 : ∀ k, (0 : Int) ≤ (h.2.1 170 k).toInt ∧ (h.2.1 170 k).toInt ≤ 4) (k : ∀ (I : Nat → Nat → Int32) (v : Int32), (∀ o, [150, 151, 152, 153, 154, 155, 156, 172, 173, 174, 175, 176, 177, 178, 179, 180, 181].contains o = false → ∀ i, I o i = h.2.1 o i) → zR (jSt 0 (A, K) 0).1 I → jEq (jSt 0 (A, K) 0).2 I → (v.toInt = 1 ∧ I 181 0 = h.2.1 181 0 + 1 ∧ I 181 1 = h.2.1 181 1 ∨ v.toInt = 0 ∧ ∀ i, I 181 i = h.2.1 181 i) → Z (some (.int v)) (h.1, I, h.2.2.1, h.2.2.2)) : qm_Rp fu X cd_362 (qm_ent 4 [.ref 118, .int 0] h) Z := px_works00 hH (jEq_P hP je) hr b170 (fun I v f z j a => k I v f (by rw [(jEq_st (s := 0) (A := A) (c := 0) je).1]; exact z) (jEq_tr (jEq_st (s := 0) (A := A) (c := 0) je).2 j) a)
theorem px_wrest10 {X : Option (Nat × (Nat → Int32))} {Z : Option Value → qm_H → Prop} {h : qm_H} {fu : Nat} (hH : hk_H h) {A : Nat → Nat → Int} (hP : jP 0 (A, h.2.1)) (hr : zR A h.2.1) {hv : Int32} (q_hv : h.2.1 178 1 = hv) (b_hv : -1 ≤ hv.toInt ∧ hv.toInt ≤ 39) (b170 : ∀ k, (0 : Int) ≤ (h.2.1 170 k).toInt ∧ (h.2.1 170 k).toInt ≤ 4) (b177 : ∀ d : Nat, d < 2 → -1 ≤ (h.2.1 177 d).toInt ∧ (h.2.1 177 d).toInt ≤ 4) (b179 : 0 ≤ (h.2.1 179 1).toInt ∧ (h.2.1 179 1).toInt ≤ 1) (k : ∀ (I : Nat → Nat → Int32) (v : Int32), (∀ o, [150, 151, 152, 153, 154, 155, 156, 172, 173, 174, 175, 176, 177, 178, 179, 180, 181].contains o = false → ∀ i, I o i = h.2.1 o i) → zR (jGo 0 A h.2.1 1).1 I → jEq (jGo 0 A h.2.1 1).2 I → (v.toInt = 1 ∧ I 181 1 = h.2.1 181 1 + 1 ∧ I 181 0 = h.2.1 181 0 ∨ v.toInt = 0 ∧ ∀ i, I 181 i = h.2.1 181 i) → Z (some (.int v)) (h.1, I, h.2.2.1, h.2.2.2)) : qm_Rp fu X cd_362 (15, [.ref 118, .int 1, .float 0, .float 0], [], h) Z := by
  have kz0 : (0 : Int32).toInt = 0 := rfl
  have kz1 : (1 : Int32).toInt = 1 := rfl
  have kz2 : (2 : Int32).toInt = 2 := rfl
  have kz3 : (3 : Int32).toInt = 3 := rfl
  have kz4 : (4 : Int32).toInt = 4 := rfl
  have kz5 : (5 : Int32).toInt = 5 := rfl
  have kz6 : (6 : Int32).toInt = 6 := rfl
  have kz7 : (7 : Int32).toInt = 7 := rfl
  have kz8 : (8 : Int32).toInt = 8 := rfl
  have kz9 : (9 : Int32).toInt = 9 := rfl
  have kzm1 : ((-1) : Int32).toInt = (-1) := rfl
  have kzm2 : ((-2) : Int32).toInt = (-2) := rfl
  have kzm3 : ((-3) : Int32).toInt = (-3) := rfl
  refine qm_Rp.go 1 (c' := (16, [.ref 118, .int 1, .float 0, .float 0], [.ref 118], h)) rfl ?_
  refine hp_getr rfl (hH.1 118 (17, 105) rfl) rfl (hH.2 118 87 (some 178) rfl) ?_
  refine qm_Rp.go 1 (c' := (20, [.ref 118, .int 1, .float 0, .float 0], [.int 1, .ref 178], h)) rfl ?_
  refine hp_ial (v := hv) rfl (hH.1 178 (0, 2) rfl) q_hv (fun ia_0 ib_0 => ?_)
  refine qm_Rp.go 1 (c' := (22, [.ref 118, .int 1, .float 0, .float 0], [.int (-1), .int hv], h)) rfl ?_
  refine hp_cne (ix := hv.toInt) (iy := (-1)) rfl rfl rfl (fun z2 => ?_) (fun z2 => ?_)
  · refine qm_Rp.go 1 (c' := (28, [.ref 118, .int 1, .float 0, .float 0], [.ref 118], h)) rfl ?_
    refine hp_getr rfl (hH.1 118 (17, 105) rfl) rfl (hH.2 118 87 (some 178) rfl) ?_
    refine qm_Rp.go 1 (c' := (32, [.ref 118, .int 1, .float 0, .float 0], [.int 1, .ref 178], h)) rfl ?_
    refine hp_ial (v := hv) rfl (hH.1 178 (0, 2) rfl) q_hv (fun ia_2 ib_2 => ?_)
    refine qm_Rp.go 2 (c' := (35, [.ref 118, .int 1, .int hv, .float 0], [.ref 118], h)) rfl ?_
    refine hp_getr rfl (hH.1 118 (17, 105) rfl) rfl (hH.2 118 86 (some 177) rfl) ?_
    refine qm_Rp.go 1 (c' := (39, [.ref 118, .int 1, .int hv, .float 0], [.int 1, .ref 177], h)) rfl ?_
    obtain ⟨v4, q_v4⟩ : ∃ v_, h.2.1 177 1 = v_ := ⟨_, rfl⟩
    have b_v4 : (-1 : Int) ≤ v4.toInt ∧ v4.toInt ≤ 4 := by rw [← q_v4]; exact b177 1 (by decide)
    refine hp_ial (v := v4) rfl (hH.1 177 (0, 2) rfl) q_v4 (fun ia_4 ib_4 => ?_)
    refine qm_Rp.go 1 (c' := (41, [.ref 118, .int 1, .int hv, .float 0], [.ref 118, .int v4], h)) rfl ?_
    refine hp_getr rfl (hH.1 118 (17, 105) rfl) rfl (hH.2 118 78 (some 170) rfl) ?_
    refine qm_Rp.go 1 (c' := (45, [.ref 118, .int 1, .int hv, .float 0], [.int hv, .ref 170, .int v4], h)) rfl ?_
    obtain ⟨v6, q_v6⟩ : ∃ v_, h.2.1 170 hv.toInt.toNat = v_ := ⟨_, rfl⟩
    have b_v6 : (0 : Int) ≤ v6.toInt ∧ v6.toInt ≤ 4 := by rw [← q_v6]; exact b170 (hv.toInt.toNat)
    refine hp_ial (v := v6) rfl (hH.1 170 (0, 40) rfl) q_v6 (fun ia_6 ib_6 => ?_)
    refine qm_Rp.go 0 (c' := (46, [.ref 118, .int 1, .int hv, .float 0], [.int v6, .int v4], h)) rfl ?_
    refine hp_ceq (ix := v4.toInt) (iy := v6.toInt) rfl rfl rfl (fun z8 => ?_) (fun z8 => ?_)
    · refine qm_Rp.go 1 (c' := (118, [.ref 118, .int 1, .int hv, .float 0], [.ref 118], h)) rfl ?_
      obtain ⟨v9, q_v9⟩ : ∃ v_, h.2.1 118 85 = v_ := ⟨_, rfl⟩
      refine hp_geti (v := v9) rfl (hH.1 118 (17, 105) rfl) rfl q_v9 ?_
      refine qm_Rp.go 1 (c' := (122, [.ref 118, .int 1, .int hv, .float 0], [.ref 118, .int v9], h)) rfl ?_
      obtain ⟨v10, q_v10⟩ : ∃ v_, h.2.1 118 91 = v_ := ⟨_, rfl⟩
      refine hp_geti (v := v10) rfl (hH.1 118 (17, 105) rfl) rfl q_v10 ?_
      refine qm_Rp.go 1 (c' := (126, [.ref 118, .int 1, .int hv, .float 0], [.ref 118, .int v10, .int v9], h)) rfl ?_
      obtain ⟨v11, q_v11⟩ : ∃ v_, h.2.1 118 92 = v_ := ⟨_, rfl⟩
      refine hp_geti (v := v11) rfl (hH.1 118 (17, 105) rfl) rfl q_v11 ?_
      refine qm_Rp.go 0 (c' := (129, [.ref 118, .int 1, .int hv, .float 0], [.int v11, .int v10, .int v9], h)) rfl ?_
      refine qm_Rp.call (j := 270) (as := [.int v9, .int v10, .int v11]) (c' := (132, [.ref 118, .int 1, .int hv, .float 0], [], h)) rfl rfl ?_
      refine qm_Rp.go 2 (c' := (2, [.int v9, .int v10, .int v11], [.int v10, .int v9], h)) rfl ?_
      refine hp_clt (ix := v9.toInt) (iy := v10.toInt) rfl rfl rfl (fun z12 => ?_) (fun z12 => ?_)
      · refine qm_Rp.go 1 (c' := (15, [.int v9, .int v10, .int v11], [.int 0], h)) rfl ?_
        refine qm_Rp.rt (v := (some (.int 0))) (h' := h) rfl ?_
        refine qm_Rp.go 2 (c' := (138, [.ref 118, .int 1, .int hv, .float 0], [.ref 118], h)) rfl ?_
        refine hp_getr rfl (hH.1 118 (17, 105) rfl) rfl (hH.2 118 88 (some 179) rfl) ?_
        refine qm_Rp.go 2 (c' := (143, [.ref 118, .int 1, .int hv, .float 0], [.int 1, .ref 179, .int 1, .ref 179], h)) rfl ?_
        obtain ⟨v13, q_v13⟩ : ∃ v_, h.2.1 179 1 = v_ := ⟨_, rfl⟩
        have b_v13 : (0 : Int) ≤ v13.toInt ∧ v13.toInt ≤ 1 := by rw [← q_v13]; exact b179
        refine hp_ial (v := v13) rfl (hH.1 179 (0, 2) rfl) q_v13 (fun ia_13 ib_13 => ?_)
        refine qm_Rp.go 2 (c' := (146, [.ref 118, .int 1, .int hv, .float 0], [.int (v13 + 1), .int 1, .ref 179], h)) rfl ?_
        obtain ⟨v15, q_v15, e_v15⟩ := hk_add (x := v13) (y := 1) (a := v13.toInt) (b := 1) rfl rfl (by omega) (by omega)
        rw [q_v15]
        refine hp_ias rfl (hH.1 179 (0, 2) rfl) (fun ia_15 ib_15 => ?_)
        refine qm_Rp.go 1 (c' := (148, [.ref 118, .int 1, .int hv, .float 0], [.ref 118], (h.1, qm_up h.2.1 179 1 v15, h.2.2.1, h.2.2.2))) rfl ?_
        refine hp_getr rfl (hH.1 118 (17, 105) rfl) rfl (hH.2 118 88 (some 179) rfl) ?_
        refine qm_Rp.go 1 (c' := (152, [.ref 118, .int 1, .int hv, .float 0], [.int 1, .ref 179], (h.1, qm_up h.2.1 179 1 v15, h.2.2.1, h.2.2.2))) rfl ?_
        refine hp_ial (v := v15) rfl (hH.1 179 (0, 2) rfl) (show (qm_up h.2.1 179 1 v15) 179 1 = _ from (hk_same)) (fun ia_16 ib_16 => ?_)
        refine qm_Rp.go 1 (c' := (154, [.ref 118, .int 1, .int hv, .float 0], [.int 2, .int v15], (h.1, qm_up h.2.1 179 1 v15, h.2.2.1, h.2.2.2))) rfl ?_
        refine hp_cge (ix := v15.toInt) (iy := 2) rfl rfl rfl (fun z18 => ?_) (fun z18 => ?_)
        · refine qm_Rp.go 1 (c' := (160, [.ref 118, .int 1, .int hv, .float 0], [.ref 118], (h.1, qm_up h.2.1 179 1 v15, h.2.2.1, h.2.2.2))) rfl ?_
          refine hp_getr rfl (hH.1 118 (17, 105) rfl) rfl (hH.2 118 84 (some 176) rfl) ?_
          refine qm_Rp.go 2 (c' := (165, [.ref 118, .int 1, .int hv, .float 0], [.ref 118, .int hv, .ref 176], (h.1, qm_up h.2.1 179 1 v15, h.2.2.1, h.2.2.2))) rfl ?_
          refine hp_getr rfl (hH.1 118 (17, 105) rfl) rfl (hH.2 118 76 (some 168) rfl) ?_
          refine qm_Rp.go 1 (c' := (169, [.ref 118, .int 1, .int hv, .float 0], [.int hv, .ref 168, .int hv, .ref 176], (h.1, qm_up h.2.1 179 1 v15, h.2.2.1, h.2.2.2))) rfl ?_
          obtain ⟨v19, q_v19⟩ : ∃ v_, h.2.1 168 hv.toInt.toNat = v_ := ⟨_, rfl⟩
          refine hp_ial (v := v19) rfl (hH.1 168 (0, 40) rfl) (show (qm_up h.2.1 179 1 v15) 168 hv.toInt.toNat = _ from ((hk_ot rfl).trans q_v19)) (fun ia_19 ib_19 => ?_)
          refine qm_Rp.go 0 (c' := (170, [.ref 118, .int 1, .int hv, .float 0], [.int v19, .int hv, .ref 176], (h.1, qm_up h.2.1 179 1 v15, h.2.2.1, h.2.2.2))) rfl ?_
          refine hp_zne (ix := v19.toInt) rfl rfl (fun z21 => ?_) (fun z21 => ?_)
          · refine qm_Rp.go 2 (c' := (200, [.ref 118, .int 1, .int hv, .float 0], [.ref 118, .ref 118, .int hv, .ref 176], (h.1, qm_up h.2.1 179 1 v15, h.2.2.1, h.2.2.2))) rfl ?_
            refine hp_getr rfl (hH.1 118 (17, 105) rfl) rfl (hH.2 118 78 (some 170) rfl) ?_
            refine qm_Rp.go 1 (c' := (204, [.ref 118, .int 1, .int hv, .float 0], [.int hv, .ref 170, .ref 118, .int hv, .ref 176], (h.1, qm_up h.2.1 179 1 v15, h.2.2.1, h.2.2.2))) rfl ?_
            refine hp_ial (v := v6) rfl (hH.1 170 (0, 40) rfl) (show (qm_up h.2.1 179 1 v15) 170 hv.toInt.toNat = _ from ((hk_ot rfl).trans q_v6)) (fun ia_21 ib_21 => ?_)
            refine qm_Rp.go 1 (c' := (206, [.ref 118, .int 1, .int hv, .float 0], [.ref 118, .int v6, .ref 118, .int hv, .ref 176], (h.1, qm_up h.2.1 179 1 v15, h.2.2.1, h.2.2.2))) rfl ?_
            refine hp_getr rfl (hH.1 118 (17, 105) rfl) rfl (hH.2 118 79 (some 171) rfl) ?_
            refine qm_Rp.go 1 (c' := (210, [.ref 118, .int 1, .int hv, .float 0], [.int hv, .ref 171, .int v6, .ref 118, .int hv, .ref 176], (h.1, qm_up h.2.1 179 1 v15, h.2.2.1, h.2.2.2))) rfl ?_
            obtain ⟨v23, q_v23⟩ : ∃ v_, h.2.1 171 hv.toInt.toNat = v_ := ⟨_, rfl⟩
            refine hp_ial (v := v23) rfl (hH.1 171 (0, 40) rfl) (show (qm_up h.2.1 179 1 v15) 171 hv.toInt.toNat = _ from ((hk_ot rfl).trans q_v23)) (fun ia_23 ib_23 => ?_)
            refine qm_Rp.go 1 (c' := (212, [.ref 118, .int 1, .int hv, .float 0], [.ref 118, .int v23, .int v6, .ref 118, .int hv, .ref 176], (h.1, qm_up h.2.1 179 1 v15, h.2.2.1, h.2.2.2))) rfl ?_
            refine hp_getr rfl (hH.1 118 (17, 105) rfl) rfl (hH.2 118 77 (some 169) rfl) ?_
            refine qm_Rp.go 1 (c' := (216, [.ref 118, .int 1, .int hv, .float 0], [.int hv, .ref 169, .int v23, .int v6, .ref 118, .int hv, .ref 176], (h.1, qm_up h.2.1 179 1 v15, h.2.2.1, h.2.2.2))) rfl ?_
            obtain ⟨v25, q_v25⟩ : ∃ v_, h.2.1 169 hv.toInt.toNat = v_ := ⟨_, rfl⟩
            refine hp_ial (v := v25) rfl (hH.1 169 (0, 40) rfl) (show (qm_up h.2.1 179 1 v15) 169 hv.toInt.toNat = _ from ((hk_ot rfl).trans q_v25)) (fun ia_25 ib_25 => ?_)
            refine qm_Rp.go 0 (c' := (217, [.ref 118, .int 1, .int hv, .float 0], [.int v25, .int v23, .int v6, .ref 118, .int hv, .ref 176], (h.1, qm_up h.2.1 179 1 v15, h.2.2.1, h.2.2.2))) rfl ?_
            refine hp_inv (o := 118) (r := [.int hv, .ref 176]) (as := [.ref 118, .int v6, .int v23, .int v25]) rfl rfl (hH.1 118 (17, 105) rfl) rfl rfl rfl (pz_runl0 (h := (h.1, qm_up h.2.1 179 1 v15, h.2.2.1, h.2.2.2)) hH hP.1 (zR_j hr (fun o ho i => ((hk_mod ho rfl).trans rfl))) hP.2.2.1 (fun I27 v28 f_I27 zr_I27 e_v28 => ?_))
            have f_I27 : ∀ o, [150, 151, 152, 153, 154, 155, 156].contains o = false → ∀ i, I27 o i = (qm_up h.2.1 179 1 v15) o i := f_I27
            refine qm_Rp.go 0 (c' := (220, [.ref 118, .int 1, .int hv, .float 0], [.int v28, .int hv, .ref 176], (h.1, I27, h.2.2.1, h.2.2.2))) rfl ?_
            refine hp_ias rfl (hH.1 176 (0, 40) rfl) (fun ia_28 ib_28 => ?_)
            refine qm_Rp.go 1 (c' := (222, [.ref 118, .int 1, .int hv, .float 0], [.ref 118], (h.1, qm_up I27 176 hv.toInt.toNat v28, h.2.2.1, h.2.2.2))) rfl ?_
            refine hp_getr rfl (hH.1 118 (17, 105) rfl) rfl (hH.2 118 80 (some 172) rfl) ?_
            refine qm_Rp.go 2 (c' := (227, [.ref 118, .int 1, .int hv, .float 0], [.int 2, .int hv, .ref 172], (h.1, qm_up I27 176 hv.toInt.toNat v28, h.2.2.1, h.2.2.2))) rfl ?_
            refine hp_ias rfl (hH.1 172 (0, 40) rfl) (fun ia_29 ib_29 => ?_)
            refine qm_Rp.go 1 (c' := (229, [.ref 118, .int 1, .int hv, .float 0], [.ref 118], (h.1, qm_up (qm_up I27 176 hv.toInt.toNat v28) 172 hv.toInt.toNat 2, h.2.2.1, h.2.2.2))) rfl ?_
            refine hp_getr rfl (hH.1 118 (17, 105) rfl) rfl (hH.2 118 83 (some 175) rfl) ?_
            refine qm_Rp.go 2 (c' := (234, [.ref 118, .int 1, .int hv, .float 0], [.ref 118, .int hv, .ref 175], (h.1, qm_up (qm_up I27 176 hv.toInt.toNat v28) 172 hv.toInt.toNat 2, h.2.2.1, h.2.2.2))) rfl ?_
            refine hp_geti (v := v9) rfl (hH.1 118 (17, 105) rfl) rfl (show (qm_up (qm_up I27 176 hv.toInt.toNat v28) 172 hv.toInt.toNat 2) 118 85 = _ from ((hk_ot rfl).trans ((hk_ot rfl).trans ((f_I27 118 rfl 85).trans ((hk_ot rfl).trans q_v9))))) ?_
            refine qm_Rp.go 0 (c' := (237, [.ref 118, .int 1, .int hv, .float 0], [.int v9, .int hv, .ref 175], (h.1, qm_up (qm_up I27 176 hv.toInt.toNat v28) 172 hv.toInt.toNat 2, h.2.2.1, h.2.2.2))) rfl ?_
            refine hp_ias rfl (hH.1 175 (0, 40) rfl) (fun ia_30 ib_30 => ?_)
            refine qm_Rp.go 1 (c' := (239, [.ref 118, .int 1, .int hv, .float 0], [.ref 118], (h.1, qm_up (qm_up (qm_up I27 176 hv.toInt.toNat v28) 172 hv.toInt.toNat 2) 175 hv.toInt.toNat v9, h.2.2.1, h.2.2.2))) rfl ?_
            refine hp_getr rfl (hH.1 118 (17, 105) rfl) rfl (hH.2 118 87 (some 178) rfl) ?_
            refine qm_Rp.go 2 (c' := (244, [.ref 118, .int 1, .int hv, .float 0], [.int (-1), .int 1, .ref 178], (h.1, qm_up (qm_up (qm_up I27 176 hv.toInt.toNat v28) 172 hv.toInt.toNat 2) 175 hv.toInt.toNat v9, h.2.2.1, h.2.2.2))) rfl ?_
            refine hp_ias rfl (hH.1 178 (0, 2) rfl) (fun ia_31 ib_31 => ?_)
            refine qm_Rp.go 1 (c' := (246, [.ref 118, .int 1, .int hv, .float 0], [.ref 118], (h.1, qm_up (qm_up (qm_up (qm_up I27 176 hv.toInt.toNat v28) 172 hv.toInt.toNat 2) 175 hv.toInt.toNat v9) 178 1 (-1), h.2.2.1, h.2.2.2))) rfl ?_
            refine hp_getr rfl (hH.1 118 (17, 105) rfl) rfl (hH.2 118 88 (some 179) rfl) ?_
            refine qm_Rp.go 2 (c' := (251, [.ref 118, .int 1, .int hv, .float 0], [.int 0, .int 1, .ref 179], (h.1, qm_up (qm_up (qm_up (qm_up I27 176 hv.toInt.toNat v28) 172 hv.toInt.toNat 2) 175 hv.toInt.toNat v9) 178 1 (-1), h.2.2.1, h.2.2.2))) rfl ?_
            refine hp_ias rfl (hH.1 179 (0, 2) rfl) (fun ia_32 ib_32 => ?_)
            refine qm_Rp.go 1 (c' := (253, [.ref 118, .int 1, .int hv, .float 0], [.ref 118], (h.1, qm_up (qm_up (qm_up (qm_up (qm_up I27 176 hv.toInt.toNat v28) 172 hv.toInt.toNat 2) 175 hv.toInt.toNat v9) 178 1 (-1)) 179 1 0, h.2.2.1, h.2.2.2))) rfl ?_
            refine hp_getr rfl (hH.1 118 (17, 105) rfl) rfl (hH.2 118 90 (some 181) rfl) ?_
            refine qm_Rp.go 2 (c' := (258, [.ref 118, .int 1, .int hv, .float 0], [.int 1, .ref 181, .int 1, .ref 181], (h.1, qm_up (qm_up (qm_up (qm_up (qm_up I27 176 hv.toInt.toNat v28) 172 hv.toInt.toNat 2) 175 hv.toInt.toNat v9) 178 1 (-1)) 179 1 0, h.2.2.1, h.2.2.2))) rfl ?_
            obtain ⟨v34, q_v34⟩ : ∃ v_, h.2.1 181 1 = v_ := ⟨_, rfl⟩
            refine hp_ial (v := v34) rfl (hH.1 181 (0, 2) rfl) (show (qm_up (qm_up (qm_up (qm_up (qm_up I27 176 hv.toInt.toNat v28) 172 hv.toInt.toNat 2) 175 hv.toInt.toNat v9) 178 1 (-1)) 179 1 0) 181 1 = _ from ((hk_ot rfl).trans ((hk_ot rfl).trans ((hk_ot rfl).trans ((hk_ot rfl).trans ((hk_ot rfl).trans ((f_I27 181 rfl 1).trans ((hk_ot rfl).trans q_v34)))))))) (fun ia_34 ib_34 => ?_)
            refine qm_Rp.go 2 (c' := (261, [.ref 118, .int 1, .int hv, .float 0], [.int (v34 + 1), .int 1, .ref 181], (h.1, qm_up (qm_up (qm_up (qm_up (qm_up I27 176 hv.toInt.toNat v28) 172 hv.toInt.toNat 2) 175 hv.toInt.toNat v9) 178 1 (-1)) 179 1 0, h.2.2.1, h.2.2.2))) rfl ?_
            obtain ⟨v36, q_v36⟩ : ∃ v_, (v34 + 1) = v_ := ⟨_, rfl⟩
            rw [q_v36]
            refine hp_ias rfl (hH.1 181 (0, 2) rfl) (fun ia_36 ib_36 => ?_)
            refine qm_Rp.go 1 (c' := (263, [.ref 118, .int 1, .int hv, .float 0], [.int 1], (h.1, qm_up (qm_up (qm_up (qm_up (qm_up (qm_up I27 176 hv.toInt.toNat v28) 172 hv.toInt.toNat 2) 175 hv.toInt.toNat v9) 178 1 (-1)) 179 1 0) 181 1 v36, h.2.2.1, h.2.2.2))) rfl ?_
            refine qm_Rp.rt (v := (some (.int 1))) (h' := (h.1, qm_up (qm_up (qm_up (qm_up (qm_up (qm_up I27 176 hv.toInt.toNat v28) 172 hv.toInt.toNat 2) 175 hv.toInt.toNat v9) 178 1 (-1)) 179 1 0) 181 1 v36, h.2.2.1, h.2.2.2)) rfl ?_
            have e := jGo_f (s := 0) (A := A) (K := h.2.1) (c := 1) (by rw [q_hv]; omega) (by rw [q_v4, q_hv, q_v6]; exact hk_eqi.mpr (by omega)) (fun z => by unfold jWn at z; rw [q_v10, q_v9, q_v11] at z; omega) (by rw [q_v13, q_v15]; omega)
            have eR : jRe 0 A h.2.1 hv.toInt.toNat = v28.toInt := by unfold jRe; rw [q_v19, q_v25, q_v6, q_v23, okb_f (show ¬ v19.toInt = 0 by omega)]; exact e_v28.symm
            have eS : zR (jSh 0 A h.2.1 hv.toInt.toNat) I27 := by unfold jSh; rw [q_v19, q_v25, q_v6, q_v23, okb_f (show ¬ v19.toInt = 0 by omega)]; exact zr_I27
            rw [q_hv, eR, Int32.ofInt_toInt] at e
            have e2 : jEq (jFi h.2.1 1 hv.toInt.toNat v28) (qm_up (qm_up (qm_up (qm_up (qm_up (qm_up I27 176 hv.toInt.toNat v28) 172 hv.toInt.toNat 2) 175 hv.toInt.toNat v9) 178 1 (-1)) 179 1 0) 181 1 v36) := by
              unfold jFi
              rw [q_v13, q_v15, q_v9, q_v34, q_v36]
              exact jEq_up (jEq_up (jEq_up (jEq_up (jEq_up (jEq_up (jEq_fr jEq_rf f_I27 (by decide)))))))
            refine k (qm_up (qm_up (qm_up (qm_up (qm_up (qm_up I27 176 hv.toInt.toNat v28) 172 hv.toInt.toNat 2) 175 hv.toInt.toNat v9) 178 1 (-1)) 179 1 0) 181 1 v36) 1 (fun o ho i => ((hk_mod ho rfl).trans ((hk_mod ho rfl).trans ((hk_mod ho rfl).trans ((hk_mod ho rfl).trans ((hk_mod ho rfl).trans ((hk_mod ho rfl).trans ((f_I27 o (hk_ms rfl ho) i).trans ((hk_mod ho rfl).trans rfl))))))))) (by rw [e]; exact zR_j eS (fun o ho i => ((hk_mod ho rfl).trans ((hk_mod ho rfl).trans ((hk_mod ho rfl).trans ((hk_mod ho rfl).trans ((hk_mod ho rfl).trans ((hk_mod ho rfl).trans rfl)))))))) (by rw [e]; exact e2) (Or.inl ⟨rfl, ?_, ?_⟩)
            · rw [q_v34, q_v36]; exact hk_same
            · exact ((hk_neq (by decide)).trans ((hk_ot rfl).trans ((hk_ot rfl).trans ((hk_ot rfl).trans ((hk_ot rfl).trans ((hk_ot rfl).trans ((f_I27 181 rfl 0).trans ((hk_ot rfl).trans rfl))))))))
          · refine qm_Rp.go 2 (c' := (175, [.ref 118, .int 1, .int hv, .float 0], [.ref 118, .ref 118, .int hv, .ref 176], (h.1, qm_up h.2.1 179 1 v15, h.2.2.1, h.2.2.2))) rfl ?_
            refine hp_getr rfl (hH.1 118 (17, 105) rfl) rfl (hH.2 118 77 (some 169) rfl) ?_
            refine qm_Rp.go 1 (c' := (179, [.ref 118, .int 1, .int hv, .float 0], [.int hv, .ref 169, .ref 118, .int hv, .ref 176], (h.1, qm_up h.2.1 179 1 v15, h.2.2.1, h.2.2.2))) rfl ?_
            obtain ⟨v38, q_v38⟩ : ∃ v_, h.2.1 169 hv.toInt.toNat = v_ := ⟨_, rfl⟩
            refine hp_ial (v := v38) rfl (hH.1 169 (0, 40) rfl) (show (qm_up h.2.1 179 1 v15) 169 hv.toInt.toNat = _ from ((hk_ot rfl).trans q_v38)) (fun ia_38 ib_38 => ?_)
            refine qm_Rp.go 1 (c' := (181, [.ref 118, .int 1, .int hv, .float 0], [.ref 118, .int v38, .ref 118, .int hv, .ref 176], (h.1, qm_up h.2.1 179 1 v15, h.2.2.1, h.2.2.2))) rfl ?_
            refine hp_getr rfl (hH.1 118 (17, 105) rfl) rfl (hH.2 118 78 (some 170) rfl) ?_
            refine qm_Rp.go 1 (c' := (185, [.ref 118, .int 1, .int hv, .float 0], [.int hv, .ref 170, .int v38, .ref 118, .int hv, .ref 176], (h.1, qm_up h.2.1 179 1 v15, h.2.2.1, h.2.2.2))) rfl ?_
            refine hp_ial (v := v6) rfl (hH.1 170 (0, 40) rfl) (show (qm_up h.2.1 179 1 v15) 170 hv.toInt.toNat = _ from ((hk_ot rfl).trans q_v6)) (fun ia_39 ib_39 => ?_)
            refine qm_Rp.go 1 (c' := (187, [.ref 118, .int 1, .int hv, .float 0], [.ref 118, .int v6, .int v38, .ref 118, .int hv, .ref 176], (h.1, qm_up h.2.1 179 1 v15, h.2.2.1, h.2.2.2))) rfl ?_
            refine hp_getr rfl (hH.1 118 (17, 105) rfl) rfl (hH.2 118 79 (some 171) rfl) ?_
            refine qm_Rp.go 1 (c' := (191, [.ref 118, .int 1, .int hv, .float 0], [.int hv, .ref 171, .int v6, .int v38, .ref 118, .int hv, .ref 176], (h.1, qm_up h.2.1 179 1 v15, h.2.2.1, h.2.2.2))) rfl ?_
            obtain ⟨v41, q_v41⟩ : ∃ v_, h.2.1 171 hv.toInt.toNat = v_ := ⟨_, rfl⟩
            refine hp_ial (v := v41) rfl (hH.1 171 (0, 40) rfl) (show (qm_up h.2.1 179 1 v15) 171 hv.toInt.toNat = _ from ((hk_ot rfl).trans q_v41)) (fun ia_41 ib_41 => ?_)
            refine qm_Rp.go 0 (c' := (192, [.ref 118, .int 1, .int hv, .float 0], [.int v41, .int v6, .int v38, .ref 118, .int hv, .ref 176], (h.1, qm_up h.2.1 179 1 v15, h.2.2.1, h.2.2.2))) rfl ?_
            refine hp_inv (o := 118) (r := [.int hv, .ref 176]) (as := [.ref 118, .int v38, .int v6, .int v41]) rfl rfl (hH.1 118 (17, 105) rfl) rfl rfl rfl (pz_rload0 (h := (h.1, qm_up h.2.1 179 1 v15, h.2.2.1, h.2.2.2)) hH hP.1 (zR_j hr (fun o ho i => ((hk_mod ho rfl).trans rfl))) hP.2.2.1 (fun I43 v44 f_I43 zr_I43 e_v44 => ?_))
            have f_I43 : ∀ o, [150, 151, 152, 153, 154, 155, 156].contains o = false → ∀ i, I43 o i = (qm_up h.2.1 179 1 v15) o i := f_I43
            refine qm_Rp.go 1 (c' := (220, [.ref 118, .int 1, .int hv, .float 0], [.int v44, .int hv, .ref 176], (h.1, I43, h.2.2.1, h.2.2.2))) rfl ?_
            refine hp_ias rfl (hH.1 176 (0, 40) rfl) (fun ia_44 ib_44 => ?_)
            refine qm_Rp.go 1 (c' := (222, [.ref 118, .int 1, .int hv, .float 0], [.ref 118], (h.1, qm_up I43 176 hv.toInt.toNat v44, h.2.2.1, h.2.2.2))) rfl ?_
            refine hp_getr rfl (hH.1 118 (17, 105) rfl) rfl (hH.2 118 80 (some 172) rfl) ?_
            refine qm_Rp.go 2 (c' := (227, [.ref 118, .int 1, .int hv, .float 0], [.int 2, .int hv, .ref 172], (h.1, qm_up I43 176 hv.toInt.toNat v44, h.2.2.1, h.2.2.2))) rfl ?_
            refine hp_ias rfl (hH.1 172 (0, 40) rfl) (fun ia_45 ib_45 => ?_)
            refine qm_Rp.go 1 (c' := (229, [.ref 118, .int 1, .int hv, .float 0], [.ref 118], (h.1, qm_up (qm_up I43 176 hv.toInt.toNat v44) 172 hv.toInt.toNat 2, h.2.2.1, h.2.2.2))) rfl ?_
            refine hp_getr rfl (hH.1 118 (17, 105) rfl) rfl (hH.2 118 83 (some 175) rfl) ?_
            refine qm_Rp.go 2 (c' := (234, [.ref 118, .int 1, .int hv, .float 0], [.ref 118, .int hv, .ref 175], (h.1, qm_up (qm_up I43 176 hv.toInt.toNat v44) 172 hv.toInt.toNat 2, h.2.2.1, h.2.2.2))) rfl ?_
            refine hp_geti (v := v9) rfl (hH.1 118 (17, 105) rfl) rfl (show (qm_up (qm_up I43 176 hv.toInt.toNat v44) 172 hv.toInt.toNat 2) 118 85 = _ from ((hk_ot rfl).trans ((hk_ot rfl).trans ((f_I43 118 rfl 85).trans ((hk_ot rfl).trans q_v9))))) ?_
            refine qm_Rp.go 0 (c' := (237, [.ref 118, .int 1, .int hv, .float 0], [.int v9, .int hv, .ref 175], (h.1, qm_up (qm_up I43 176 hv.toInt.toNat v44) 172 hv.toInt.toNat 2, h.2.2.1, h.2.2.2))) rfl ?_
            refine hp_ias rfl (hH.1 175 (0, 40) rfl) (fun ia_46 ib_46 => ?_)
            refine qm_Rp.go 1 (c' := (239, [.ref 118, .int 1, .int hv, .float 0], [.ref 118], (h.1, qm_up (qm_up (qm_up I43 176 hv.toInt.toNat v44) 172 hv.toInt.toNat 2) 175 hv.toInt.toNat v9, h.2.2.1, h.2.2.2))) rfl ?_
            refine hp_getr rfl (hH.1 118 (17, 105) rfl) rfl (hH.2 118 87 (some 178) rfl) ?_
            refine qm_Rp.go 2 (c' := (244, [.ref 118, .int 1, .int hv, .float 0], [.int (-1), .int 1, .ref 178], (h.1, qm_up (qm_up (qm_up I43 176 hv.toInt.toNat v44) 172 hv.toInt.toNat 2) 175 hv.toInt.toNat v9, h.2.2.1, h.2.2.2))) rfl ?_
            refine hp_ias rfl (hH.1 178 (0, 2) rfl) (fun ia_47 ib_47 => ?_)
            refine qm_Rp.go 1 (c' := (246, [.ref 118, .int 1, .int hv, .float 0], [.ref 118], (h.1, qm_up (qm_up (qm_up (qm_up I43 176 hv.toInt.toNat v44) 172 hv.toInt.toNat 2) 175 hv.toInt.toNat v9) 178 1 (-1), h.2.2.1, h.2.2.2))) rfl ?_
            refine hp_getr rfl (hH.1 118 (17, 105) rfl) rfl (hH.2 118 88 (some 179) rfl) ?_
            refine qm_Rp.go 2 (c' := (251, [.ref 118, .int 1, .int hv, .float 0], [.int 0, .int 1, .ref 179], (h.1, qm_up (qm_up (qm_up (qm_up I43 176 hv.toInt.toNat v44) 172 hv.toInt.toNat 2) 175 hv.toInt.toNat v9) 178 1 (-1), h.2.2.1, h.2.2.2))) rfl ?_
            refine hp_ias rfl (hH.1 179 (0, 2) rfl) (fun ia_48 ib_48 => ?_)
            refine qm_Rp.go 1 (c' := (253, [.ref 118, .int 1, .int hv, .float 0], [.ref 118], (h.1, qm_up (qm_up (qm_up (qm_up (qm_up I43 176 hv.toInt.toNat v44) 172 hv.toInt.toNat 2) 175 hv.toInt.toNat v9) 178 1 (-1)) 179 1 0, h.2.2.1, h.2.2.2))) rfl ?_
            refine hp_getr rfl (hH.1 118 (17, 105) rfl) rfl (hH.2 118 90 (some 181) rfl) ?_
            refine qm_Rp.go 2 (c' := (258, [.ref 118, .int 1, .int hv, .float 0], [.int 1, .ref 181, .int 1, .ref 181], (h.1, qm_up (qm_up (qm_up (qm_up (qm_up I43 176 hv.toInt.toNat v44) 172 hv.toInt.toNat 2) 175 hv.toInt.toNat v9) 178 1 (-1)) 179 1 0, h.2.2.1, h.2.2.2))) rfl ?_
            obtain ⟨v50, q_v50⟩ : ∃ v_, h.2.1 181 1 = v_ := ⟨_, rfl⟩
            refine hp_ial (v := v50) rfl (hH.1 181 (0, 2) rfl) (show (qm_up (qm_up (qm_up (qm_up (qm_up I43 176 hv.toInt.toNat v44) 172 hv.toInt.toNat 2) 175 hv.toInt.toNat v9) 178 1 (-1)) 179 1 0) 181 1 = _ from ((hk_ot rfl).trans ((hk_ot rfl).trans ((hk_ot rfl).trans ((hk_ot rfl).trans ((hk_ot rfl).trans ((f_I43 181 rfl 1).trans ((hk_ot rfl).trans q_v50)))))))) (fun ia_50 ib_50 => ?_)
            refine qm_Rp.go 2 (c' := (261, [.ref 118, .int 1, .int hv, .float 0], [.int (v50 + 1), .int 1, .ref 181], (h.1, qm_up (qm_up (qm_up (qm_up (qm_up I43 176 hv.toInt.toNat v44) 172 hv.toInt.toNat 2) 175 hv.toInt.toNat v9) 178 1 (-1)) 179 1 0, h.2.2.1, h.2.2.2))) rfl ?_
            obtain ⟨v52, q_v52⟩ : ∃ v_, (v50 + 1) = v_ := ⟨_, rfl⟩
            rw [q_v52]
            refine hp_ias rfl (hH.1 181 (0, 2) rfl) (fun ia_52 ib_52 => ?_)
            refine qm_Rp.go 1 (c' := (263, [.ref 118, .int 1, .int hv, .float 0], [.int 1], (h.1, qm_up (qm_up (qm_up (qm_up (qm_up (qm_up I43 176 hv.toInt.toNat v44) 172 hv.toInt.toNat 2) 175 hv.toInt.toNat v9) 178 1 (-1)) 179 1 0) 181 1 v52, h.2.2.1, h.2.2.2))) rfl ?_
            refine qm_Rp.rt (v := (some (.int 1))) (h' := (h.1, qm_up (qm_up (qm_up (qm_up (qm_up (qm_up I43 176 hv.toInt.toNat v44) 172 hv.toInt.toNat 2) 175 hv.toInt.toNat v9) 178 1 (-1)) 179 1 0) 181 1 v52, h.2.2.1, h.2.2.2)) rfl ?_
            have e := jGo_f (s := 0) (A := A) (K := h.2.1) (c := 1) (by rw [q_hv]; omega) (by rw [q_v4, q_hv, q_v6]; exact hk_eqi.mpr (by omega)) (fun z => by unfold jWn at z; rw [q_v10, q_v9, q_v11] at z; omega) (by rw [q_v13, q_v15]; omega)
            have eR : jRe 0 A h.2.1 hv.toInt.toNat = v44.toInt := by unfold jRe; rw [q_v19, q_v38, q_v6, q_v41, okb_t (show v19.toInt = 0 by omega)]; exact e_v44.symm
            have eS : zR (jSh 0 A h.2.1 hv.toInt.toNat) I43 := by unfold jSh; rw [q_v19, q_v38, q_v6, q_v41, okb_t (show v19.toInt = 0 by omega)]; exact zr_I43
            rw [q_hv, eR, Int32.ofInt_toInt] at e
            have e2 : jEq (jFi h.2.1 1 hv.toInt.toNat v44) (qm_up (qm_up (qm_up (qm_up (qm_up (qm_up I43 176 hv.toInt.toNat v44) 172 hv.toInt.toNat 2) 175 hv.toInt.toNat v9) 178 1 (-1)) 179 1 0) 181 1 v52) := by
              unfold jFi
              rw [q_v13, q_v15, q_v9, q_v50, q_v52]
              exact jEq_up (jEq_up (jEq_up (jEq_up (jEq_up (jEq_up (jEq_fr jEq_rf f_I43 (by decide)))))))
            refine k (qm_up (qm_up (qm_up (qm_up (qm_up (qm_up I43 176 hv.toInt.toNat v44) 172 hv.toInt.toNat 2) 175 hv.toInt.toNat v9) 178 1 (-1)) 179 1 0) 181 1 v52) 1 (fun o ho i => ((hk_mod ho rfl).trans ((hk_mod ho rfl).trans ((hk_mod ho rfl).trans ((hk_mod ho rfl).trans ((hk_mod ho rfl).trans ((hk_mod ho rfl).trans ((f_I43 o (hk_ms rfl ho) i).trans ((hk_mod ho rfl).trans rfl))))))))) (by rw [e]; exact zR_j eS (fun o ho i => ((hk_mod ho rfl).trans ((hk_mod ho rfl).trans ((hk_mod ho rfl).trans ((hk_mod ho rfl).trans ((hk_mod ho rfl).trans ((hk_mod ho rfl).trans rfl)))))))) (by rw [e]; exact e2) (Or.inl ⟨rfl, ?_, ?_⟩)
            · rw [q_v50, q_v52]; exact hk_same
            · exact ((hk_neq (by decide)).trans ((hk_ot rfl).trans ((hk_ot rfl).trans ((hk_ot rfl).trans ((hk_ot rfl).trans ((hk_ot rfl).trans ((f_I43 181 rfl 0).trans ((hk_ot rfl).trans rfl))))))))
        · refine qm_Rp.go 1 (c' := (158, [.ref 118, .int 1, .int hv, .float 0], [.int 0], (h.1, qm_up h.2.1 179 1 v15, h.2.2.1, h.2.2.2))) rfl ?_
          refine qm_Rp.rt (v := (some (.int 0))) (h' := (h.1, qm_up h.2.1 179 1 v15, h.2.2.1, h.2.2.2)) rfl ?_
          have e := jGo_l (s := 0) (A := A) (K := h.2.1) (c := 1) (by rw [q_hv]; omega) (by rw [q_v4, q_hv, q_v6]; exact hk_eqi.mpr (by omega)) (fun z => by unfold jWn at z; rw [q_v10, q_v9, q_v11] at z; omega) (by rw [q_v13, q_v15]; omega)
          have e2 : jLi h.2.1 1 = qm_up h.2.1 179 1 v15 := by unfold jLi; rw [q_v13, q_v15]
          exact k (qm_up h.2.1 179 1 v15) 0 (fun o ho i => ((hk_mod ho rfl).trans rfl)) (by rw [e]; exact zR_j hr (fun o ho i => ((hk_mod ho rfl).trans rfl))) (by rw [e]; show jEq (jLi h.2.1 1) _; rw [e2]; exact jEq_rf) (Or.inr ⟨rfl, fun i => ((hk_ot rfl).trans rfl)⟩)
      · refine qm_Rp.go 2 (c' := (7, [.int v9, .int v10, .int v11], [.int v11, .int v9], h)) rfl ?_
        refine hp_cgt (ix := v9.toInt) (iy := v11.toInt) rfl rfl rfl (fun z54 => ?_) (fun z54 => ?_)
        · refine qm_Rp.go 1 (c' := (15, [.int v9, .int v10, .int v11], [.int 0], h)) rfl ?_
          refine qm_Rp.rt (v := (some (.int 0))) (h' := h) rfl ?_
          refine qm_Rp.go 2 (c' := (138, [.ref 118, .int 1, .int hv, .float 0], [.ref 118], h)) rfl ?_
          refine hp_getr rfl (hH.1 118 (17, 105) rfl) rfl (hH.2 118 88 (some 179) rfl) ?_
          refine qm_Rp.go 2 (c' := (143, [.ref 118, .int 1, .int hv, .float 0], [.int 1, .ref 179, .int 1, .ref 179], h)) rfl ?_
          obtain ⟨v55, q_v55⟩ : ∃ v_, h.2.1 179 1 = v_ := ⟨_, rfl⟩
          have b_v55 : (0 : Int) ≤ v55.toInt ∧ v55.toInt ≤ 1 := by rw [← q_v55]; exact b179
          refine hp_ial (v := v55) rfl (hH.1 179 (0, 2) rfl) q_v55 (fun ia_55 ib_55 => ?_)
          refine qm_Rp.go 2 (c' := (146, [.ref 118, .int 1, .int hv, .float 0], [.int (v55 + 1), .int 1, .ref 179], h)) rfl ?_
          obtain ⟨v57, q_v57, e_v57⟩ := hk_add (x := v55) (y := 1) (a := v55.toInt) (b := 1) rfl rfl (by omega) (by omega)
          rw [q_v57]
          refine hp_ias rfl (hH.1 179 (0, 2) rfl) (fun ia_57 ib_57 => ?_)
          refine qm_Rp.go 1 (c' := (148, [.ref 118, .int 1, .int hv, .float 0], [.ref 118], (h.1, qm_up h.2.1 179 1 v57, h.2.2.1, h.2.2.2))) rfl ?_
          refine hp_getr rfl (hH.1 118 (17, 105) rfl) rfl (hH.2 118 88 (some 179) rfl) ?_
          refine qm_Rp.go 1 (c' := (152, [.ref 118, .int 1, .int hv, .float 0], [.int 1, .ref 179], (h.1, qm_up h.2.1 179 1 v57, h.2.2.1, h.2.2.2))) rfl ?_
          refine hp_ial (v := v57) rfl (hH.1 179 (0, 2) rfl) (show (qm_up h.2.1 179 1 v57) 179 1 = _ from (hk_same)) (fun ia_58 ib_58 => ?_)
          refine qm_Rp.go 1 (c' := (154, [.ref 118, .int 1, .int hv, .float 0], [.int 2, .int v57], (h.1, qm_up h.2.1 179 1 v57, h.2.2.1, h.2.2.2))) rfl ?_
          refine hp_cge (ix := v57.toInt) (iy := 2) rfl rfl rfl (fun z60 => ?_) (fun z60 => ?_)
          · refine qm_Rp.go 1 (c' := (160, [.ref 118, .int 1, .int hv, .float 0], [.ref 118], (h.1, qm_up h.2.1 179 1 v57, h.2.2.1, h.2.2.2))) rfl ?_
            refine hp_getr rfl (hH.1 118 (17, 105) rfl) rfl (hH.2 118 84 (some 176) rfl) ?_
            refine qm_Rp.go 2 (c' := (165, [.ref 118, .int 1, .int hv, .float 0], [.ref 118, .int hv, .ref 176], (h.1, qm_up h.2.1 179 1 v57, h.2.2.1, h.2.2.2))) rfl ?_
            refine hp_getr rfl (hH.1 118 (17, 105) rfl) rfl (hH.2 118 76 (some 168) rfl) ?_
            refine qm_Rp.go 1 (c' := (169, [.ref 118, .int 1, .int hv, .float 0], [.int hv, .ref 168, .int hv, .ref 176], (h.1, qm_up h.2.1 179 1 v57, h.2.2.1, h.2.2.2))) rfl ?_
            obtain ⟨v61, q_v61⟩ : ∃ v_, h.2.1 168 hv.toInt.toNat = v_ := ⟨_, rfl⟩
            refine hp_ial (v := v61) rfl (hH.1 168 (0, 40) rfl) (show (qm_up h.2.1 179 1 v57) 168 hv.toInt.toNat = _ from ((hk_ot rfl).trans q_v61)) (fun ia_61 ib_61 => ?_)
            refine qm_Rp.go 0 (c' := (170, [.ref 118, .int 1, .int hv, .float 0], [.int v61, .int hv, .ref 176], (h.1, qm_up h.2.1 179 1 v57, h.2.2.1, h.2.2.2))) rfl ?_
            refine hp_zne (ix := v61.toInt) rfl rfl (fun z63 => ?_) (fun z63 => ?_)
            · refine qm_Rp.go 2 (c' := (200, [.ref 118, .int 1, .int hv, .float 0], [.ref 118, .ref 118, .int hv, .ref 176], (h.1, qm_up h.2.1 179 1 v57, h.2.2.1, h.2.2.2))) rfl ?_
              refine hp_getr rfl (hH.1 118 (17, 105) rfl) rfl (hH.2 118 78 (some 170) rfl) ?_
              refine qm_Rp.go 1 (c' := (204, [.ref 118, .int 1, .int hv, .float 0], [.int hv, .ref 170, .ref 118, .int hv, .ref 176], (h.1, qm_up h.2.1 179 1 v57, h.2.2.1, h.2.2.2))) rfl ?_
              refine hp_ial (v := v6) rfl (hH.1 170 (0, 40) rfl) (show (qm_up h.2.1 179 1 v57) 170 hv.toInt.toNat = _ from ((hk_ot rfl).trans q_v6)) (fun ia_63 ib_63 => ?_)
              refine qm_Rp.go 1 (c' := (206, [.ref 118, .int 1, .int hv, .float 0], [.ref 118, .int v6, .ref 118, .int hv, .ref 176], (h.1, qm_up h.2.1 179 1 v57, h.2.2.1, h.2.2.2))) rfl ?_
              refine hp_getr rfl (hH.1 118 (17, 105) rfl) rfl (hH.2 118 79 (some 171) rfl) ?_
              refine qm_Rp.go 1 (c' := (210, [.ref 118, .int 1, .int hv, .float 0], [.int hv, .ref 171, .int v6, .ref 118, .int hv, .ref 176], (h.1, qm_up h.2.1 179 1 v57, h.2.2.1, h.2.2.2))) rfl ?_
              obtain ⟨v65, q_v65⟩ : ∃ v_, h.2.1 171 hv.toInt.toNat = v_ := ⟨_, rfl⟩
              refine hp_ial (v := v65) rfl (hH.1 171 (0, 40) rfl) (show (qm_up h.2.1 179 1 v57) 171 hv.toInt.toNat = _ from ((hk_ot rfl).trans q_v65)) (fun ia_65 ib_65 => ?_)
              refine qm_Rp.go 1 (c' := (212, [.ref 118, .int 1, .int hv, .float 0], [.ref 118, .int v65, .int v6, .ref 118, .int hv, .ref 176], (h.1, qm_up h.2.1 179 1 v57, h.2.2.1, h.2.2.2))) rfl ?_
              refine hp_getr rfl (hH.1 118 (17, 105) rfl) rfl (hH.2 118 77 (some 169) rfl) ?_
              refine qm_Rp.go 1 (c' := (216, [.ref 118, .int 1, .int hv, .float 0], [.int hv, .ref 169, .int v65, .int v6, .ref 118, .int hv, .ref 176], (h.1, qm_up h.2.1 179 1 v57, h.2.2.1, h.2.2.2))) rfl ?_
              obtain ⟨v67, q_v67⟩ : ∃ v_, h.2.1 169 hv.toInt.toNat = v_ := ⟨_, rfl⟩
              refine hp_ial (v := v67) rfl (hH.1 169 (0, 40) rfl) (show (qm_up h.2.1 179 1 v57) 169 hv.toInt.toNat = _ from ((hk_ot rfl).trans q_v67)) (fun ia_67 ib_67 => ?_)
              refine qm_Rp.go 0 (c' := (217, [.ref 118, .int 1, .int hv, .float 0], [.int v67, .int v65, .int v6, .ref 118, .int hv, .ref 176], (h.1, qm_up h.2.1 179 1 v57, h.2.2.1, h.2.2.2))) rfl ?_
              refine hp_inv (o := 118) (r := [.int hv, .ref 176]) (as := [.ref 118, .int v6, .int v65, .int v67]) rfl rfl (hH.1 118 (17, 105) rfl) rfl rfl rfl (pz_runl0 (h := (h.1, qm_up h.2.1 179 1 v57, h.2.2.1, h.2.2.2)) hH hP.1 (zR_j hr (fun o ho i => ((hk_mod ho rfl).trans rfl))) hP.2.2.1 (fun I69 v70 f_I69 zr_I69 e_v70 => ?_))
              have f_I69 : ∀ o, [150, 151, 152, 153, 154, 155, 156].contains o = false → ∀ i, I69 o i = (qm_up h.2.1 179 1 v57) o i := f_I69
              refine qm_Rp.go 0 (c' := (220, [.ref 118, .int 1, .int hv, .float 0], [.int v70, .int hv, .ref 176], (h.1, I69, h.2.2.1, h.2.2.2))) rfl ?_
              refine hp_ias rfl (hH.1 176 (0, 40) rfl) (fun ia_70 ib_70 => ?_)
              refine qm_Rp.go 1 (c' := (222, [.ref 118, .int 1, .int hv, .float 0], [.ref 118], (h.1, qm_up I69 176 hv.toInt.toNat v70, h.2.2.1, h.2.2.2))) rfl ?_
              refine hp_getr rfl (hH.1 118 (17, 105) rfl) rfl (hH.2 118 80 (some 172) rfl) ?_
              refine qm_Rp.go 2 (c' := (227, [.ref 118, .int 1, .int hv, .float 0], [.int 2, .int hv, .ref 172], (h.1, qm_up I69 176 hv.toInt.toNat v70, h.2.2.1, h.2.2.2))) rfl ?_
              refine hp_ias rfl (hH.1 172 (0, 40) rfl) (fun ia_71 ib_71 => ?_)
              refine qm_Rp.go 1 (c' := (229, [.ref 118, .int 1, .int hv, .float 0], [.ref 118], (h.1, qm_up (qm_up I69 176 hv.toInt.toNat v70) 172 hv.toInt.toNat 2, h.2.2.1, h.2.2.2))) rfl ?_
              refine hp_getr rfl (hH.1 118 (17, 105) rfl) rfl (hH.2 118 83 (some 175) rfl) ?_
              refine qm_Rp.go 2 (c' := (234, [.ref 118, .int 1, .int hv, .float 0], [.ref 118, .int hv, .ref 175], (h.1, qm_up (qm_up I69 176 hv.toInt.toNat v70) 172 hv.toInt.toNat 2, h.2.2.1, h.2.2.2))) rfl ?_
              refine hp_geti (v := v9) rfl (hH.1 118 (17, 105) rfl) rfl (show (qm_up (qm_up I69 176 hv.toInt.toNat v70) 172 hv.toInt.toNat 2) 118 85 = _ from ((hk_ot rfl).trans ((hk_ot rfl).trans ((f_I69 118 rfl 85).trans ((hk_ot rfl).trans q_v9))))) ?_
              refine qm_Rp.go 0 (c' := (237, [.ref 118, .int 1, .int hv, .float 0], [.int v9, .int hv, .ref 175], (h.1, qm_up (qm_up I69 176 hv.toInt.toNat v70) 172 hv.toInt.toNat 2, h.2.2.1, h.2.2.2))) rfl ?_
              refine hp_ias rfl (hH.1 175 (0, 40) rfl) (fun ia_72 ib_72 => ?_)
              refine qm_Rp.go 1 (c' := (239, [.ref 118, .int 1, .int hv, .float 0], [.ref 118], (h.1, qm_up (qm_up (qm_up I69 176 hv.toInt.toNat v70) 172 hv.toInt.toNat 2) 175 hv.toInt.toNat v9, h.2.2.1, h.2.2.2))) rfl ?_
              refine hp_getr rfl (hH.1 118 (17, 105) rfl) rfl (hH.2 118 87 (some 178) rfl) ?_
              refine qm_Rp.go 2 (c' := (244, [.ref 118, .int 1, .int hv, .float 0], [.int (-1), .int 1, .ref 178], (h.1, qm_up (qm_up (qm_up I69 176 hv.toInt.toNat v70) 172 hv.toInt.toNat 2) 175 hv.toInt.toNat v9, h.2.2.1, h.2.2.2))) rfl ?_
              refine hp_ias rfl (hH.1 178 (0, 2) rfl) (fun ia_73 ib_73 => ?_)
              refine qm_Rp.go 1 (c' := (246, [.ref 118, .int 1, .int hv, .float 0], [.ref 118], (h.1, qm_up (qm_up (qm_up (qm_up I69 176 hv.toInt.toNat v70) 172 hv.toInt.toNat 2) 175 hv.toInt.toNat v9) 178 1 (-1), h.2.2.1, h.2.2.2))) rfl ?_
              refine hp_getr rfl (hH.1 118 (17, 105) rfl) rfl (hH.2 118 88 (some 179) rfl) ?_
              refine qm_Rp.go 2 (c' := (251, [.ref 118, .int 1, .int hv, .float 0], [.int 0, .int 1, .ref 179], (h.1, qm_up (qm_up (qm_up (qm_up I69 176 hv.toInt.toNat v70) 172 hv.toInt.toNat 2) 175 hv.toInt.toNat v9) 178 1 (-1), h.2.2.1, h.2.2.2))) rfl ?_
              refine hp_ias rfl (hH.1 179 (0, 2) rfl) (fun ia_74 ib_74 => ?_)
              refine qm_Rp.go 1 (c' := (253, [.ref 118, .int 1, .int hv, .float 0], [.ref 118], (h.1, qm_up (qm_up (qm_up (qm_up (qm_up I69 176 hv.toInt.toNat v70) 172 hv.toInt.toNat 2) 175 hv.toInt.toNat v9) 178 1 (-1)) 179 1 0, h.2.2.1, h.2.2.2))) rfl ?_
              refine hp_getr rfl (hH.1 118 (17, 105) rfl) rfl (hH.2 118 90 (some 181) rfl) ?_
              refine qm_Rp.go 2 (c' := (258, [.ref 118, .int 1, .int hv, .float 0], [.int 1, .ref 181, .int 1, .ref 181], (h.1, qm_up (qm_up (qm_up (qm_up (qm_up I69 176 hv.toInt.toNat v70) 172 hv.toInt.toNat 2) 175 hv.toInt.toNat v9) 178 1 (-1)) 179 1 0, h.2.2.1, h.2.2.2))) rfl ?_
              obtain ⟨v76, q_v76⟩ : ∃ v_, h.2.1 181 1 = v_ := ⟨_, rfl⟩
              refine hp_ial (v := v76) rfl (hH.1 181 (0, 2) rfl) (show (qm_up (qm_up (qm_up (qm_up (qm_up I69 176 hv.toInt.toNat v70) 172 hv.toInt.toNat 2) 175 hv.toInt.toNat v9) 178 1 (-1)) 179 1 0) 181 1 = _ from ((hk_ot rfl).trans ((hk_ot rfl).trans ((hk_ot rfl).trans ((hk_ot rfl).trans ((hk_ot rfl).trans ((f_I69 181 rfl 1).trans ((hk_ot rfl).trans q_v76)))))))) (fun ia_76 ib_76 => ?_)
              refine qm_Rp.go 2 (c' := (261, [.ref 118, .int 1, .int hv, .float 0], [.int (v76 + 1), .int 1, .ref 181], (h.1, qm_up (qm_up (qm_up (qm_up (qm_up I69 176 hv.toInt.toNat v70) 172 hv.toInt.toNat 2) 175 hv.toInt.toNat v9) 178 1 (-1)) 179 1 0, h.2.2.1, h.2.2.2))) rfl ?_
              obtain ⟨v78, q_v78⟩ : ∃ v_, (v76 + 1) = v_ := ⟨_, rfl⟩
              rw [q_v78]
              refine hp_ias rfl (hH.1 181 (0, 2) rfl) (fun ia_78 ib_78 => ?_)
              refine qm_Rp.go 1 (c' := (263, [.ref 118, .int 1, .int hv, .float 0], [.int 1], (h.1, qm_up (qm_up (qm_up (qm_up (qm_up (qm_up I69 176 hv.toInt.toNat v70) 172 hv.toInt.toNat 2) 175 hv.toInt.toNat v9) 178 1 (-1)) 179 1 0) 181 1 v78, h.2.2.1, h.2.2.2))) rfl ?_
              refine qm_Rp.rt (v := (some (.int 1))) (h' := (h.1, qm_up (qm_up (qm_up (qm_up (qm_up (qm_up I69 176 hv.toInt.toNat v70) 172 hv.toInt.toNat 2) 175 hv.toInt.toNat v9) 178 1 (-1)) 179 1 0) 181 1 v78, h.2.2.1, h.2.2.2)) rfl ?_
              have e := jGo_f (s := 0) (A := A) (K := h.2.1) (c := 1) (by rw [q_hv]; omega) (by rw [q_v4, q_hv, q_v6]; exact hk_eqi.mpr (by omega)) (fun z => by unfold jWn at z; rw [q_v10, q_v9, q_v11] at z; omega) (by rw [q_v55, q_v57]; omega)
              have eR : jRe 0 A h.2.1 hv.toInt.toNat = v70.toInt := by unfold jRe; rw [q_v61, q_v67, q_v6, q_v65, okb_f (show ¬ v61.toInt = 0 by omega)]; exact e_v70.symm
              have eS : zR (jSh 0 A h.2.1 hv.toInt.toNat) I69 := by unfold jSh; rw [q_v61, q_v67, q_v6, q_v65, okb_f (show ¬ v61.toInt = 0 by omega)]; exact zr_I69
              rw [q_hv, eR, Int32.ofInt_toInt] at e
              have e2 : jEq (jFi h.2.1 1 hv.toInt.toNat v70) (qm_up (qm_up (qm_up (qm_up (qm_up (qm_up I69 176 hv.toInt.toNat v70) 172 hv.toInt.toNat 2) 175 hv.toInt.toNat v9) 178 1 (-1)) 179 1 0) 181 1 v78) := by
                unfold jFi
                rw [q_v55, q_v57, q_v9, q_v76, q_v78]
                exact jEq_up (jEq_up (jEq_up (jEq_up (jEq_up (jEq_up (jEq_fr jEq_rf f_I69 (by decide)))))))
              refine k (qm_up (qm_up (qm_up (qm_up (qm_up (qm_up I69 176 hv.toInt.toNat v70) 172 hv.toInt.toNat 2) 175 hv.toInt.toNat v9) 178 1 (-1)) 179 1 0) 181 1 v78) 1 (fun o ho i => ((hk_mod ho rfl).trans ((hk_mod ho rfl).trans ((hk_mod ho rfl).trans ((hk_mod ho rfl).trans ((hk_mod ho rfl).trans ((hk_mod ho rfl).trans ((f_I69 o (hk_ms rfl ho) i).trans ((hk_mod ho rfl).trans rfl))))))))) (by rw [e]; exact zR_j eS (fun o ho i => ((hk_mod ho rfl).trans ((hk_mod ho rfl).trans ((hk_mod ho rfl).trans ((hk_mod ho rfl).trans ((hk_mod ho rfl).trans ((hk_mod ho rfl).trans rfl)))))))) (by rw [e]; exact e2) (Or.inl ⟨rfl, ?_, ?_⟩)
              · rw [q_v76, q_v78]; exact hk_same
              · exact ((hk_neq (by decide)).trans ((hk_ot rfl).trans ((hk_ot rfl).trans ((hk_ot rfl).trans ((hk_ot rfl).trans ((hk_ot rfl).trans ((f_I69 181 rfl 0).trans ((hk_ot rfl).trans rfl))))))))
            · refine qm_Rp.go 2 (c' := (175, [.ref 118, .int 1, .int hv, .float 0], [.ref 118, .ref 118, .int hv, .ref 176], (h.1, qm_up h.2.1 179 1 v57, h.2.2.1, h.2.2.2))) rfl ?_
              refine hp_getr rfl (hH.1 118 (17, 105) rfl) rfl (hH.2 118 77 (some 169) rfl) ?_
              refine qm_Rp.go 1 (c' := (179, [.ref 118, .int 1, .int hv, .float 0], [.int hv, .ref 169, .ref 118, .int hv, .ref 176], (h.1, qm_up h.2.1 179 1 v57, h.2.2.1, h.2.2.2))) rfl ?_
              obtain ⟨v80, q_v80⟩ : ∃ v_, h.2.1 169 hv.toInt.toNat = v_ := ⟨_, rfl⟩
              refine hp_ial (v := v80) rfl (hH.1 169 (0, 40) rfl) (show (qm_up h.2.1 179 1 v57) 169 hv.toInt.toNat = _ from ((hk_ot rfl).trans q_v80)) (fun ia_80 ib_80 => ?_)
              refine qm_Rp.go 1 (c' := (181, [.ref 118, .int 1, .int hv, .float 0], [.ref 118, .int v80, .ref 118, .int hv, .ref 176], (h.1, qm_up h.2.1 179 1 v57, h.2.2.1, h.2.2.2))) rfl ?_
              refine hp_getr rfl (hH.1 118 (17, 105) rfl) rfl (hH.2 118 78 (some 170) rfl) ?_
              refine qm_Rp.go 1 (c' := (185, [.ref 118, .int 1, .int hv, .float 0], [.int hv, .ref 170, .int v80, .ref 118, .int hv, .ref 176], (h.1, qm_up h.2.1 179 1 v57, h.2.2.1, h.2.2.2))) rfl ?_
              refine hp_ial (v := v6) rfl (hH.1 170 (0, 40) rfl) (show (qm_up h.2.1 179 1 v57) 170 hv.toInt.toNat = _ from ((hk_ot rfl).trans q_v6)) (fun ia_81 ib_81 => ?_)
              refine qm_Rp.go 1 (c' := (187, [.ref 118, .int 1, .int hv, .float 0], [.ref 118, .int v6, .int v80, .ref 118, .int hv, .ref 176], (h.1, qm_up h.2.1 179 1 v57, h.2.2.1, h.2.2.2))) rfl ?_
              refine hp_getr rfl (hH.1 118 (17, 105) rfl) rfl (hH.2 118 79 (some 171) rfl) ?_
              refine qm_Rp.go 1 (c' := (191, [.ref 118, .int 1, .int hv, .float 0], [.int hv, .ref 171, .int v6, .int v80, .ref 118, .int hv, .ref 176], (h.1, qm_up h.2.1 179 1 v57, h.2.2.1, h.2.2.2))) rfl ?_
              obtain ⟨v83, q_v83⟩ : ∃ v_, h.2.1 171 hv.toInt.toNat = v_ := ⟨_, rfl⟩
              refine hp_ial (v := v83) rfl (hH.1 171 (0, 40) rfl) (show (qm_up h.2.1 179 1 v57) 171 hv.toInt.toNat = _ from ((hk_ot rfl).trans q_v83)) (fun ia_83 ib_83 => ?_)
              refine qm_Rp.go 0 (c' := (192, [.ref 118, .int 1, .int hv, .float 0], [.int v83, .int v6, .int v80, .ref 118, .int hv, .ref 176], (h.1, qm_up h.2.1 179 1 v57, h.2.2.1, h.2.2.2))) rfl ?_
              refine hp_inv (o := 118) (r := [.int hv, .ref 176]) (as := [.ref 118, .int v80, .int v6, .int v83]) rfl rfl (hH.1 118 (17, 105) rfl) rfl rfl rfl (pz_rload0 (h := (h.1, qm_up h.2.1 179 1 v57, h.2.2.1, h.2.2.2)) hH hP.1 (zR_j hr (fun o ho i => ((hk_mod ho rfl).trans rfl))) hP.2.2.1 (fun I85 v86 f_I85 zr_I85 e_v86 => ?_))
              have f_I85 : ∀ o, [150, 151, 152, 153, 154, 155, 156].contains o = false → ∀ i, I85 o i = (qm_up h.2.1 179 1 v57) o i := f_I85
              refine qm_Rp.go 1 (c' := (220, [.ref 118, .int 1, .int hv, .float 0], [.int v86, .int hv, .ref 176], (h.1, I85, h.2.2.1, h.2.2.2))) rfl ?_
              refine hp_ias rfl (hH.1 176 (0, 40) rfl) (fun ia_86 ib_86 => ?_)
              refine qm_Rp.go 1 (c' := (222, [.ref 118, .int 1, .int hv, .float 0], [.ref 118], (h.1, qm_up I85 176 hv.toInt.toNat v86, h.2.2.1, h.2.2.2))) rfl ?_
              refine hp_getr rfl (hH.1 118 (17, 105) rfl) rfl (hH.2 118 80 (some 172) rfl) ?_
              refine qm_Rp.go 2 (c' := (227, [.ref 118, .int 1, .int hv, .float 0], [.int 2, .int hv, .ref 172], (h.1, qm_up I85 176 hv.toInt.toNat v86, h.2.2.1, h.2.2.2))) rfl ?_
              refine hp_ias rfl (hH.1 172 (0, 40) rfl) (fun ia_87 ib_87 => ?_)
              refine qm_Rp.go 1 (c' := (229, [.ref 118, .int 1, .int hv, .float 0], [.ref 118], (h.1, qm_up (qm_up I85 176 hv.toInt.toNat v86) 172 hv.toInt.toNat 2, h.2.2.1, h.2.2.2))) rfl ?_
              refine hp_getr rfl (hH.1 118 (17, 105) rfl) rfl (hH.2 118 83 (some 175) rfl) ?_
              refine qm_Rp.go 2 (c' := (234, [.ref 118, .int 1, .int hv, .float 0], [.ref 118, .int hv, .ref 175], (h.1, qm_up (qm_up I85 176 hv.toInt.toNat v86) 172 hv.toInt.toNat 2, h.2.2.1, h.2.2.2))) rfl ?_
              refine hp_geti (v := v9) rfl (hH.1 118 (17, 105) rfl) rfl (show (qm_up (qm_up I85 176 hv.toInt.toNat v86) 172 hv.toInt.toNat 2) 118 85 = _ from ((hk_ot rfl).trans ((hk_ot rfl).trans ((f_I85 118 rfl 85).trans ((hk_ot rfl).trans q_v9))))) ?_
              refine qm_Rp.go 0 (c' := (237, [.ref 118, .int 1, .int hv, .float 0], [.int v9, .int hv, .ref 175], (h.1, qm_up (qm_up I85 176 hv.toInt.toNat v86) 172 hv.toInt.toNat 2, h.2.2.1, h.2.2.2))) rfl ?_
              refine hp_ias rfl (hH.1 175 (0, 40) rfl) (fun ia_88 ib_88 => ?_)
              refine qm_Rp.go 1 (c' := (239, [.ref 118, .int 1, .int hv, .float 0], [.ref 118], (h.1, qm_up (qm_up (qm_up I85 176 hv.toInt.toNat v86) 172 hv.toInt.toNat 2) 175 hv.toInt.toNat v9, h.2.2.1, h.2.2.2))) rfl ?_
              refine hp_getr rfl (hH.1 118 (17, 105) rfl) rfl (hH.2 118 87 (some 178) rfl) ?_
              refine qm_Rp.go 2 (c' := (244, [.ref 118, .int 1, .int hv, .float 0], [.int (-1), .int 1, .ref 178], (h.1, qm_up (qm_up (qm_up I85 176 hv.toInt.toNat v86) 172 hv.toInt.toNat 2) 175 hv.toInt.toNat v9, h.2.2.1, h.2.2.2))) rfl ?_
              refine hp_ias rfl (hH.1 178 (0, 2) rfl) (fun ia_89 ib_89 => ?_)
              refine qm_Rp.go 1 (c' := (246, [.ref 118, .int 1, .int hv, .float 0], [.ref 118], (h.1, qm_up (qm_up (qm_up (qm_up I85 176 hv.toInt.toNat v86) 172 hv.toInt.toNat 2) 175 hv.toInt.toNat v9) 178 1 (-1), h.2.2.1, h.2.2.2))) rfl ?_
              refine hp_getr rfl (hH.1 118 (17, 105) rfl) rfl (hH.2 118 88 (some 179) rfl) ?_
              refine qm_Rp.go 2 (c' := (251, [.ref 118, .int 1, .int hv, .float 0], [.int 0, .int 1, .ref 179], (h.1, qm_up (qm_up (qm_up (qm_up I85 176 hv.toInt.toNat v86) 172 hv.toInt.toNat 2) 175 hv.toInt.toNat v9) 178 1 (-1), h.2.2.1, h.2.2.2))) rfl ?_
              refine hp_ias rfl (hH.1 179 (0, 2) rfl) (fun ia_90 ib_90 => ?_)
              refine qm_Rp.go 1 (c' := (253, [.ref 118, .int 1, .int hv, .float 0], [.ref 118], (h.1, qm_up (qm_up (qm_up (qm_up (qm_up I85 176 hv.toInt.toNat v86) 172 hv.toInt.toNat 2) 175 hv.toInt.toNat v9) 178 1 (-1)) 179 1 0, h.2.2.1, h.2.2.2))) rfl ?_
              refine hp_getr rfl (hH.1 118 (17, 105) rfl) rfl (hH.2 118 90 (some 181) rfl) ?_
              refine qm_Rp.go 2 (c' := (258, [.ref 118, .int 1, .int hv, .float 0], [.int 1, .ref 181, .int 1, .ref 181], (h.1, qm_up (qm_up (qm_up (qm_up (qm_up I85 176 hv.toInt.toNat v86) 172 hv.toInt.toNat 2) 175 hv.toInt.toNat v9) 178 1 (-1)) 179 1 0, h.2.2.1, h.2.2.2))) rfl ?_
              obtain ⟨v92, q_v92⟩ : ∃ v_, h.2.1 181 1 = v_ := ⟨_, rfl⟩
              refine hp_ial (v := v92) rfl (hH.1 181 (0, 2) rfl) (show (qm_up (qm_up (qm_up (qm_up (qm_up I85 176 hv.toInt.toNat v86) 172 hv.toInt.toNat 2) 175 hv.toInt.toNat v9) 178 1 (-1)) 179 1 0) 181 1 = _ from ((hk_ot rfl).trans ((hk_ot rfl).trans ((hk_ot rfl).trans ((hk_ot rfl).trans ((hk_ot rfl).trans ((f_I85 181 rfl 1).trans ((hk_ot rfl).trans q_v92)))))))) (fun ia_92 ib_92 => ?_)
              refine qm_Rp.go 2 (c' := (261, [.ref 118, .int 1, .int hv, .float 0], [.int (v92 + 1), .int 1, .ref 181], (h.1, qm_up (qm_up (qm_up (qm_up (qm_up I85 176 hv.toInt.toNat v86) 172 hv.toInt.toNat 2) 175 hv.toInt.toNat v9) 178 1 (-1)) 179 1 0, h.2.2.1, h.2.2.2))) rfl ?_
              obtain ⟨v94, q_v94⟩ : ∃ v_, (v92 + 1) = v_ := ⟨_, rfl⟩
              rw [q_v94]
              refine hp_ias rfl (hH.1 181 (0, 2) rfl) (fun ia_94 ib_94 => ?_)
              refine qm_Rp.go 1 (c' := (263, [.ref 118, .int 1, .int hv, .float 0], [.int 1], (h.1, qm_up (qm_up (qm_up (qm_up (qm_up (qm_up I85 176 hv.toInt.toNat v86) 172 hv.toInt.toNat 2) 175 hv.toInt.toNat v9) 178 1 (-1)) 179 1 0) 181 1 v94, h.2.2.1, h.2.2.2))) rfl ?_
              refine qm_Rp.rt (v := (some (.int 1))) (h' := (h.1, qm_up (qm_up (qm_up (qm_up (qm_up (qm_up I85 176 hv.toInt.toNat v86) 172 hv.toInt.toNat 2) 175 hv.toInt.toNat v9) 178 1 (-1)) 179 1 0) 181 1 v94, h.2.2.1, h.2.2.2)) rfl ?_
              have e := jGo_f (s := 0) (A := A) (K := h.2.1) (c := 1) (by rw [q_hv]; omega) (by rw [q_v4, q_hv, q_v6]; exact hk_eqi.mpr (by omega)) (fun z => by unfold jWn at z; rw [q_v10, q_v9, q_v11] at z; omega) (by rw [q_v55, q_v57]; omega)
              have eR : jRe 0 A h.2.1 hv.toInt.toNat = v86.toInt := by unfold jRe; rw [q_v61, q_v80, q_v6, q_v83, okb_t (show v61.toInt = 0 by omega)]; exact e_v86.symm
              have eS : zR (jSh 0 A h.2.1 hv.toInt.toNat) I85 := by unfold jSh; rw [q_v61, q_v80, q_v6, q_v83, okb_t (show v61.toInt = 0 by omega)]; exact zr_I85
              rw [q_hv, eR, Int32.ofInt_toInt] at e
              have e2 : jEq (jFi h.2.1 1 hv.toInt.toNat v86) (qm_up (qm_up (qm_up (qm_up (qm_up (qm_up I85 176 hv.toInt.toNat v86) 172 hv.toInt.toNat 2) 175 hv.toInt.toNat v9) 178 1 (-1)) 179 1 0) 181 1 v94) := by
                unfold jFi
                rw [q_v55, q_v57, q_v9, q_v92, q_v94]
                exact jEq_up (jEq_up (jEq_up (jEq_up (jEq_up (jEq_up (jEq_fr jEq_rf f_I85 (by decide)))))))
              refine k (qm_up (qm_up (qm_up (qm_up (qm_up (qm_up I85 176 hv.toInt.toNat v86) 172 hv.toInt.toNat 2) 175 hv.toInt.toNat v9) 178 1 (-1)) 179 1 0) 181 1 v94) 1 (fun o ho i => ((hk_mod ho rfl).trans ((hk_mod ho rfl).trans ((hk_mod ho rfl).trans ((hk_mod ho rfl).trans ((hk_mod ho rfl).trans ((hk_mod ho rfl).trans ((f_I85 o (hk_ms rfl ho) i).trans ((hk_mod ho rfl).trans rfl))))))))) (by rw [e]; exact zR_j eS (fun o ho i => ((hk_mod ho rfl).trans ((hk_mod ho rfl).trans ((hk_mod ho rfl).trans ((hk_mod ho rfl).trans ((hk_mod ho rfl).trans ((hk_mod ho rfl).trans rfl)))))))) (by rw [e]; exact e2) (Or.inl ⟨rfl, ?_, ?_⟩)
              · rw [q_v92, q_v94]; exact hk_same
              · exact ((hk_neq (by decide)).trans ((hk_ot rfl).trans ((hk_ot rfl).trans ((hk_ot rfl).trans ((hk_ot rfl).trans ((hk_ot rfl).trans ((f_I85 181 rfl 0).trans ((hk_ot rfl).trans rfl))))))))
          · refine qm_Rp.go 1 (c' := (158, [.ref 118, .int 1, .int hv, .float 0], [.int 0], (h.1, qm_up h.2.1 179 1 v57, h.2.2.1, h.2.2.2))) rfl ?_
            refine qm_Rp.rt (v := (some (.int 0))) (h' := (h.1, qm_up h.2.1 179 1 v57, h.2.2.1, h.2.2.2)) rfl ?_
            have e := jGo_l (s := 0) (A := A) (K := h.2.1) (c := 1) (by rw [q_hv]; omega) (by rw [q_v4, q_hv, q_v6]; exact hk_eqi.mpr (by omega)) (fun z => by unfold jWn at z; rw [q_v10, q_v9, q_v11] at z; omega) (by rw [q_v55, q_v57]; omega)
            have e2 : jLi h.2.1 1 = qm_up h.2.1 179 1 v57 := by unfold jLi; rw [q_v55, q_v57]
            exact k (qm_up h.2.1 179 1 v57) 0 (fun o ho i => ((hk_mod ho rfl).trans rfl)) (by rw [e]; exact zR_j hr (fun o ho i => ((hk_mod ho rfl).trans rfl))) (by rw [e]; show jEq (jLi h.2.1 1) _; rw [e2]; exact jEq_rf) (Or.inr ⟨rfl, fun i => ((hk_ot rfl).trans rfl)⟩)
        · refine qm_Rp.go 2 (c' := (15, [.int v9, .int v10, .int v11], [.int 1], h)) rfl ?_
          refine qm_Rp.rt (v := (some (.int 1))) (h' := h) rfl ?_
          refine qm_Rp.go 2 (c' := (136, [.ref 118, .int 1, .int hv, .float 0], [.int 0], h)) rfl ?_
          refine qm_Rp.rt (v := (some (.int 0))) (h' := h) rfl ?_
          have e := jGo_w (s := 0) (A := A) (K := h.2.1) (c := 1) (by rw [q_hv]; omega) (by rw [q_v4, q_hv, q_v6]; exact hk_eqi.mpr (by omega)) (by unfold jWn; rw [q_v10, q_v9, q_v11]; omega)
          exact k h.2.1 0 (fun _ _ _ => rfl) (by rw [e]; exact hr) (by rw [e]; exact jEq_rf) (Or.inr ⟨rfl, fun _ => rfl⟩)
    · refine qm_Rp.go 1 (c' := (50, [.ref 118, .int 1, .int hv, .float 0], [.ref 118], h)) rfl ?_
      refine hp_getr rfl (hH.1 118 (17, 105) rfl) rfl (hH.2 118 86 (some 177) rfl) ?_
      refine qm_Rp.go 1 (c' := (54, [.ref 118, .int 1, .int hv, .float 0], [.int 1, .ref 177], h)) rfl ?_
      refine hp_ial (v := v4) rfl (hH.1 177 (0, 2) rfl) q_v4 (fun ia_95 ib_95 => ?_)
      refine qm_Rp.go 1 (c' := (56, [.ref 118, .int 1, .int hv, .float 0], [.ref 118, .int v4], h)) rfl ?_
      refine hp_getr rfl (hH.1 118 (17, 105) rfl) rfl (hH.2 118 78 (some 170) rfl) ?_
      refine qm_Rp.go 1 (c' := (60, [.ref 118, .int 1, .int hv, .float 0], [.int hv, .ref 170, .int v4], h)) rfl ?_
      refine hp_ial (v := v6) rfl (hH.1 170 (0, 40) rfl) q_v6 (fun ia_96 ib_96 => ?_)
      refine qm_Rp.go 0 (c' := (61, [.ref 118, .int 1, .int hv, .float 0], [.int v6, .int v4], h)) rfl ?_
      refine hp_cge (ix := v4.toInt) (iy := v6.toInt) rfl rfl rfl (fun z98 => ?_) (fun z98 => ?_)
      · refine qm_Rp.go 1 (c' := (76, [.ref 118, .int 1, .int hv, .float 0], [.ref 118], h)) rfl ?_
        refine hp_getr rfl (hH.1 118 (17, 105) rfl) rfl (hH.2 118 86 (some 177) rfl) ?_
        refine qm_Rp.go 1 (c' := (80, [.ref 118, .int 1, .int hv, .float 0], [.int 1, .ref 177], h)) rfl ?_
        refine hp_ial (v := v4) rfl (hH.1 177 (0, 2) rfl) q_v4 (fun ia_98 ib_98 => ?_)
        refine qm_Rp.go 2 (c' := (83, [.ref 118, .int 1, .int hv, .float 0], [.int (v4 - 1)], h)) rfl ?_
        obtain ⟨v100, q_v100, e_v100⟩ := hk_sub (x := v4) (y := 1) (a := v4.toInt) (b := 1) rfl rfl (by omega) (by omega)
        rw [q_v100]
        refine qm_Rp.go 3 (c' := (86, [.ref 118, .int 1, .int hv, .int v100], [.ref 118, .int v100], h)) rfl ?_
        refine hp_getr rfl (hH.1 118 (17, 105) rfl) rfl (hH.2 118 86 (some 177) rfl) ?_
        refine qm_Rp.go 3 (c' := (92, [.ref 118, .int 1, .int hv, .int v100], [.int 0, .ref 177, .int v100], h)) rfl ?_
        obtain ⟨v101, q_v101⟩ : ∃ v_, h.2.1 177 0 = v_ := ⟨_, rfl⟩
        have b_v101 : (-1 : Int) ≤ v101.toInt ∧ v101.toInt ≤ 4 := by rw [← q_v101]; exact b177 0 (by decide)
        refine hp_ial (v := v101) rfl (hH.1 177 (0, 2) rfl) q_v101 (fun ia_101 ib_101 => ?_)
        refine qm_Rp.go 0 (c' := (93, [.ref 118, .int 1, .int hv, .int v100], [.int v101, .int v100], h)) rfl ?_
        refine hp_cne (ix := v100.toInt) (iy := v101.toInt) rfl rfl rfl (fun z103 => ?_) (fun z103 => ?_)
        · refine qm_Rp.go 1 (c' := (99, [.ref 118, .int 1, .int hv, .int v100], [.ref 118], h)) rfl ?_
          refine hp_getr rfl (hH.1 118 (17, 105) rfl) rfl (hH.2 118 86 (some 177) rfl) ?_
          refine qm_Rp.go 2 (c' := (104, [.ref 118, .int 1, .int hv, .int v100], [.int v100, .int 1, .ref 177], h)) rfl ?_
          refine hp_ias rfl (hH.1 177 (0, 2) rfl) (fun ia_103 ib_103 => ?_)
          refine qm_Rp.go 1 (c' := (106, [.ref 118, .int 1, .int hv, .int v100], [.ref 118], (h.1, qm_up h.2.1 177 1 v100, h.2.2.1, h.2.2.2))) rfl ?_
          refine hp_getr rfl (hH.1 118 (17, 105) rfl) rfl (hH.2 118 89 (some 180) rfl) ?_
          refine qm_Rp.go 2 (c' := (111, [.ref 118, .int 1, .int hv, .int v100], [.int 1, .ref 180, .int 1, .ref 180], (h.1, qm_up h.2.1 177 1 v100, h.2.2.1, h.2.2.2))) rfl ?_
          obtain ⟨v105, q_v105⟩ : ∃ v_, h.2.1 180 1 = v_ := ⟨_, rfl⟩
          refine hp_ial (v := v105) rfl (hH.1 180 (0, 2) rfl) (show (qm_up h.2.1 177 1 v100) 180 1 = _ from ((hk_ot rfl).trans q_v105)) (fun ia_105 ib_105 => ?_)
          refine qm_Rp.go 2 (c' := (114, [.ref 118, .int 1, .int hv, .int v100], [.int (v105 + 1), .int 1, .ref 180], (h.1, qm_up h.2.1 177 1 v100, h.2.2.1, h.2.2.2))) rfl ?_
          obtain ⟨v107, q_v107⟩ : ∃ v_, (v105 + 1) = v_ := ⟨_, rfl⟩
          rw [q_v107]
          refine hp_ias rfl (hH.1 180 (0, 2) rfl) (fun ia_107 ib_107 => ?_)
          refine qm_Rp.go 1 (c' := (116, [.ref 118, .int 1, .int hv, .int v100], [.int 0], (h.1, qm_up (qm_up h.2.1 177 1 v100) 180 1 v107, h.2.2.1, h.2.2.2))) rfl ?_
          refine qm_Rp.rt (v := (some (.int 0))) (h' := (h.1, qm_up (qm_up h.2.1 177 1 v100) 180 1 v107, h.2.2.1, h.2.2.2)) rfl ?_
          have hmv : jMv h.2.1 1 = v100 := by unfold jMv; rw [q_hv, q_v6, q_v4, okb_f (show ¬ v4.toInt < v6.toInt by omega)]; exact q_v100
          have e := jGo_m (s := 0) (A := A) (K := h.2.1) (c := 1) (by rw [q_hv]; omega) (fun z => by rw [q_v4, q_hv, q_v6] at z; have := congrArg Int32.toInt z; omega) (by rw [hmv, show 1 - 1 = 0 from rfl, q_v101]; exact fun z => by have := congrArg Int32.toInt z; omega)
          have e2 : jMo h.2.1 1 = qm_up (qm_up h.2.1 177 1 v100) 180 1 v107 := by unfold jMo; rw [hmv, q_v105, q_v107]
          exact k (qm_up (qm_up h.2.1 177 1 v100) 180 1 v107) 0 (fun o ho i => ((hk_mod ho rfl).trans ((hk_mod ho rfl).trans rfl))) (by rw [e]; exact zR_j hr (fun o ho i => ((hk_mod ho rfl).trans ((hk_mod ho rfl).trans rfl)))) (by rw [e]; show jEq (jMo h.2.1 1) _; rw [e2]; exact jEq_rf) (Or.inr ⟨rfl, fun i => ((hk_ot rfl).trans ((hk_ot rfl).trans rfl))⟩)
        · refine qm_Rp.go 1 (c' := (97, [.ref 118, .int 1, .int hv, .int v100], [.int 0], h)) rfl ?_
          refine qm_Rp.rt (v := (some (.int 0))) (h' := h) rfl ?_
          have hmv : jMv h.2.1 1 = v100 := by unfold jMv; rw [q_hv, q_v6, q_v4, okb_f (show ¬ v4.toInt < v6.toInt by omega)]; exact q_v100
          have e := jGo_b (s := 0) (A := A) (K := h.2.1) (c := 1) (by rw [q_hv]; omega) (fun z => by rw [q_v4, q_hv, q_v6] at z; have := congrArg Int32.toInt z; omega) (by rw [hmv, show 1 - 1 = 0 from rfl, q_v101]; exact hk_eqi.mpr (by omega))
          exact k h.2.1 0 (fun _ _ _ => rfl) (by rw [e]; exact hr) (by rw [e]; exact jEq_rf) (Or.inr ⟨rfl, fun _ => rfl⟩)
      · refine qm_Rp.go 1 (c' := (65, [.ref 118, .int 1, .int hv, .float 0], [.ref 118], h)) rfl ?_
        refine hp_getr rfl (hH.1 118 (17, 105) rfl) rfl (hH.2 118 86 (some 177) rfl) ?_
        refine qm_Rp.go 1 (c' := (69, [.ref 118, .int 1, .int hv, .float 0], [.int 1, .ref 177], h)) rfl ?_
        refine hp_ial (v := v4) rfl (hH.1 177 (0, 2) rfl) q_v4 (fun ia_108 ib_108 => ?_)
        refine qm_Rp.go 2 (c' := (72, [.ref 118, .int 1, .int hv, .float 0], [.int (v4 + 1)], h)) rfl ?_
        obtain ⟨v110, q_v110, e_v110⟩ := hk_add (x := v4) (y := 1) (a := v4.toInt) (b := 1) rfl rfl (by omega) (by omega)
        rw [q_v110]
        refine qm_Rp.go 1 (c' := (83, [.ref 118, .int 1, .int hv, .float 0], [.int v110], h)) rfl ?_
        refine qm_Rp.go 3 (c' := (86, [.ref 118, .int 1, .int hv, .int v110], [.ref 118, .int v110], h)) rfl ?_
        refine hp_getr rfl (hH.1 118 (17, 105) rfl) rfl (hH.2 118 86 (some 177) rfl) ?_
        refine qm_Rp.go 3 (c' := (92, [.ref 118, .int 1, .int hv, .int v110], [.int 0, .ref 177, .int v110], h)) rfl ?_
        obtain ⟨v111, q_v111⟩ : ∃ v_, h.2.1 177 0 = v_ := ⟨_, rfl⟩
        have b_v111 : (-1 : Int) ≤ v111.toInt ∧ v111.toInt ≤ 4 := by rw [← q_v111]; exact b177 0 (by decide)
        refine hp_ial (v := v111) rfl (hH.1 177 (0, 2) rfl) q_v111 (fun ia_111 ib_111 => ?_)
        refine qm_Rp.go 0 (c' := (93, [.ref 118, .int 1, .int hv, .int v110], [.int v111, .int v110], h)) rfl ?_
        refine hp_cne (ix := v110.toInt) (iy := v111.toInt) rfl rfl rfl (fun z113 => ?_) (fun z113 => ?_)
        · refine qm_Rp.go 1 (c' := (99, [.ref 118, .int 1, .int hv, .int v110], [.ref 118], h)) rfl ?_
          refine hp_getr rfl (hH.1 118 (17, 105) rfl) rfl (hH.2 118 86 (some 177) rfl) ?_
          refine qm_Rp.go 2 (c' := (104, [.ref 118, .int 1, .int hv, .int v110], [.int v110, .int 1, .ref 177], h)) rfl ?_
          refine hp_ias rfl (hH.1 177 (0, 2) rfl) (fun ia_113 ib_113 => ?_)
          refine qm_Rp.go 1 (c' := (106, [.ref 118, .int 1, .int hv, .int v110], [.ref 118], (h.1, qm_up h.2.1 177 1 v110, h.2.2.1, h.2.2.2))) rfl ?_
          refine hp_getr rfl (hH.1 118 (17, 105) rfl) rfl (hH.2 118 89 (some 180) rfl) ?_
          refine qm_Rp.go 2 (c' := (111, [.ref 118, .int 1, .int hv, .int v110], [.int 1, .ref 180, .int 1, .ref 180], (h.1, qm_up h.2.1 177 1 v110, h.2.2.1, h.2.2.2))) rfl ?_
          obtain ⟨v115, q_v115⟩ : ∃ v_, h.2.1 180 1 = v_ := ⟨_, rfl⟩
          refine hp_ial (v := v115) rfl (hH.1 180 (0, 2) rfl) (show (qm_up h.2.1 177 1 v110) 180 1 = _ from ((hk_ot rfl).trans q_v115)) (fun ia_115 ib_115 => ?_)
          refine qm_Rp.go 2 (c' := (114, [.ref 118, .int 1, .int hv, .int v110], [.int (v115 + 1), .int 1, .ref 180], (h.1, qm_up h.2.1 177 1 v110, h.2.2.1, h.2.2.2))) rfl ?_
          obtain ⟨v117, q_v117⟩ : ∃ v_, (v115 + 1) = v_ := ⟨_, rfl⟩
          rw [q_v117]
          refine hp_ias rfl (hH.1 180 (0, 2) rfl) (fun ia_117 ib_117 => ?_)
          refine qm_Rp.go 1 (c' := (116, [.ref 118, .int 1, .int hv, .int v110], [.int 0], (h.1, qm_up (qm_up h.2.1 177 1 v110) 180 1 v117, h.2.2.1, h.2.2.2))) rfl ?_
          refine qm_Rp.rt (v := (some (.int 0))) (h' := (h.1, qm_up (qm_up h.2.1 177 1 v110) 180 1 v117, h.2.2.1, h.2.2.2)) rfl ?_
          have hmv : jMv h.2.1 1 = v110 := by unfold jMv; rw [q_hv, q_v6, q_v4, okb_t (show v4.toInt < v6.toInt by omega)]; exact q_v110
          have e := jGo_m (s := 0) (A := A) (K := h.2.1) (c := 1) (by rw [q_hv]; omega) (fun z => by rw [q_v4, q_hv, q_v6] at z; have := congrArg Int32.toInt z; omega) (by rw [hmv, show 1 - 1 = 0 from rfl, q_v111]; exact fun z => by have := congrArg Int32.toInt z; omega)
          have e2 : jMo h.2.1 1 = qm_up (qm_up h.2.1 177 1 v110) 180 1 v117 := by unfold jMo; rw [hmv, q_v115, q_v117]
          exact k (qm_up (qm_up h.2.1 177 1 v110) 180 1 v117) 0 (fun o ho i => ((hk_mod ho rfl).trans ((hk_mod ho rfl).trans rfl))) (by rw [e]; exact zR_j hr (fun o ho i => ((hk_mod ho rfl).trans ((hk_mod ho rfl).trans rfl)))) (by rw [e]; show jEq (jMo h.2.1 1) _; rw [e2]; exact jEq_rf) (Or.inr ⟨rfl, fun i => ((hk_ot rfl).trans ((hk_ot rfl).trans rfl))⟩)
        · refine qm_Rp.go 1 (c' := (97, [.ref 118, .int 1, .int hv, .int v110], [.int 0], h)) rfl ?_
          refine qm_Rp.rt (v := (some (.int 0))) (h' := h) rfl ?_
          have hmv : jMv h.2.1 1 = v110 := by unfold jMv; rw [q_hv, q_v6, q_v4, okb_t (show v4.toInt < v6.toInt by omega)]; exact q_v110
          have e := jGo_b (s := 0) (A := A) (K := h.2.1) (c := 1) (by rw [q_hv]; omega) (fun z => by rw [q_v4, q_hv, q_v6] at z; have := congrArg Int32.toInt z; omega) (by rw [hmv, show 1 - 1 = 0 from rfl, q_v111]; exact hk_eqi.mpr (by omega))
          exact k h.2.1 0 (fun _ _ _ => rfl) (by rw [e]; exact hr) (by rw [e]; exact jEq_rf) (Or.inr ⟨rfl, fun _ => rfl⟩)
  · refine qm_Rp.go 1 (c' := (26, [.ref 118, .int 1, .float 0, .float 0], [.int 0], h)) rfl ?_
    refine qm_Rp.rt (v := (some (.int 0))) (h' := h) rfl ?_
    have e := jGo_n (s := 0) (A := A) (K := h.2.1) (c := 1) (by rw [q_hv]; omega)
    exact k h.2.1 0 (fun _ _ _ => rfl) (by rw [e]; exact hr) (by rw [e]; exact jEq_rf) (Or.inr ⟨rfl, fun _ => rfl⟩)
theorem px_works10 {X : Option (Nat × (Nat → Int32))} {Z : Option Value → qm_H → Prop} {h : qm_H} {fu : Nat} (hH : hk_H h) {A : Nat → Nat → Int} (hP : jP 0 (A, h.2.1)) (hr : zR A h.2.1) (b170 : ∀ k, (0 : Int) ≤ (h.2.1 170 k).toInt ∧ (h.2.1 170 k).toInt ≤ 4) (k : ∀ (I : Nat → Nat → Int32) (v : Int32), (∀ o, [150, 151, 152, 153, 154, 155, 156, 172, 173, 174, 175, 176, 177, 178, 179, 180, 181].contains o = false → ∀ i, I o i = h.2.1 o i) → zR (jSt 0 (A, h.2.1) 1).1 I → jEq (jSt 0 (A, h.2.1) 1).2 I → (v.toInt = 1 ∧ I 181 1 = h.2.1 181 1 + 1 ∧ I 181 0 = h.2.1 181 0 ∨ v.toInt = 0 ∧ ∀ i, I 181 i = h.2.1 181 i) → Z (some (.int v)) (h.1, I, h.2.2.1, h.2.2.2)) : qm_Rp fu X cd_362 (qm_ent 4 [.ref 118, .int 1] h) Z := by
  have hP0 := hP
  obtain ⟨p1, p2, p3, ⟨⟨n1, n2⟩, n3, n4, n5⟩, p5⟩ := hP
  have cr := n3 1 (by decide)
  have b9 : -1 ≤ (h.2.1 178 1).toInt ∧ (h.2.1 178 1).toInt ≤ 39 := by
    rcases cr with w | w
    · have w1 : (h.2.1 178 1).toInt = -1 := w.1
      omega
    · have n1 : 0 ≤ (h.2.1 118 75).toInt ∧ (h.2.1 118 75).toInt ≤ 40 := n1
      have w1 : 0 ≤ (h.2.1 178 1).toInt ∧ (h.2.1 178 1).toInt < (h.2.1 118 75).toInt := w.1
      omega
  have b179 : 0 ≤ (h.2.1 179 1).toInt ∧ (h.2.1 179 1).toInt ≤ 1 := by
    rcases cr with w | w
    · have w2 : (h.2.1 179 1).toInt = 0 := w.2
      omega
    · exact w.2.2
  have kz : (-1 : Int32).toInt = -1 := rfl
  refine qm_Rp.go 1 (c' := (1, [.ref 118, .int 1, .float 0, .float 0], [.ref 118], h)) rfl ?_
  refine hp_getr rfl (hH.1 118 (17, 105) rfl) rfl (hH.2 118 87 (some 178) rfl) ?_
  refine qm_Rp.go 1 (c' := (5, [.ref 118, .int 1, .float 0, .float 0], [.int 1, .ref 178], h)) rfl ?_
  refine hp_ial (v := h.2.1 178 1) rfl (hH.1 178 (0, 2) rfl) rfl (fun _ _ => ?_)
  refine qm_Rp.go 1 (c' := (7, [.ref 118, .int 1, .float 0, .float 0], [.int (-1), .int (h.2.1 178 1)], h)) rfl ?_
  refine hp_cne (ix := (h.2.1 178 1).toInt) (iy := -1) rfl rfl rfl (fun z => ?_) (fun z => ?_)
  · refine qm_Rp.go 0 (c' := (15, [.ref 118, .int 1, .float 0, .float 0], [], h)) rfl ?_
    rw [jSt_0 z] at k
    exact px_wrest10 hH hP0 hr rfl b9 b170 n2 b179 k
  · refine qm_Rp.go 2 (c' := (12, [.ref 118, .int 1, .float 0, .float 0], [.int 1, .ref 118], h)) rfl ?_
    rw [jSt_1 z] at k
    have jT : jI (jTk h.2.1 1) := jTk_I (by decide) hP0.2.2.2.1
    have f9 : ∀ o, [172, 173, 174, 178, 179].contains o = false → jTk h.2.1 1 o = h.2.1 o := fun o ho => by
      have m : ∀ q ∈ [172, 173, 174, 178, 179], o ≠ q := fun q hq e => by
        subst e
        rw [List.contains_iff_mem.mpr hq] at ho
        cases ho
      by_cases q : jNx h.2.1 1 < (h.2.1 118 75).toInt.toNat
      · rw [jTk_1 q]
        exact jT1_at.1 o (m 178 (by decide)) (m 179 (by decide)) (m 172 (by decide)) (m 173 (by decide)) (m 174 (by decide))
      · rw [jTk_0 q]
    have hP2 : jP 0 (A, jTk h.2.1 1) := ⟨p1, p2, p3, jT, by show 0 ≤ (jTk h.2.1 1 118 85).toInt; rw [jTk_118]; exact p5⟩
    have cr2 := jT.2.1 1 (by decide)
    refine hp_inv (o := 118) (r := []) (as := [.ref 118, .int 1]) rfl rfl (hH.1 118 (17, 105) rfl) rfl rfl rfl (px_tk1 (h := h) hH (n := h.2.1 118 75) rfl n1 (hk_eqi.mpr (z.trans kz.symm)) (sv := h.2.1 177 0) rfl (hs := h.2.1 178 0) rfl (n2 0 (by decide)) b170 ?_)
    refine px_wrest10 (h := (h.1, jTk h.2.1 1, h.2.2.1, h.2.2.2)) hH hP2 (zR_j hr (fun o ho i => by show jTk h.2.1 1 o i = h.2.1 o i; rw [f9 o (hk_ms rfl ho)])) rfl ?_ (fun q => by show (0 : Int) ≤ (jTk h.2.1 1 170 q).toInt ∧ (jTk h.2.1 1 170 q).toInt ≤ 4; rw [f9 170 rfl]; exact b170 q) jT.1.2 ?_ (fun I v f g1 g2 g3 => k I v (fun o ho i => (f o ho i).trans (by show jTk h.2.1 1 o i = h.2.1 o i; rw [f9 o (hk_ms rfl ho)])) g1 g2 ?_)
    · rcases cr2 with w | w
      · have w1 : (jTk h.2.1 1 178 1).toInt = -1 := w.1
        show -1 ≤ (jTk h.2.1 1 178 1).toInt ∧ (jTk h.2.1 1 178 1).toInt ≤ 39
        omega
      · have n1 : 0 ≤ (jTk h.2.1 1 118 75).toInt ∧ (jTk h.2.1 1 118 75).toInt ≤ 40 := jT.1.1
        have w1 : 0 ≤ (jTk h.2.1 1 178 1).toInt ∧ (jTk h.2.1 1 178 1).toInt < (jTk h.2.1 1 118 75).toInt := w.1
        show -1 ≤ (jTk h.2.1 1 178 1).toInt ∧ (jTk h.2.1 1 178 1).toInt ≤ 39
        omega
    · rcases cr2 with w | w
      · have w2 : (jTk h.2.1 1 179 1).toInt = 0 := w.2
        show 0 ≤ (jTk h.2.1 1 179 1).toInt ∧ (jTk h.2.1 1 179 1).toInt ≤ 1
        omega
      · exact w.2.2
    · have g3 : (v.toInt = 1 ∧ I 181 1 = jTk h.2.1 1 181 1 + 1 ∧ I 181 0 = jTk h.2.1 1 181 0 ∨ v.toInt = 0 ∧ ∀ i, I 181 i = jTk h.2.1 1 181 i) := g3
      rw [f9 181 rfl] at g3
      exact g3
theorem px_wk10 {X : Option (Nat × (Nat → Int32))} {Z : Option Value → qm_H → Prop} {h : qm_H} {fu : Nat} (hH : hk_H h) {A : Nat → Nat → Int} {K : Nat → Nat → Int32} (hP : jP 0 (A, K)) (hr : zR A h.2.1) (je : jEq K h.2.1) (b170 : ∀ k, (0 : Int) ≤ (h.2.1 170 k).toInt ∧ (h.2.1 170 k).toInt ≤ 4) (k : ∀ (I : Nat → Nat → Int32) (v : Int32), (∀ o, [150, 151, 152, 153, 154, 155, 156, 172, 173, 174, 175, 176, 177, 178, 179, 180, 181].contains o = false → ∀ i, I o i = h.2.1 o i) → zR (jSt 0 (A, K) 1).1 I → jEq (jSt 0 (A, K) 1).2 I → (v.toInt = 1 ∧ I 181 1 = h.2.1 181 1 + 1 ∧ I 181 0 = h.2.1 181 0 ∨ v.toInt = 0 ∧ ∀ i, I 181 i = h.2.1 181 i) → Z (some (.int v)) (h.1, I, h.2.2.1, h.2.2.2)) : qm_Rp fu X cd_362 (qm_ent 4 [.ref 118, .int 1] h) Z := px_works10 hH (jEq_P hP je) hr b170 (fun I v f z j a => k I v f (by rw [(jEq_st (s := 0) (A := A) (c := 1) je).1]; exact z) (jEq_tr (jEq_st (s := 0) (A := A) (c := 1) je).2 j) a)
set_option maxHeartbeats 20000000 in
theorem px_rwl0 {X : Option (Nat × (Nat → Int32))} {Z : Option Value → qm_H → Prop} {h : qm_H} (hH : hk_H h) {n : Int32} (b_n : 0 ≤ n.toInt ∧ n.toInt ≤ 200) {q : (Nat → Nat → Int) × (Nat → Nat → Int32)} {sh rs : Int32} (q_sh : h.2.1 118 93 = sh) (q_rs : h.2.1 118 94 = rs) (b_sh : 0 ≤ sh.toInt ∧ sh.toInt ≤ 500) (b_rs : 0 ≤ rs.toInt ∧ rs.toInt ≤ 500) (b170 : ∀ k, (0 : Int) ≤ (h.2.1 170 k).toInt ∧ (h.2.1 170 k).toInt ≤ 4) (k : ∀ (I : Nat → Nat → Int32) (v : Int32), (∀ o, [118, 150, 151, 152, 153, 154, 155, 156, 172, 173, 174, 175, 176, 177, 178, 179, 180, 181].contains o = false → ∀ i, I o i = h.2.1 o i) → (∀ i, [85].contains i = false → I 118 i = h.2.1 118 i) → zR (q).1 I → jEq (q).2 I → v = I 181 0 + I 181 1 - (h.2.1 181 0 + h.2.1 181 1) → Z (some (.int v)) (h.1, I, h.2.2.1, h.2.2.2)) : ∀ (fu : Nat) (p : (Nat → Nat → Int) × (Nat → Nat → Int32)) (I : Nat → Nat → Int32) (m i : Int32) (l4 l5 : Value), ((∀ o, [118, 150, 151, 152, 153, 154, 155, 156, 172, 173, 174, 175, 176, 177, 178, 179, 180, 181].contains o = false → ∀ i, I o i = h.2.1 o i)) → ((∀ i, [85].contains i = false → I 118 i = h.2.1 118 i)) → (zR p.1 I) → (jEq p.2 I) → (jP 0 p) → (jRn 0 (n.toInt.toNat - i.toInt.toNat) p = q) → (0 ≤ i.toInt) → ((p.2 118 85).toInt + (n.toInt - i.toInt) ≤ 1000000000) → (m = I 181 0 + I 181 1 - (h.2.1 181 0 + h.2.1 181 1)) → qm_Rp fu X cd_361 (17, [.ref 118, .int n, .int m, .int i, l4, l5], [], (h.1, I, h.2.2.1, h.2.2.2)) Z := by
  intro fu
  induction fu using Nat.strongRecOn with
  | ind fu ih =>
    intro p I m i l4 l5 e x118 zr je hP hq b_i htb hm
    have kz0 : (0 : Int32).toInt = 0 := rfl
    have kz1 : (1 : Int32).toInt = 1 := rfl
    have kz2 : (2 : Int32).toInt = 2 := rfl
    have kz3 : (3 : Int32).toInt = 3 := rfl
    have kz4 : (4 : Int32).toInt = 4 := rfl
    have kz5 : (5 : Int32).toInt = 5 := rfl
    have kz6 : (6 : Int32).toInt = 6 := rfl
    have kz7 : (7 : Int32).toInt = 7 := rfl
    have kz8 : (8 : Int32).toInt = 8 := rfl
    have kz9 : (9 : Int32).toInt = 9 := rfl
    have kzm1 : ((-1) : Int32).toInt = (-1) := rfl
    have kzm2 : ((-2) : Int32).toInt = (-2) := rfl
    have kzm3 : ((-3) : Int32).toInt = (-3) := rfl
    obtain ⟨tk, q_tk⟩ : ∃ v_, I 118 85 = v_ := ⟨_, rfl⟩
    have t0 : 0 ≤ tk.toInt ∧ tk.toInt + (n.toInt - i.toInt) ≤ 1000000000 := by rw [← q_tk, ← je.2 85 (by decide)]; exact ⟨hP.2.2.2.2, htb⟩
    refine qm_Rp.go1 1 (c' := (19, [.ref 118, .int n, .int m, .int i, l4, l5], [.int n, .int i], (h.1, I, h.2.2.1, h.2.2.2))) rfl (fun g hg => ?_)
    refine hp_cge (ix := i.toInt) (iy := n.toInt) rfl rfl rfl (fun z1 => ?_) (fun z1 => ?_)
    · refine qm_Rp.go 1 (c' := (106, [.ref 118, .int n, .int m, .int i, l4, l5], [.int m], (h.1, I, h.2.2.1, h.2.2.2))) rfl ?_
      refine qm_Rp.rt (v := (some (.int m))) (h' := (h.1, I, h.2.2.1, h.2.2.2)) rfl ?_
      rw [show n.toInt.toNat - i.toInt.toNat = 0 by omega] at hq
      have hq : p = q := hq
      subst hq
      exact k I m e x118 zr je hm
    · refine qm_Rp.go 1 (c' := (23, [.ref 118, .int n, .int m, .int i, l4, l5], [.ref 118], (h.1, I, h.2.2.1, h.2.2.2))) rfl ?_
      refine hp_geti (v := sh) rfl (hH.1 118 (17, 105) rfl) rfl (show (I) 118 93 = _ from ((x118 93 rfl).trans q_sh)) ?_
      refine qm_Rp.go 0 (c' := (26, [.ref 118, .int n, .int m, .int i, l4, l5], [.int sh], (h.1, I, h.2.2.1, h.2.2.2))) rfl ?_
      refine hp_zle (ix := sh.toInt) rfl rfl (fun z2 => ?_) (fun z2 => ?_)
      · refine qm_Rp.go 11 (c' := (74, [.ref 118, .int n, .int m, .int i, .int 0, .int 0], [.int 0, .ref 118], (h.1, I, h.2.2.1, h.2.2.2))) rfl ?_
        refine hp_inv (o := 118) (r := []) (as := [.ref 118, .int 0]) rfl rfl (hH.1 118 (17, 105) rfl) rfl rfl rfl (px_wk00 (h := (h.1, I, h.2.2.1, h.2.2.2)) hH (A := (p).1) (K := (p).2) hP zr je (fun k => by show (0 : Int) ≤ (I 170 k).toInt ∧ (I 170 k).toInt ≤ 4; rw [show I 170 k = h.2.1 170 k from ((e 170 rfl k).trans rfl)]; exact b170 k) (fun I3 v4 f_I3 zr_I3 je_I3 an_v4 => ?_))
        have hP5 : jP 0 (jSt 0 (p) 0) := jSt_P (by decide) hP
        have zr_I3 : zR (jSt 0 (p) 0).1 I3 := zr_I3
        have je_I3 : jEq (jSt 0 (p) 0).2 I3 := je_I3
        rcases an_v4 with ⟨hr, hy, hz⟩ | ⟨hr, hy⟩
        · obtain rfl : v4 = 1 := hk_eqi.mpr (hr.trans rfl)
          have y6 : I3 181 0 = I 181 0 + 1 := hy
          have y6z : I3 181 1 = I 181 1 := hz
          refine qm_Rp.go 2 (c' := (83, [.ref 118, .int n, .int (m + 1), .int i, .int 0, .int 0], [], (h.1, I3, h.2.2.1, h.2.2.2))) rfl ?_
          obtain ⟨v7, q_v7⟩ : ∃ v_, (m + 1) = v_ := ⟨_, rfl⟩
          rw [q_v7]
          refine qm_Rp.go 9 (c' := (74, [.ref 118, .int n, .int v7, .int i, .int 0, .int 1], [.int 1, .ref 118], (h.1, I3, h.2.2.1, h.2.2.2))) rfl ?_
          refine hp_inv (o := 118) (r := []) (as := [.ref 118, .int 1]) rfl rfl (hH.1 118 (17, 105) rfl) rfl rfl rfl (px_wk10 (h := (h.1, I3, h.2.2.1, h.2.2.2)) hH (A := (jSt 0 (p) 0).1) (K := (jSt 0 (p) 0).2) hP5 zr_I3 je_I3 (fun k => by show (0 : Int) ≤ (I3 170 k).toInt ∧ (I3 170 k).toInt ≤ 4; rw [show I3 170 k = h.2.1 170 k from ((f_I3 170 rfl k).trans ((e 170 rfl k).trans rfl))]; exact b170 k) (fun I8 v9 f_I8 zr_I8 je_I8 an_v9 => ?_))
          have hP10 : jP 0 (jSt 0 (jSt 0 (p) 0) 1) := jSt_P (by decide) hP5
          have zr_I8 : zR (jSt 0 (jSt 0 (p) 0) 1).1 I8 := zr_I8
          have je_I8 : jEq (jSt 0 (jSt 0 (p) 0) 1).2 I8 := je_I8
          rcases an_v9 with ⟨hr, hy, hz⟩ | ⟨hr, hy⟩
          · obtain rfl : v9 = 1 := hk_eqi.mpr (hr.trans rfl)
            have y11 : I8 181 1 = I3 181 1 + 1 := hy
            have y11z : I8 181 0 = I3 181 0 := hz
            refine qm_Rp.go 2 (c' := (83, [.ref 118, .int n, .int (v7 + 1), .int i, .int 0, .int 1], [], (h.1, I8, h.2.2.1, h.2.2.2))) rfl ?_
            obtain ⟨v12, q_v12⟩ : ∃ v_, (v7 + 1) = v_ := ⟨_, rfl⟩
            rw [q_v12]
            refine qm_Rp.go 7 (c' := (91, [.ref 118, .int n, .int v12, .int i, .int 0, .int 2], [.ref 118, .ref 118], (h.1, I8, h.2.2.1, h.2.2.2))) rfl ?_
            refine hp_geti (v := tk) rfl (hH.1 118 (17, 105) rfl) rfl (show (I8) 118 85 = _ from ((f_I8 118 rfl 85).trans ((f_I3 118 rfl 85).trans q_tk))) ?_
            refine qm_Rp.go 2 (c' := (96, [.ref 118, .int n, .int v12, .int i, .int 0, .int 2], [.int (tk + 1), .ref 118], (h.1, I8, h.2.2.1, h.2.2.2))) rfl ?_
            obtain ⟨v13, q_v13, e_v13⟩ := hk_add (x := tk) (y := 1) (a := tk.toInt) (b := 1) rfl rfl (by omega) (by omega)
            rw [q_v13]
            refine hp_puti rfl (hH.1 118 (17, 105) rfl) rfl ?_
            refine qm_Rp.go 1 (c' := (102, [.ref 118, .int n, .int v12, .int (i + 1), .int 0, .int 2], [], (h.1, qm_up I8 118 85 v13, h.2.2.1, h.2.2.2))) rfl ?_
            obtain ⟨v14, q_v14, e_v14⟩ := hk_add (x := i) (y := 1) (a := i.toInt) (b := 1) rfl rfl (by omega) (by omega)
            rw [q_v14]
            refine qm_Rp.go 1 (c' := (17, [.ref 118, .int n, .int v12, .int v14, .int 0, .int 2], [], (h.1, qm_up I8 118 85 v13, h.2.2.1, h.2.2.2))) rfl ?_
            have hT : jTi 0 p = jCk (jSt 0 (jSt 0 (p) 0) 1) := jTi_w (fun z => by unfold jRs at z; rw [show p.2 118 93 = sh from (je.2 93 (by decide)).trans ((x118 93 rfl).trans q_sh), show p.2 118 94 = rs from (je.2 94 (by decide)).trans ((x118 94 rfl).trans q_rs), show p.2 118 85 = tk from (je.2 85 (by decide)).trans q_tk] at z; omega)
            have e85 : (jSt 0 (jSt 0 (p) 0) 1).2 118 85 = tk := (je_I8.2 85 (by decide)).trans (show (I8) 118 85 = _ from ((f_I8 118 rfl 85).trans ((f_I3 118 rfl 85).trans q_tk)))
            have eC : (jCk (jSt 0 (jSt 0 (p) 0) 1)).2 = qm_up (jSt 0 (jSt 0 (p) 0) 1).2 118 85 v13 := by show qm_up (jSt 0 (jSt 0 (p) 0) 1).2 118 85 ((jSt 0 (jSt 0 (p) 0) 1).2 118 85 + 1) = _; rw [e85, q_v13]
            have e85p : p.2 118 85 = tk := (je.2 85 (by decide)).trans q_tk
            have hm2 : v12 = (qm_up I8 118 85 v13) 181 0 + (qm_up I8 118 85 v13) 181 1 - (h.2.1 181 0 + h.2.1 181 1) := by
              rw [show (qm_up I8 118 85 v13) 181 = I8 181 from funext fun i => hk_ot rfl]
              rw [y11, y11z, y6, y6z]
              rw [← q_v12, ← q_v7, hm, mi_1]
              exact mi_2
            exact ih g hg (jTi 0 p) (qm_up I8 118 85 v13) v12 v14 _ _ (fun o ho i => ((hk_mod ho rfl).trans ((f_I8 o (hk_ms rfl ho) i).trans ((f_I3 o (hk_ms rfl ho) i).trans ((e o (hk_ms rfl ho) i).trans rfl))))) (fun i hi => ((hk_neq (fun z => by subst z; cases hi)).trans ((f_I8 118 rfl i).trans ((f_I3 118 rfl i).trans ((x118 i (hk_ms rfl hi)).trans rfl))))) (by rw [hT]; exact zR_tk zr_I8) (by rw [hT, eC]; exact jEq_up je_I8) (jTi_P hP (by rw [e85p, q_v13]; omega)) (by rw [← hq, show n.toInt.toNat - i.toInt.toNat = (n.toInt.toNat - v14.toInt.toNat) + 1 by omega]; rfl) (by omega) (by rw [jTi_118, e85p, q_v13]; omega) hm2
          · obtain rfl : v9 = 0 := hk_eqi.mpr (hr.trans rfl)
            have y15 : ∀ i, I8 181 i = I3 181 i := hy
            refine qm_Rp.go 1 (c' := (83, [.ref 118, .int n, .int v7, .int i, .int 0, .int 1], [], (h.1, I8, h.2.2.1, h.2.2.2))) rfl ?_
            refine qm_Rp.go 7 (c' := (91, [.ref 118, .int n, .int v7, .int i, .int 0, .int 2], [.ref 118, .ref 118], (h.1, I8, h.2.2.1, h.2.2.2))) rfl ?_
            refine hp_geti (v := tk) rfl (hH.1 118 (17, 105) rfl) rfl (show (I8) 118 85 = _ from ((f_I8 118 rfl 85).trans ((f_I3 118 rfl 85).trans q_tk))) ?_
            refine qm_Rp.go 2 (c' := (96, [.ref 118, .int n, .int v7, .int i, .int 0, .int 2], [.int (tk + 1), .ref 118], (h.1, I8, h.2.2.1, h.2.2.2))) rfl ?_
            obtain ⟨v16, q_v16, e_v16⟩ := hk_add (x := tk) (y := 1) (a := tk.toInt) (b := 1) rfl rfl (by omega) (by omega)
            rw [q_v16]
            refine hp_puti rfl (hH.1 118 (17, 105) rfl) rfl ?_
            refine qm_Rp.go 1 (c' := (102, [.ref 118, .int n, .int v7, .int (i + 1), .int 0, .int 2], [], (h.1, qm_up I8 118 85 v16, h.2.2.1, h.2.2.2))) rfl ?_
            obtain ⟨v17, q_v17, e_v17⟩ := hk_add (x := i) (y := 1) (a := i.toInt) (b := 1) rfl rfl (by omega) (by omega)
            rw [q_v17]
            refine qm_Rp.go 1 (c' := (17, [.ref 118, .int n, .int v7, .int v17, .int 0, .int 2], [], (h.1, qm_up I8 118 85 v16, h.2.2.1, h.2.2.2))) rfl ?_
            have hT : jTi 0 p = jCk (jSt 0 (jSt 0 (p) 0) 1) := jTi_w (fun z => by unfold jRs at z; rw [show p.2 118 93 = sh from (je.2 93 (by decide)).trans ((x118 93 rfl).trans q_sh), show p.2 118 94 = rs from (je.2 94 (by decide)).trans ((x118 94 rfl).trans q_rs), show p.2 118 85 = tk from (je.2 85 (by decide)).trans q_tk] at z; omega)
            have e85 : (jSt 0 (jSt 0 (p) 0) 1).2 118 85 = tk := (je_I8.2 85 (by decide)).trans (show (I8) 118 85 = _ from ((f_I8 118 rfl 85).trans ((f_I3 118 rfl 85).trans q_tk)))
            have eC : (jCk (jSt 0 (jSt 0 (p) 0) 1)).2 = qm_up (jSt 0 (jSt 0 (p) 0) 1).2 118 85 v16 := by show qm_up (jSt 0 (jSt 0 (p) 0) 1).2 118 85 ((jSt 0 (jSt 0 (p) 0) 1).2 118 85 + 1) = _; rw [e85, q_v16]
            have e85p : p.2 118 85 = tk := (je.2 85 (by decide)).trans q_tk
            have hm2 : v7 = (qm_up I8 118 85 v16) 181 0 + (qm_up I8 118 85 v16) 181 1 - (h.2.1 181 0 + h.2.1 181 1) := by
              rw [show (qm_up I8 118 85 v16) 181 = I8 181 from funext fun i => hk_ot rfl]
              rw [y15 0, y15 1, y6, y6z]
              rw [← q_v7, hm]
              exact mi_1
            exact ih g hg (jTi 0 p) (qm_up I8 118 85 v16) v7 v17 _ _ (fun o ho i => ((hk_mod ho rfl).trans ((f_I8 o (hk_ms rfl ho) i).trans ((f_I3 o (hk_ms rfl ho) i).trans ((e o (hk_ms rfl ho) i).trans rfl))))) (fun i hi => ((hk_neq (fun z => by subst z; cases hi)).trans ((f_I8 118 rfl i).trans ((f_I3 118 rfl i).trans ((x118 i (hk_ms rfl hi)).trans rfl))))) (by rw [hT]; exact zR_tk zr_I8) (by rw [hT, eC]; exact jEq_up je_I8) (jTi_P hP (by rw [e85p, q_v16]; omega)) (by rw [← hq, show n.toInt.toNat - i.toInt.toNat = (n.toInt.toNat - v17.toInt.toNat) + 1 by omega]; rfl) (by omega) (by rw [jTi_118, e85p, q_v16]; omega) hm2
        · obtain rfl : v4 = 0 := hk_eqi.mpr (hr.trans rfl)
          have y18 : ∀ i, I3 181 i = I 181 i := hy
          refine qm_Rp.go 1 (c' := (83, [.ref 118, .int n, .int m, .int i, .int 0, .int 0], [], (h.1, I3, h.2.2.1, h.2.2.2))) rfl ?_
          refine qm_Rp.go 9 (c' := (74, [.ref 118, .int n, .int m, .int i, .int 0, .int 1], [.int 1, .ref 118], (h.1, I3, h.2.2.1, h.2.2.2))) rfl ?_
          refine hp_inv (o := 118) (r := []) (as := [.ref 118, .int 1]) rfl rfl (hH.1 118 (17, 105) rfl) rfl rfl rfl (px_wk10 (h := (h.1, I3, h.2.2.1, h.2.2.2)) hH (A := (jSt 0 (p) 0).1) (K := (jSt 0 (p) 0).2) hP5 zr_I3 je_I3 (fun k => by show (0 : Int) ≤ (I3 170 k).toInt ∧ (I3 170 k).toInt ≤ 4; rw [show I3 170 k = h.2.1 170 k from ((f_I3 170 rfl k).trans ((e 170 rfl k).trans rfl))]; exact b170 k) (fun I19 v20 f_I19 zr_I19 je_I19 an_v20 => ?_))
          have hP21 : jP 0 (jSt 0 (jSt 0 (p) 0) 1) := jSt_P (by decide) hP5
          have zr_I19 : zR (jSt 0 (jSt 0 (p) 0) 1).1 I19 := zr_I19
          have je_I19 : jEq (jSt 0 (jSt 0 (p) 0) 1).2 I19 := je_I19
          rcases an_v20 with ⟨hr, hy, hz⟩ | ⟨hr, hy⟩
          · obtain rfl : v20 = 1 := hk_eqi.mpr (hr.trans rfl)
            have y22 : I19 181 1 = I3 181 1 + 1 := hy
            have y22z : I19 181 0 = I3 181 0 := hz
            refine qm_Rp.go 2 (c' := (83, [.ref 118, .int n, .int (m + 1), .int i, .int 0, .int 1], [], (h.1, I19, h.2.2.1, h.2.2.2))) rfl ?_
            obtain ⟨v23, q_v23⟩ : ∃ v_, (m + 1) = v_ := ⟨_, rfl⟩
            rw [q_v23]
            refine qm_Rp.go 7 (c' := (91, [.ref 118, .int n, .int v23, .int i, .int 0, .int 2], [.ref 118, .ref 118], (h.1, I19, h.2.2.1, h.2.2.2))) rfl ?_
            refine hp_geti (v := tk) rfl (hH.1 118 (17, 105) rfl) rfl (show (I19) 118 85 = _ from ((f_I19 118 rfl 85).trans ((f_I3 118 rfl 85).trans q_tk))) ?_
            refine qm_Rp.go 2 (c' := (96, [.ref 118, .int n, .int v23, .int i, .int 0, .int 2], [.int (tk + 1), .ref 118], (h.1, I19, h.2.2.1, h.2.2.2))) rfl ?_
            obtain ⟨v24, q_v24, e_v24⟩ := hk_add (x := tk) (y := 1) (a := tk.toInt) (b := 1) rfl rfl (by omega) (by omega)
            rw [q_v24]
            refine hp_puti rfl (hH.1 118 (17, 105) rfl) rfl ?_
            refine qm_Rp.go 1 (c' := (102, [.ref 118, .int n, .int v23, .int (i + 1), .int 0, .int 2], [], (h.1, qm_up I19 118 85 v24, h.2.2.1, h.2.2.2))) rfl ?_
            obtain ⟨v25, q_v25, e_v25⟩ := hk_add (x := i) (y := 1) (a := i.toInt) (b := 1) rfl rfl (by omega) (by omega)
            rw [q_v25]
            refine qm_Rp.go 1 (c' := (17, [.ref 118, .int n, .int v23, .int v25, .int 0, .int 2], [], (h.1, qm_up I19 118 85 v24, h.2.2.1, h.2.2.2))) rfl ?_
            have hT : jTi 0 p = jCk (jSt 0 (jSt 0 (p) 0) 1) := jTi_w (fun z => by unfold jRs at z; rw [show p.2 118 93 = sh from (je.2 93 (by decide)).trans ((x118 93 rfl).trans q_sh), show p.2 118 94 = rs from (je.2 94 (by decide)).trans ((x118 94 rfl).trans q_rs), show p.2 118 85 = tk from (je.2 85 (by decide)).trans q_tk] at z; omega)
            have e85 : (jSt 0 (jSt 0 (p) 0) 1).2 118 85 = tk := (je_I19.2 85 (by decide)).trans (show (I19) 118 85 = _ from ((f_I19 118 rfl 85).trans ((f_I3 118 rfl 85).trans q_tk)))
            have eC : (jCk (jSt 0 (jSt 0 (p) 0) 1)).2 = qm_up (jSt 0 (jSt 0 (p) 0) 1).2 118 85 v24 := by show qm_up (jSt 0 (jSt 0 (p) 0) 1).2 118 85 ((jSt 0 (jSt 0 (p) 0) 1).2 118 85 + 1) = _; rw [e85, q_v24]
            have e85p : p.2 118 85 = tk := (je.2 85 (by decide)).trans q_tk
            have hm2 : v23 = (qm_up I19 118 85 v24) 181 0 + (qm_up I19 118 85 v24) 181 1 - (h.2.1 181 0 + h.2.1 181 1) := by
              rw [show (qm_up I19 118 85 v24) 181 = I19 181 from funext fun i => hk_ot rfl]
              rw [y22, y22z, y18 0, y18 1]
              rw [← q_v23, hm]
              exact mi_2
            exact ih g hg (jTi 0 p) (qm_up I19 118 85 v24) v23 v25 _ _ (fun o ho i => ((hk_mod ho rfl).trans ((f_I19 o (hk_ms rfl ho) i).trans ((f_I3 o (hk_ms rfl ho) i).trans ((e o (hk_ms rfl ho) i).trans rfl))))) (fun i hi => ((hk_neq (fun z => by subst z; cases hi)).trans ((f_I19 118 rfl i).trans ((f_I3 118 rfl i).trans ((x118 i (hk_ms rfl hi)).trans rfl))))) (by rw [hT]; exact zR_tk zr_I19) (by rw [hT, eC]; exact jEq_up je_I19) (jTi_P hP (by rw [e85p, q_v24]; omega)) (by rw [← hq, show n.toInt.toNat - i.toInt.toNat = (n.toInt.toNat - v25.toInt.toNat) + 1 by omega]; rfl) (by omega) (by rw [jTi_118, e85p, q_v24]; omega) hm2
          · obtain rfl : v20 = 0 := hk_eqi.mpr (hr.trans rfl)
            have y26 : ∀ i, I19 181 i = I3 181 i := hy
            refine qm_Rp.go 1 (c' := (83, [.ref 118, .int n, .int m, .int i, .int 0, .int 1], [], (h.1, I19, h.2.2.1, h.2.2.2))) rfl ?_
            refine qm_Rp.go 7 (c' := (91, [.ref 118, .int n, .int m, .int i, .int 0, .int 2], [.ref 118, .ref 118], (h.1, I19, h.2.2.1, h.2.2.2))) rfl ?_
            refine hp_geti (v := tk) rfl (hH.1 118 (17, 105) rfl) rfl (show (I19) 118 85 = _ from ((f_I19 118 rfl 85).trans ((f_I3 118 rfl 85).trans q_tk))) ?_
            refine qm_Rp.go 2 (c' := (96, [.ref 118, .int n, .int m, .int i, .int 0, .int 2], [.int (tk + 1), .ref 118], (h.1, I19, h.2.2.1, h.2.2.2))) rfl ?_
            obtain ⟨v27, q_v27, e_v27⟩ := hk_add (x := tk) (y := 1) (a := tk.toInt) (b := 1) rfl rfl (by omega) (by omega)
            rw [q_v27]
            refine hp_puti rfl (hH.1 118 (17, 105) rfl) rfl ?_
            refine qm_Rp.go 1 (c' := (102, [.ref 118, .int n, .int m, .int (i + 1), .int 0, .int 2], [], (h.1, qm_up I19 118 85 v27, h.2.2.1, h.2.2.2))) rfl ?_
            obtain ⟨v28, q_v28, e_v28⟩ := hk_add (x := i) (y := 1) (a := i.toInt) (b := 1) rfl rfl (by omega) (by omega)
            rw [q_v28]
            refine qm_Rp.go 1 (c' := (17, [.ref 118, .int n, .int m, .int v28, .int 0, .int 2], [], (h.1, qm_up I19 118 85 v27, h.2.2.1, h.2.2.2))) rfl ?_
            have hT : jTi 0 p = jCk (jSt 0 (jSt 0 (p) 0) 1) := jTi_w (fun z => by unfold jRs at z; rw [show p.2 118 93 = sh from (je.2 93 (by decide)).trans ((x118 93 rfl).trans q_sh), show p.2 118 94 = rs from (je.2 94 (by decide)).trans ((x118 94 rfl).trans q_rs), show p.2 118 85 = tk from (je.2 85 (by decide)).trans q_tk] at z; omega)
            have e85 : (jSt 0 (jSt 0 (p) 0) 1).2 118 85 = tk := (je_I19.2 85 (by decide)).trans (show (I19) 118 85 = _ from ((f_I19 118 rfl 85).trans ((f_I3 118 rfl 85).trans q_tk)))
            have eC : (jCk (jSt 0 (jSt 0 (p) 0) 1)).2 = qm_up (jSt 0 (jSt 0 (p) 0) 1).2 118 85 v27 := by show qm_up (jSt 0 (jSt 0 (p) 0) 1).2 118 85 ((jSt 0 (jSt 0 (p) 0) 1).2 118 85 + 1) = _; rw [e85, q_v27]
            have e85p : p.2 118 85 = tk := (je.2 85 (by decide)).trans q_tk
            have hm2 : m = (qm_up I19 118 85 v27) 181 0 + (qm_up I19 118 85 v27) 181 1 - (h.2.1 181 0 + h.2.1 181 1) := by
              rw [show (qm_up I19 118 85 v27) 181 = I19 181 from funext fun i => hk_ot rfl]
              rw [y26 0, y26 1, y18 0, y18 1]
              exact hm
            exact ih g hg (jTi 0 p) (qm_up I19 118 85 v27) m v28 _ _ (fun o ho i => ((hk_mod ho rfl).trans ((f_I19 o (hk_ms rfl ho) i).trans ((f_I3 o (hk_ms rfl ho) i).trans ((e o (hk_ms rfl ho) i).trans rfl))))) (fun i hi => ((hk_neq (fun z => by subst z; cases hi)).trans ((f_I19 118 rfl i).trans ((f_I3 118 rfl i).trans ((x118 i (hk_ms rfl hi)).trans rfl))))) (by rw [hT]; exact zR_tk zr_I19) (by rw [hT, eC]; exact jEq_up je_I19) (jTi_P hP (by rw [e85p, q_v27]; omega)) (by rw [← hq, show n.toInt.toNat - i.toInt.toNat = (n.toInt.toNat - v28.toInt.toNat) + 1 by omega]; rfl) (by omega) (by rw [jTi_118, e85p, q_v27]; omega) hm2
      · refine qm_Rp.go 1 (c' := (30, [.ref 118, .int n, .int m, .int i, l4, l5], [.ref 118], (h.1, I, h.2.2.1, h.2.2.2))) rfl ?_
        refine hp_geti (v := tk) rfl (hH.1 118 (17, 105) rfl) rfl q_tk ?_
        refine qm_Rp.go 1 (c' := (34, [.ref 118, .int n, .int m, .int i, l4, l5], [.ref 118, .int tk], (h.1, I, h.2.2.1, h.2.2.2))) rfl ?_
        refine hp_geti (v := sh) rfl (hH.1 118 (17, 105) rfl) rfl (show (I) 118 93 = _ from ((x118 93 rfl).trans q_sh)) ?_
        refine qm_Rp.go 1 (c' := (38, [.ref 118, .int n, .int m, .int i, l4, l5], [.ref 118, .int sh, .int tk], (h.1, I, h.2.2.1, h.2.2.2))) rfl ?_
        refine hp_geti (v := rs) rfl (hH.1 118 (17, 105) rfl) rfl (show (I) 118 94 = _ from ((x118 94 rfl).trans q_rs)) ?_
        refine qm_Rp.go 1 (c' := (42, [.ref 118, .int n, .int m, .int i, l4, l5], [.int (sh + rs), .int tk], (h.1, I, h.2.2.1, h.2.2.2))) rfl ?_
        obtain ⟨v29, q_v29, e_v29⟩ := hk_add (x := sh) (y := rs) (a := sh.toInt) (b := rs.toInt) rfl rfl (by omega) (by omega)
        rw [q_v29]
        refine hp_irem rfl (fun y0_29 => ?_)
        refine qm_Rp.go 0 (c' := (43, [.ref 118, .int n, .int m, .int i, l4, l5], [.int (tk - tk / v29 * v29)], (h.1, I, h.2.2.1, h.2.2.2))) rfl ?_
        obtain ⟨v30, q_v30⟩ : ∃ v_, (tk - tk / v29 * v29) = v_ := ⟨_, rfl⟩
        rw [q_v30]
        have e_v30 : v30.toInt = tk.toInt % v29.toInt := by
          obtain ⟨z, z1, z2⟩ := hk_rem (x := tk) (y := v29) (a := tk.toInt) (b := v29.toInt) rfl rfl (by omega) (by omega)
          rw [← q_v30, z1]
          exact z2
        refine qm_Rp.go 1 (c' := (44, [.ref 118, .int n, .int m, .int i, l4, l5], [.ref 118, .int v30], (h.1, I, h.2.2.1, h.2.2.2))) rfl ?_
        refine hp_geti (v := sh) rfl (hH.1 118 (17, 105) rfl) rfl (show (I) 118 93 = _ from ((x118 93 rfl).trans q_sh)) ?_
        refine qm_Rp.go 0 (c' := (47, [.ref 118, .int n, .int m, .int i, l4, l5], [.int sh, .int v30], (h.1, I, h.2.2.1, h.2.2.2))) rfl ?_
        refine hp_clt (ix := v30.toInt) (iy := sh.toInt) rfl rfl rfl (fun z31 => ?_) (fun z31 => ?_)
        · refine qm_Rp.go 11 (c' := (74, [.ref 118, .int n, .int m, .int i, .int 0, .int 0], [.int 0, .ref 118], (h.1, I, h.2.2.1, h.2.2.2))) rfl ?_
          refine hp_inv (o := 118) (r := []) (as := [.ref 118, .int 0]) rfl rfl (hH.1 118 (17, 105) rfl) rfl rfl rfl (px_wk00 (h := (h.1, I, h.2.2.1, h.2.2.2)) hH (A := (p).1) (K := (p).2) hP zr je (fun k => by show (0 : Int) ≤ (I 170 k).toInt ∧ (I 170 k).toInt ≤ 4; rw [show I 170 k = h.2.1 170 k from ((e 170 rfl k).trans rfl)]; exact b170 k) (fun I32 v33 f_I32 zr_I32 je_I32 an_v33 => ?_))
          have hP34 : jP 0 (jSt 0 (p) 0) := jSt_P (by decide) hP
          have zr_I32 : zR (jSt 0 (p) 0).1 I32 := zr_I32
          have je_I32 : jEq (jSt 0 (p) 0).2 I32 := je_I32
          rcases an_v33 with ⟨hr, hy, hz⟩ | ⟨hr, hy⟩
          · obtain rfl : v33 = 1 := hk_eqi.mpr (hr.trans rfl)
            have y35 : I32 181 0 = I 181 0 + 1 := hy
            have y35z : I32 181 1 = I 181 1 := hz
            refine qm_Rp.go 2 (c' := (83, [.ref 118, .int n, .int (m + 1), .int i, .int 0, .int 0], [], (h.1, I32, h.2.2.1, h.2.2.2))) rfl ?_
            obtain ⟨v36, q_v36⟩ : ∃ v_, (m + 1) = v_ := ⟨_, rfl⟩
            rw [q_v36]
            refine qm_Rp.go 9 (c' := (74, [.ref 118, .int n, .int v36, .int i, .int 0, .int 1], [.int 1, .ref 118], (h.1, I32, h.2.2.1, h.2.2.2))) rfl ?_
            refine hp_inv (o := 118) (r := []) (as := [.ref 118, .int 1]) rfl rfl (hH.1 118 (17, 105) rfl) rfl rfl rfl (px_wk10 (h := (h.1, I32, h.2.2.1, h.2.2.2)) hH (A := (jSt 0 (p) 0).1) (K := (jSt 0 (p) 0).2) hP34 zr_I32 je_I32 (fun k => by show (0 : Int) ≤ (I32 170 k).toInt ∧ (I32 170 k).toInt ≤ 4; rw [show I32 170 k = h.2.1 170 k from ((f_I32 170 rfl k).trans ((e 170 rfl k).trans rfl))]; exact b170 k) (fun I37 v38 f_I37 zr_I37 je_I37 an_v38 => ?_))
            have hP39 : jP 0 (jSt 0 (jSt 0 (p) 0) 1) := jSt_P (by decide) hP34
            have zr_I37 : zR (jSt 0 (jSt 0 (p) 0) 1).1 I37 := zr_I37
            have je_I37 : jEq (jSt 0 (jSt 0 (p) 0) 1).2 I37 := je_I37
            rcases an_v38 with ⟨hr, hy, hz⟩ | ⟨hr, hy⟩
            · obtain rfl : v38 = 1 := hk_eqi.mpr (hr.trans rfl)
              have y40 : I37 181 1 = I32 181 1 + 1 := hy
              have y40z : I37 181 0 = I32 181 0 := hz
              refine qm_Rp.go 2 (c' := (83, [.ref 118, .int n, .int (v36 + 1), .int i, .int 0, .int 1], [], (h.1, I37, h.2.2.1, h.2.2.2))) rfl ?_
              obtain ⟨v41, q_v41⟩ : ∃ v_, (v36 + 1) = v_ := ⟨_, rfl⟩
              rw [q_v41]
              refine qm_Rp.go 7 (c' := (91, [.ref 118, .int n, .int v41, .int i, .int 0, .int 2], [.ref 118, .ref 118], (h.1, I37, h.2.2.1, h.2.2.2))) rfl ?_
              refine hp_geti (v := tk) rfl (hH.1 118 (17, 105) rfl) rfl (show (I37) 118 85 = _ from ((f_I37 118 rfl 85).trans ((f_I32 118 rfl 85).trans q_tk))) ?_
              refine qm_Rp.go 2 (c' := (96, [.ref 118, .int n, .int v41, .int i, .int 0, .int 2], [.int (tk + 1), .ref 118], (h.1, I37, h.2.2.1, h.2.2.2))) rfl ?_
              obtain ⟨v42, q_v42, e_v42⟩ := hk_add (x := tk) (y := 1) (a := tk.toInt) (b := 1) rfl rfl (by omega) (by omega)
              rw [q_v42]
              refine hp_puti rfl (hH.1 118 (17, 105) rfl) rfl ?_
              refine qm_Rp.go 1 (c' := (102, [.ref 118, .int n, .int v41, .int (i + 1), .int 0, .int 2], [], (h.1, qm_up I37 118 85 v42, h.2.2.1, h.2.2.2))) rfl ?_
              obtain ⟨v43, q_v43, e_v43⟩ := hk_add (x := i) (y := 1) (a := i.toInt) (b := 1) rfl rfl (by omega) (by omega)
              rw [q_v43]
              refine qm_Rp.go 1 (c' := (17, [.ref 118, .int n, .int v41, .int v43, .int 0, .int 2], [], (h.1, qm_up I37 118 85 v42, h.2.2.1, h.2.2.2))) rfl ?_
              have hT : jTi 0 p = jCk (jSt 0 (jSt 0 (p) 0) 1) := jTi_w (fun z => by unfold jRs at z; rw [show p.2 118 93 = sh from (je.2 93 (by decide)).trans ((x118 93 rfl).trans q_sh), show p.2 118 94 = rs from (je.2 94 (by decide)).trans ((x118 94 rfl).trans q_rs), show p.2 118 85 = tk from (je.2 85 (by decide)).trans q_tk, ← e_v29, ← e_v30] at z; omega)
              have e85 : (jSt 0 (jSt 0 (p) 0) 1).2 118 85 = tk := (je_I37.2 85 (by decide)).trans (show (I37) 118 85 = _ from ((f_I37 118 rfl 85).trans ((f_I32 118 rfl 85).trans q_tk)))
              have eC : (jCk (jSt 0 (jSt 0 (p) 0) 1)).2 = qm_up (jSt 0 (jSt 0 (p) 0) 1).2 118 85 v42 := by show qm_up (jSt 0 (jSt 0 (p) 0) 1).2 118 85 ((jSt 0 (jSt 0 (p) 0) 1).2 118 85 + 1) = _; rw [e85, q_v42]
              have e85p : p.2 118 85 = tk := (je.2 85 (by decide)).trans q_tk
              have hm2 : v41 = (qm_up I37 118 85 v42) 181 0 + (qm_up I37 118 85 v42) 181 1 - (h.2.1 181 0 + h.2.1 181 1) := by
                rw [show (qm_up I37 118 85 v42) 181 = I37 181 from funext fun i => hk_ot rfl]
                rw [y40, y40z, y35, y35z]
                rw [← q_v41, ← q_v36, hm, mi_1]
                exact mi_2
              exact ih g hg (jTi 0 p) (qm_up I37 118 85 v42) v41 v43 _ _ (fun o ho i => ((hk_mod ho rfl).trans ((f_I37 o (hk_ms rfl ho) i).trans ((f_I32 o (hk_ms rfl ho) i).trans ((e o (hk_ms rfl ho) i).trans rfl))))) (fun i hi => ((hk_neq (fun z => by subst z; cases hi)).trans ((f_I37 118 rfl i).trans ((f_I32 118 rfl i).trans ((x118 i (hk_ms rfl hi)).trans rfl))))) (by rw [hT]; exact zR_tk zr_I37) (by rw [hT, eC]; exact jEq_up je_I37) (jTi_P hP (by rw [e85p, q_v42]; omega)) (by rw [← hq, show n.toInt.toNat - i.toInt.toNat = (n.toInt.toNat - v43.toInt.toNat) + 1 by omega]; rfl) (by omega) (by rw [jTi_118, e85p, q_v42]; omega) hm2
            · obtain rfl : v38 = 0 := hk_eqi.mpr (hr.trans rfl)
              have y44 : ∀ i, I37 181 i = I32 181 i := hy
              refine qm_Rp.go 1 (c' := (83, [.ref 118, .int n, .int v36, .int i, .int 0, .int 1], [], (h.1, I37, h.2.2.1, h.2.2.2))) rfl ?_
              refine qm_Rp.go 7 (c' := (91, [.ref 118, .int n, .int v36, .int i, .int 0, .int 2], [.ref 118, .ref 118], (h.1, I37, h.2.2.1, h.2.2.2))) rfl ?_
              refine hp_geti (v := tk) rfl (hH.1 118 (17, 105) rfl) rfl (show (I37) 118 85 = _ from ((f_I37 118 rfl 85).trans ((f_I32 118 rfl 85).trans q_tk))) ?_
              refine qm_Rp.go 2 (c' := (96, [.ref 118, .int n, .int v36, .int i, .int 0, .int 2], [.int (tk + 1), .ref 118], (h.1, I37, h.2.2.1, h.2.2.2))) rfl ?_
              obtain ⟨v45, q_v45, e_v45⟩ := hk_add (x := tk) (y := 1) (a := tk.toInt) (b := 1) rfl rfl (by omega) (by omega)
              rw [q_v45]
              refine hp_puti rfl (hH.1 118 (17, 105) rfl) rfl ?_
              refine qm_Rp.go 1 (c' := (102, [.ref 118, .int n, .int v36, .int (i + 1), .int 0, .int 2], [], (h.1, qm_up I37 118 85 v45, h.2.2.1, h.2.2.2))) rfl ?_
              obtain ⟨v46, q_v46, e_v46⟩ := hk_add (x := i) (y := 1) (a := i.toInt) (b := 1) rfl rfl (by omega) (by omega)
              rw [q_v46]
              refine qm_Rp.go 1 (c' := (17, [.ref 118, .int n, .int v36, .int v46, .int 0, .int 2], [], (h.1, qm_up I37 118 85 v45, h.2.2.1, h.2.2.2))) rfl ?_
              have hT : jTi 0 p = jCk (jSt 0 (jSt 0 (p) 0) 1) := jTi_w (fun z => by unfold jRs at z; rw [show p.2 118 93 = sh from (je.2 93 (by decide)).trans ((x118 93 rfl).trans q_sh), show p.2 118 94 = rs from (je.2 94 (by decide)).trans ((x118 94 rfl).trans q_rs), show p.2 118 85 = tk from (je.2 85 (by decide)).trans q_tk, ← e_v29, ← e_v30] at z; omega)
              have e85 : (jSt 0 (jSt 0 (p) 0) 1).2 118 85 = tk := (je_I37.2 85 (by decide)).trans (show (I37) 118 85 = _ from ((f_I37 118 rfl 85).trans ((f_I32 118 rfl 85).trans q_tk)))
              have eC : (jCk (jSt 0 (jSt 0 (p) 0) 1)).2 = qm_up (jSt 0 (jSt 0 (p) 0) 1).2 118 85 v45 := by show qm_up (jSt 0 (jSt 0 (p) 0) 1).2 118 85 ((jSt 0 (jSt 0 (p) 0) 1).2 118 85 + 1) = _; rw [e85, q_v45]
              have e85p : p.2 118 85 = tk := (je.2 85 (by decide)).trans q_tk
              have hm2 : v36 = (qm_up I37 118 85 v45) 181 0 + (qm_up I37 118 85 v45) 181 1 - (h.2.1 181 0 + h.2.1 181 1) := by
                rw [show (qm_up I37 118 85 v45) 181 = I37 181 from funext fun i => hk_ot rfl]
                rw [y44 0, y44 1, y35, y35z]
                rw [← q_v36, hm]
                exact mi_1
              exact ih g hg (jTi 0 p) (qm_up I37 118 85 v45) v36 v46 _ _ (fun o ho i => ((hk_mod ho rfl).trans ((f_I37 o (hk_ms rfl ho) i).trans ((f_I32 o (hk_ms rfl ho) i).trans ((e o (hk_ms rfl ho) i).trans rfl))))) (fun i hi => ((hk_neq (fun z => by subst z; cases hi)).trans ((f_I37 118 rfl i).trans ((f_I32 118 rfl i).trans ((x118 i (hk_ms rfl hi)).trans rfl))))) (by rw [hT]; exact zR_tk zr_I37) (by rw [hT, eC]; exact jEq_up je_I37) (jTi_P hP (by rw [e85p, q_v45]; omega)) (by rw [← hq, show n.toInt.toNat - i.toInt.toNat = (n.toInt.toNat - v46.toInt.toNat) + 1 by omega]; rfl) (by omega) (by rw [jTi_118, e85p, q_v45]; omega) hm2
          · obtain rfl : v33 = 0 := hk_eqi.mpr (hr.trans rfl)
            have y47 : ∀ i, I32 181 i = I 181 i := hy
            refine qm_Rp.go 1 (c' := (83, [.ref 118, .int n, .int m, .int i, .int 0, .int 0], [], (h.1, I32, h.2.2.1, h.2.2.2))) rfl ?_
            refine qm_Rp.go 9 (c' := (74, [.ref 118, .int n, .int m, .int i, .int 0, .int 1], [.int 1, .ref 118], (h.1, I32, h.2.2.1, h.2.2.2))) rfl ?_
            refine hp_inv (o := 118) (r := []) (as := [.ref 118, .int 1]) rfl rfl (hH.1 118 (17, 105) rfl) rfl rfl rfl (px_wk10 (h := (h.1, I32, h.2.2.1, h.2.2.2)) hH (A := (jSt 0 (p) 0).1) (K := (jSt 0 (p) 0).2) hP34 zr_I32 je_I32 (fun k => by show (0 : Int) ≤ (I32 170 k).toInt ∧ (I32 170 k).toInt ≤ 4; rw [show I32 170 k = h.2.1 170 k from ((f_I32 170 rfl k).trans ((e 170 rfl k).trans rfl))]; exact b170 k) (fun I48 v49 f_I48 zr_I48 je_I48 an_v49 => ?_))
            have hP50 : jP 0 (jSt 0 (jSt 0 (p) 0) 1) := jSt_P (by decide) hP34
            have zr_I48 : zR (jSt 0 (jSt 0 (p) 0) 1).1 I48 := zr_I48
            have je_I48 : jEq (jSt 0 (jSt 0 (p) 0) 1).2 I48 := je_I48
            rcases an_v49 with ⟨hr, hy, hz⟩ | ⟨hr, hy⟩
            · obtain rfl : v49 = 1 := hk_eqi.mpr (hr.trans rfl)
              have y51 : I48 181 1 = I32 181 1 + 1 := hy
              have y51z : I48 181 0 = I32 181 0 := hz
              refine qm_Rp.go 2 (c' := (83, [.ref 118, .int n, .int (m + 1), .int i, .int 0, .int 1], [], (h.1, I48, h.2.2.1, h.2.2.2))) rfl ?_
              obtain ⟨v52, q_v52⟩ : ∃ v_, (m + 1) = v_ := ⟨_, rfl⟩
              rw [q_v52]
              refine qm_Rp.go 7 (c' := (91, [.ref 118, .int n, .int v52, .int i, .int 0, .int 2], [.ref 118, .ref 118], (h.1, I48, h.2.2.1, h.2.2.2))) rfl ?_
              refine hp_geti (v := tk) rfl (hH.1 118 (17, 105) rfl) rfl (show (I48) 118 85 = _ from ((f_I48 118 rfl 85).trans ((f_I32 118 rfl 85).trans q_tk))) ?_
              refine qm_Rp.go 2 (c' := (96, [.ref 118, .int n, .int v52, .int i, .int 0, .int 2], [.int (tk + 1), .ref 118], (h.1, I48, h.2.2.1, h.2.2.2))) rfl ?_
              obtain ⟨v53, q_v53, e_v53⟩ := hk_add (x := tk) (y := 1) (a := tk.toInt) (b := 1) rfl rfl (by omega) (by omega)
              rw [q_v53]
              refine hp_puti rfl (hH.1 118 (17, 105) rfl) rfl ?_
              refine qm_Rp.go 1 (c' := (102, [.ref 118, .int n, .int v52, .int (i + 1), .int 0, .int 2], [], (h.1, qm_up I48 118 85 v53, h.2.2.1, h.2.2.2))) rfl ?_
              obtain ⟨v54, q_v54, e_v54⟩ := hk_add (x := i) (y := 1) (a := i.toInt) (b := 1) rfl rfl (by omega) (by omega)
              rw [q_v54]
              refine qm_Rp.go 1 (c' := (17, [.ref 118, .int n, .int v52, .int v54, .int 0, .int 2], [], (h.1, qm_up I48 118 85 v53, h.2.2.1, h.2.2.2))) rfl ?_
              have hT : jTi 0 p = jCk (jSt 0 (jSt 0 (p) 0) 1) := jTi_w (fun z => by unfold jRs at z; rw [show p.2 118 93 = sh from (je.2 93 (by decide)).trans ((x118 93 rfl).trans q_sh), show p.2 118 94 = rs from (je.2 94 (by decide)).trans ((x118 94 rfl).trans q_rs), show p.2 118 85 = tk from (je.2 85 (by decide)).trans q_tk, ← e_v29, ← e_v30] at z; omega)
              have e85 : (jSt 0 (jSt 0 (p) 0) 1).2 118 85 = tk := (je_I48.2 85 (by decide)).trans (show (I48) 118 85 = _ from ((f_I48 118 rfl 85).trans ((f_I32 118 rfl 85).trans q_tk)))
              have eC : (jCk (jSt 0 (jSt 0 (p) 0) 1)).2 = qm_up (jSt 0 (jSt 0 (p) 0) 1).2 118 85 v53 := by show qm_up (jSt 0 (jSt 0 (p) 0) 1).2 118 85 ((jSt 0 (jSt 0 (p) 0) 1).2 118 85 + 1) = _; rw [e85, q_v53]
              have e85p : p.2 118 85 = tk := (je.2 85 (by decide)).trans q_tk
              have hm2 : v52 = (qm_up I48 118 85 v53) 181 0 + (qm_up I48 118 85 v53) 181 1 - (h.2.1 181 0 + h.2.1 181 1) := by
                rw [show (qm_up I48 118 85 v53) 181 = I48 181 from funext fun i => hk_ot rfl]
                rw [y51, y51z, y47 0, y47 1]
                rw [← q_v52, hm]
                exact mi_2
              exact ih g hg (jTi 0 p) (qm_up I48 118 85 v53) v52 v54 _ _ (fun o ho i => ((hk_mod ho rfl).trans ((f_I48 o (hk_ms rfl ho) i).trans ((f_I32 o (hk_ms rfl ho) i).trans ((e o (hk_ms rfl ho) i).trans rfl))))) (fun i hi => ((hk_neq (fun z => by subst z; cases hi)).trans ((f_I48 118 rfl i).trans ((f_I32 118 rfl i).trans ((x118 i (hk_ms rfl hi)).trans rfl))))) (by rw [hT]; exact zR_tk zr_I48) (by rw [hT, eC]; exact jEq_up je_I48) (jTi_P hP (by rw [e85p, q_v53]; omega)) (by rw [← hq, show n.toInt.toNat - i.toInt.toNat = (n.toInt.toNat - v54.toInt.toNat) + 1 by omega]; rfl) (by omega) (by rw [jTi_118, e85p, q_v53]; omega) hm2
            · obtain rfl : v49 = 0 := hk_eqi.mpr (hr.trans rfl)
              have y55 : ∀ i, I48 181 i = I32 181 i := hy
              refine qm_Rp.go 1 (c' := (83, [.ref 118, .int n, .int m, .int i, .int 0, .int 1], [], (h.1, I48, h.2.2.1, h.2.2.2))) rfl ?_
              refine qm_Rp.go 7 (c' := (91, [.ref 118, .int n, .int m, .int i, .int 0, .int 2], [.ref 118, .ref 118], (h.1, I48, h.2.2.1, h.2.2.2))) rfl ?_
              refine hp_geti (v := tk) rfl (hH.1 118 (17, 105) rfl) rfl (show (I48) 118 85 = _ from ((f_I48 118 rfl 85).trans ((f_I32 118 rfl 85).trans q_tk))) ?_
              refine qm_Rp.go 2 (c' := (96, [.ref 118, .int n, .int m, .int i, .int 0, .int 2], [.int (tk + 1), .ref 118], (h.1, I48, h.2.2.1, h.2.2.2))) rfl ?_
              obtain ⟨v56, q_v56, e_v56⟩ := hk_add (x := tk) (y := 1) (a := tk.toInt) (b := 1) rfl rfl (by omega) (by omega)
              rw [q_v56]
              refine hp_puti rfl (hH.1 118 (17, 105) rfl) rfl ?_
              refine qm_Rp.go 1 (c' := (102, [.ref 118, .int n, .int m, .int (i + 1), .int 0, .int 2], [], (h.1, qm_up I48 118 85 v56, h.2.2.1, h.2.2.2))) rfl ?_
              obtain ⟨v57, q_v57, e_v57⟩ := hk_add (x := i) (y := 1) (a := i.toInt) (b := 1) rfl rfl (by omega) (by omega)
              rw [q_v57]
              refine qm_Rp.go 1 (c' := (17, [.ref 118, .int n, .int m, .int v57, .int 0, .int 2], [], (h.1, qm_up I48 118 85 v56, h.2.2.1, h.2.2.2))) rfl ?_
              have hT : jTi 0 p = jCk (jSt 0 (jSt 0 (p) 0) 1) := jTi_w (fun z => by unfold jRs at z; rw [show p.2 118 93 = sh from (je.2 93 (by decide)).trans ((x118 93 rfl).trans q_sh), show p.2 118 94 = rs from (je.2 94 (by decide)).trans ((x118 94 rfl).trans q_rs), show p.2 118 85 = tk from (je.2 85 (by decide)).trans q_tk, ← e_v29, ← e_v30] at z; omega)
              have e85 : (jSt 0 (jSt 0 (p) 0) 1).2 118 85 = tk := (je_I48.2 85 (by decide)).trans (show (I48) 118 85 = _ from ((f_I48 118 rfl 85).trans ((f_I32 118 rfl 85).trans q_tk)))
              have eC : (jCk (jSt 0 (jSt 0 (p) 0) 1)).2 = qm_up (jSt 0 (jSt 0 (p) 0) 1).2 118 85 v56 := by show qm_up (jSt 0 (jSt 0 (p) 0) 1).2 118 85 ((jSt 0 (jSt 0 (p) 0) 1).2 118 85 + 1) = _; rw [e85, q_v56]
              have e85p : p.2 118 85 = tk := (je.2 85 (by decide)).trans q_tk
              have hm2 : m = (qm_up I48 118 85 v56) 181 0 + (qm_up I48 118 85 v56) 181 1 - (h.2.1 181 0 + h.2.1 181 1) := by
                rw [show (qm_up I48 118 85 v56) 181 = I48 181 from funext fun i => hk_ot rfl]
                rw [y55 0, y55 1, y47 0, y47 1]
                exact hm
              exact ih g hg (jTi 0 p) (qm_up I48 118 85 v56) m v57 _ _ (fun o ho i => ((hk_mod ho rfl).trans ((f_I48 o (hk_ms rfl ho) i).trans ((f_I32 o (hk_ms rfl ho) i).trans ((e o (hk_ms rfl ho) i).trans rfl))))) (fun i hi => ((hk_neq (fun z => by subst z; cases hi)).trans ((f_I48 118 rfl i).trans ((f_I32 118 rfl i).trans ((x118 i (hk_ms rfl hi)).trans rfl))))) (by rw [hT]; exact zR_tk zr_I48) (by rw [hT, eC]; exact jEq_up je_I48) (jTi_P hP (by rw [e85p, q_v56]; omega)) (by rw [← hq, show n.toInt.toNat - i.toInt.toNat = (n.toInt.toNat - v57.toInt.toNat) + 1 by omega]; rfl) (by omega) (by rw [jTi_118, e85p, q_v56]; omega) hm2
        · refine qm_Rp.go 12 (c' := (91, [.ref 118, .int n, .int m, .int i, .int 1, .int 0], [.ref 118, .ref 118], (h.1, I, h.2.2.1, h.2.2.2))) rfl ?_
          refine hp_geti (v := tk) rfl (hH.1 118 (17, 105) rfl) rfl q_tk ?_
          refine qm_Rp.go 2 (c' := (96, [.ref 118, .int n, .int m, .int i, .int 1, .int 0], [.int (tk + 1), .ref 118], (h.1, I, h.2.2.1, h.2.2.2))) rfl ?_
          obtain ⟨v58, q_v58, e_v58⟩ := hk_add (x := tk) (y := 1) (a := tk.toInt) (b := 1) rfl rfl (by omega) (by omega)
          rw [q_v58]
          refine hp_puti rfl (hH.1 118 (17, 105) rfl) rfl ?_
          refine qm_Rp.go 1 (c' := (102, [.ref 118, .int n, .int m, .int (i + 1), .int 1, .int 0], [], (h.1, qm_up I 118 85 v58, h.2.2.1, h.2.2.2))) rfl ?_
          obtain ⟨v59, q_v59, e_v59⟩ := hk_add (x := i) (y := 1) (a := i.toInt) (b := 1) rfl rfl (by omega) (by omega)
          rw [q_v59]
          refine qm_Rp.go 1 (c' := (17, [.ref 118, .int n, .int m, .int v59, .int 1, .int 0], [], (h.1, qm_up I 118 85 v58, h.2.2.1, h.2.2.2))) rfl ?_
          have hT : jTi 0 p = jCk (p) := jTi_r (by unfold jRs; rw [show p.2 118 93 = sh from (je.2 93 (by decide)).trans ((x118 93 rfl).trans q_sh), show p.2 118 94 = rs from (je.2 94 (by decide)).trans ((x118 94 rfl).trans q_rs), show p.2 118 85 = tk from (je.2 85 (by decide)).trans q_tk, ← e_v29, ← e_v30]; omega)
          have e85 : (p).2 118 85 = tk := (je.2 85 (by decide)).trans q_tk
          have eC : (jCk (p)).2 = qm_up (p).2 118 85 v58 := by show qm_up (p).2 118 85 ((p).2 118 85 + 1) = _; rw [e85, q_v58]
          have e85p : p.2 118 85 = tk := (je.2 85 (by decide)).trans q_tk
          have hm2 : m = (qm_up I 118 85 v58) 181 0 + (qm_up I 118 85 v58) 181 1 - (h.2.1 181 0 + h.2.1 181 1) := by
            rw [show (qm_up I 118 85 v58) 181 = I 181 from funext fun i => hk_ot rfl]
            exact hm
          exact ih g hg (jTi 0 p) (qm_up I 118 85 v58) m v59 _ _ (fun o ho i => ((hk_mod ho rfl).trans ((e o (hk_ms rfl ho) i).trans rfl))) (fun i hi => ((hk_neq (fun z => by subst z; cases hi)).trans ((x118 i (hk_ms rfl hi)).trans rfl))) (by rw [hT]; exact zR_tk zr) (by rw [hT, eC]; exact jEq_up je) (jTi_P hP (by rw [e85p, q_v58]; omega)) (by rw [← hq, show n.toInt.toNat - i.toInt.toNat = (n.toInt.toNat - v59.toInt.toNat) + 1 by omega]; rfl) (by omega) (by rw [jTi_118, e85p, q_v58]; omega) hm2
theorem pz_rwork0 {X : Option (Nat × (Nat → Int32))} {Z : Option Value → qm_H → Prop} {h : qm_H} {fu : Nat} (hH : hk_H h) {n : Int32} {p : (Nat → Nat → Int) × (Nat → Nat → Int32)} (hP : jP 0 p) (zr : zR p.1 h.2.1) (je : jEq p.2 h.2.1) (htb : (p.2 118 85).toInt ≤ 900000000) {sh rs : Int32} (q_sh : h.2.1 118 93 = sh) (q_rs : h.2.1 118 94 = rs) (b_sh : 0 ≤ sh.toInt ∧ sh.toInt ≤ 500) (b_rs : 0 ≤ rs.toInt ∧ rs.toInt ≤ 500) (b170 : ∀ k, (0 : Int) ≤ (h.2.1 170 k).toInt ∧ (h.2.1 170 k).toInt ≤ 4) (k : ∀ (I : Nat → Nat → Int32) (v : Int32), (∀ o, [118, 150, 151, 152, 153, 154, 155, 156, 172, 173, 174, 175, 176, 177, 178, 179, 180, 181].contains o = false → ∀ i, I o i = h.2.1 o i) → (∀ i, [85].contains i = false → I 118 i = h.2.1 118 i) → zR (jWk 0 p n).1 I → jEq (jWk 0 p n).2 I → ((0 ≤ n.toInt ∧ n.toInt ≤ 200) ∧ v = I 181 0 + I 181 1 - (h.2.1 181 0 + h.2.1 181 1) ∨ ¬ (0 ≤ n.toInt ∧ n.toInt ≤ 200) ∧ v = -1) → Z (some (.int v)) (h.1, I, h.2.2.1, h.2.2.2)) : qm_Rp fu X cd_361 (qm_ent 6 [.ref 118, .int n] h) Z := by
  refine qm_Rp.go 0 (c' := (0, [.ref 118, .int n, .float 0, .float 0, .float 0, .float 0], [], h)) rfl ?_
  have kz0 : (0 : Int32).toInt = 0 := rfl
  have kz1 : (1 : Int32).toInt = 1 := rfl
  have kz2 : (2 : Int32).toInt = 2 := rfl
  have kz3 : (3 : Int32).toInt = 3 := rfl
  have kz4 : (4 : Int32).toInt = 4 := rfl
  have kz5 : (5 : Int32).toInt = 5 := rfl
  have kz6 : (6 : Int32).toInt = 6 := rfl
  have kz7 : (7 : Int32).toInt = 7 := rfl
  have kz8 : (8 : Int32).toInt = 8 := rfl
  have kz9 : (9 : Int32).toInt = 9 := rfl
  have kzm1 : ((-1) : Int32).toInt = (-1) := rfl
  have kzm2 : ((-2) : Int32).toInt = (-2) := rfl
  have kzm3 : ((-3) : Int32).toInt = (-3) := rfl
  refine qm_Rp.go 3 (c' := (5, [.ref 118, .int n, .float 0, .float 0, .float 0, .float 0], [.int 200, .int 0, .int n], h)) rfl ?_
  refine qm_Rp.call (j := 270) (as := [.int n, .int 0, .int 200]) (c' := (8, [.ref 118, .int n, .float 0, .float 0, .float 0, .float 0], [], h)) rfl rfl ?_
  refine qm_Rp.go 2 (c' := (2, [.int n, .int 0, .int 200], [.int 0, .int n], h)) rfl ?_
  refine hp_clt (ix := n.toInt) (iy := 0) rfl rfl rfl (fun z1 => ?_) (fun z1 => ?_)
  · refine qm_Rp.go 1 (c' := (15, [.int n, .int 0, .int 200], [.int 0], h)) rfl ?_
    refine qm_Rp.rt (v := (some (.int 0))) (h' := h) rfl ?_
    refine qm_Rp.go 2 (c' := (12, [.ref 118, .int n, .float 0, .float 0, .float 0, .float 0], [.int (-1)], h)) rfl ?_
    refine qm_Rp.rt (v := (some (.int (-1)))) (h' := h) rfl ?_
    have hn : ¬ (0 ≤ n.toInt ∧ n.toInt ≤ 200) := by omega
    exact k h.2.1 (-1) (fun _ _ _ => rfl) (fun _ _ => rfl) (by rw [jWk_0 hn]; exact zr) (by rw [jWk_0 hn]; exact je) (Or.inr ⟨hn, rfl⟩)
  · refine qm_Rp.go 2 (c' := (7, [.int n, .int 0, .int 200], [.int 200, .int n], h)) rfl ?_
    refine hp_cgt (ix := n.toInt) (iy := 200) rfl rfl rfl (fun z2 => ?_) (fun z2 => ?_)
    · refine qm_Rp.go 1 (c' := (15, [.int n, .int 0, .int 200], [.int 0], h)) rfl ?_
      refine qm_Rp.rt (v := (some (.int 0))) (h' := h) rfl ?_
      refine qm_Rp.go 2 (c' := (12, [.ref 118, .int n, .float 0, .float 0, .float 0, .float 0], [.int (-1)], h)) rfl ?_
      refine qm_Rp.rt (v := (some (.int (-1)))) (h' := h) rfl ?_
      have hn : ¬ (0 ≤ n.toInt ∧ n.toInt ≤ 200) := by omega
      exact k h.2.1 (-1) (fun _ _ _ => rfl) (fun _ _ => rfl) (by rw [jWk_0 hn]; exact zr) (by rw [jWk_0 hn]; exact je) (Or.inr ⟨hn, rfl⟩)
    · refine qm_Rp.go 2 (c' := (15, [.int n, .int 0, .int 200], [.int 1], h)) rfl ?_
      refine qm_Rp.rt (v := (some (.int 1))) (h' := h) rfl ?_
      refine qm_Rp.go 5 (c' := (17, [.ref 118, .int n, .int 0, .int 0, .float 0, .float 0], [], h)) rfl ?_
      have hn : 0 ≤ n.toInt ∧ n.toInt ≤ 200 := by omega
      exact px_rwl0 hH hn q_sh q_rs b_sh b_rs b170 (q := jRn 0 n.toInt.toNat p) (fun I v e x zr je hv => k I v e x (by rw [jWk_1 hn]; exact zr) (by rw [jWk_1 hn]; exact je) (Or.inl ⟨hn, hv⟩)) _ p h.2.1 0 0 _ _ (fun _ _ _ => rfl) (fun _ _ => rfl) zr je hP rfl (by decide) (by have z0 : (0 : Int32).toInt = 0 := rfl; omega) (by rw [Int32.sub_self])
theorem px_wrest01 {X : Option (Nat × (Nat → Int32))} {Z : Option Value → qm_H → Prop} {h : qm_H} {fu : Nat} (hH : hk_H h) {A : Nat → Nat → Int} (hP : jP 1 (A, h.2.1)) (hr : zR A h.2.1) {hv : Int32} (q_hv : h.2.1 178 0 = hv) (b_hv : -1 ≤ hv.toInt ∧ hv.toInt ≤ 39) (b170 : ∀ k, (0 : Int) ≤ (h.2.1 170 k).toInt ∧ (h.2.1 170 k).toInt ≤ 4) (b177 : ∀ d : Nat, d < 2 → -1 ≤ (h.2.1 177 d).toInt ∧ (h.2.1 177 d).toInt ≤ 4) (b179 : 0 ≤ (h.2.1 179 0).toInt ∧ (h.2.1 179 0).toInt ≤ 1) (k : ∀ (I : Nat → Nat → Int32) (v : Int32), (∀ o, [150, 151, 152, 153, 154, 155, 156, 172, 173, 174, 175, 176, 177, 178, 179, 180, 181].contains o = false → ∀ i, I o i = h.2.1 o i) → zR (jGo 1 A h.2.1 0).1 I → jEq (jGo 1 A h.2.1 0).2 I → (v.toInt = 1 ∧ I 181 0 = h.2.1 181 0 + 1 ∧ I 181 1 = h.2.1 181 1 ∨ v.toInt = 0 ∧ ∀ i, I 181 i = h.2.1 181 i) → Z (some (.int v)) (h.1, I, h.2.2.1, h.2.2.2)) : qm_Rp fu X cd_362 (15, [.ref 118, .int 0, .float 0, .float 0], [], h) Z := by
  have kz0 : (0 : Int32).toInt = 0 := rfl
  have kz1 : (1 : Int32).toInt = 1 := rfl
  have kz2 : (2 : Int32).toInt = 2 := rfl
  have kz3 : (3 : Int32).toInt = 3 := rfl
  have kz4 : (4 : Int32).toInt = 4 := rfl
  have kz5 : (5 : Int32).toInt = 5 := rfl
  have kz6 : (6 : Int32).toInt = 6 := rfl
  have kz7 : (7 : Int32).toInt = 7 := rfl
  have kz8 : (8 : Int32).toInt = 8 := rfl
  have kz9 : (9 : Int32).toInt = 9 := rfl
  have kzm1 : ((-1) : Int32).toInt = (-1) := rfl
  have kzm2 : ((-2) : Int32).toInt = (-2) := rfl
  have kzm3 : ((-3) : Int32).toInt = (-3) := rfl
  refine qm_Rp.go 1 (c' := (16, [.ref 118, .int 0, .float 0, .float 0], [.ref 118], h)) rfl ?_
  refine hp_getr rfl (hH.1 118 (17, 105) rfl) rfl (hH.2 118 87 (some 178) rfl) ?_
  refine qm_Rp.go 1 (c' := (20, [.ref 118, .int 0, .float 0, .float 0], [.int 0, .ref 178], h)) rfl ?_
  refine hp_ial (v := hv) rfl (hH.1 178 (0, 2) rfl) q_hv (fun ia_0 ib_0 => ?_)
  refine qm_Rp.go 1 (c' := (22, [.ref 118, .int 0, .float 0, .float 0], [.int (-1), .int hv], h)) rfl ?_
  refine hp_cne (ix := hv.toInt) (iy := (-1)) rfl rfl rfl (fun z2 => ?_) (fun z2 => ?_)
  · refine qm_Rp.go 1 (c' := (28, [.ref 118, .int 0, .float 0, .float 0], [.ref 118], h)) rfl ?_
    refine hp_getr rfl (hH.1 118 (17, 105) rfl) rfl (hH.2 118 87 (some 178) rfl) ?_
    refine qm_Rp.go 1 (c' := (32, [.ref 118, .int 0, .float 0, .float 0], [.int 0, .ref 178], h)) rfl ?_
    refine hp_ial (v := hv) rfl (hH.1 178 (0, 2) rfl) q_hv (fun ia_2 ib_2 => ?_)
    refine qm_Rp.go 2 (c' := (35, [.ref 118, .int 0, .int hv, .float 0], [.ref 118], h)) rfl ?_
    refine hp_getr rfl (hH.1 118 (17, 105) rfl) rfl (hH.2 118 86 (some 177) rfl) ?_
    refine qm_Rp.go 1 (c' := (39, [.ref 118, .int 0, .int hv, .float 0], [.int 0, .ref 177], h)) rfl ?_
    obtain ⟨v4, q_v4⟩ : ∃ v_, h.2.1 177 0 = v_ := ⟨_, rfl⟩
    have b_v4 : (-1 : Int) ≤ v4.toInt ∧ v4.toInt ≤ 4 := by rw [← q_v4]; exact b177 0 (by decide)
    refine hp_ial (v := v4) rfl (hH.1 177 (0, 2) rfl) q_v4 (fun ia_4 ib_4 => ?_)
    refine qm_Rp.go 1 (c' := (41, [.ref 118, .int 0, .int hv, .float 0], [.ref 118, .int v4], h)) rfl ?_
    refine hp_getr rfl (hH.1 118 (17, 105) rfl) rfl (hH.2 118 78 (some 170) rfl) ?_
    refine qm_Rp.go 1 (c' := (45, [.ref 118, .int 0, .int hv, .float 0], [.int hv, .ref 170, .int v4], h)) rfl ?_
    obtain ⟨v6, q_v6⟩ : ∃ v_, h.2.1 170 hv.toInt.toNat = v_ := ⟨_, rfl⟩
    have b_v6 : (0 : Int) ≤ v6.toInt ∧ v6.toInt ≤ 4 := by rw [← q_v6]; exact b170 (hv.toInt.toNat)
    refine hp_ial (v := v6) rfl (hH.1 170 (0, 40) rfl) q_v6 (fun ia_6 ib_6 => ?_)
    refine qm_Rp.go 0 (c' := (46, [.ref 118, .int 0, .int hv, .float 0], [.int v6, .int v4], h)) rfl ?_
    refine hp_ceq (ix := v4.toInt) (iy := v6.toInt) rfl rfl rfl (fun z8 => ?_) (fun z8 => ?_)
    · refine qm_Rp.go 1 (c' := (118, [.ref 118, .int 0, .int hv, .float 0], [.ref 118], h)) rfl ?_
      obtain ⟨v9, q_v9⟩ : ∃ v_, h.2.1 118 85 = v_ := ⟨_, rfl⟩
      refine hp_geti (v := v9) rfl (hH.1 118 (17, 105) rfl) rfl q_v9 ?_
      refine qm_Rp.go 1 (c' := (122, [.ref 118, .int 0, .int hv, .float 0], [.ref 118, .int v9], h)) rfl ?_
      obtain ⟨v10, q_v10⟩ : ∃ v_, h.2.1 118 91 = v_ := ⟨_, rfl⟩
      refine hp_geti (v := v10) rfl (hH.1 118 (17, 105) rfl) rfl q_v10 ?_
      refine qm_Rp.go 1 (c' := (126, [.ref 118, .int 0, .int hv, .float 0], [.ref 118, .int v10, .int v9], h)) rfl ?_
      obtain ⟨v11, q_v11⟩ : ∃ v_, h.2.1 118 92 = v_ := ⟨_, rfl⟩
      refine hp_geti (v := v11) rfl (hH.1 118 (17, 105) rfl) rfl q_v11 ?_
      refine qm_Rp.go 0 (c' := (129, [.ref 118, .int 0, .int hv, .float 0], [.int v11, .int v10, .int v9], h)) rfl ?_
      refine qm_Rp.call (j := 270) (as := [.int v9, .int v10, .int v11]) (c' := (132, [.ref 118, .int 0, .int hv, .float 0], [], h)) rfl rfl ?_
      refine qm_Rp.go 2 (c' := (2, [.int v9, .int v10, .int v11], [.int v10, .int v9], h)) rfl ?_
      refine hp_clt (ix := v9.toInt) (iy := v10.toInt) rfl rfl rfl (fun z12 => ?_) (fun z12 => ?_)
      · refine qm_Rp.go 1 (c' := (15, [.int v9, .int v10, .int v11], [.int 0], h)) rfl ?_
        refine qm_Rp.rt (v := (some (.int 0))) (h' := h) rfl ?_
        refine qm_Rp.go 2 (c' := (138, [.ref 118, .int 0, .int hv, .float 0], [.ref 118], h)) rfl ?_
        refine hp_getr rfl (hH.1 118 (17, 105) rfl) rfl (hH.2 118 88 (some 179) rfl) ?_
        refine qm_Rp.go 2 (c' := (143, [.ref 118, .int 0, .int hv, .float 0], [.int 0, .ref 179, .int 0, .ref 179], h)) rfl ?_
        obtain ⟨v13, q_v13⟩ : ∃ v_, h.2.1 179 0 = v_ := ⟨_, rfl⟩
        have b_v13 : (0 : Int) ≤ v13.toInt ∧ v13.toInt ≤ 1 := by rw [← q_v13]; exact b179
        refine hp_ial (v := v13) rfl (hH.1 179 (0, 2) rfl) q_v13 (fun ia_13 ib_13 => ?_)
        refine qm_Rp.go 2 (c' := (146, [.ref 118, .int 0, .int hv, .float 0], [.int (v13 + 1), .int 0, .ref 179], h)) rfl ?_
        obtain ⟨v15, q_v15, e_v15⟩ := hk_add (x := v13) (y := 1) (a := v13.toInt) (b := 1) rfl rfl (by omega) (by omega)
        rw [q_v15]
        refine hp_ias rfl (hH.1 179 (0, 2) rfl) (fun ia_15 ib_15 => ?_)
        refine qm_Rp.go 1 (c' := (148, [.ref 118, .int 0, .int hv, .float 0], [.ref 118], (h.1, qm_up h.2.1 179 0 v15, h.2.2.1, h.2.2.2))) rfl ?_
        refine hp_getr rfl (hH.1 118 (17, 105) rfl) rfl (hH.2 118 88 (some 179) rfl) ?_
        refine qm_Rp.go 1 (c' := (152, [.ref 118, .int 0, .int hv, .float 0], [.int 0, .ref 179], (h.1, qm_up h.2.1 179 0 v15, h.2.2.1, h.2.2.2))) rfl ?_
        refine hp_ial (v := v15) rfl (hH.1 179 (0, 2) rfl) (show (qm_up h.2.1 179 0 v15) 179 0 = _ from (hk_same)) (fun ia_16 ib_16 => ?_)
        refine qm_Rp.go 1 (c' := (154, [.ref 118, .int 0, .int hv, .float 0], [.int 2, .int v15], (h.1, qm_up h.2.1 179 0 v15, h.2.2.1, h.2.2.2))) rfl ?_
        refine hp_cge (ix := v15.toInt) (iy := 2) rfl rfl rfl (fun z18 => ?_) (fun z18 => ?_)
        · refine qm_Rp.go 1 (c' := (160, [.ref 118, .int 0, .int hv, .float 0], [.ref 118], (h.1, qm_up h.2.1 179 0 v15, h.2.2.1, h.2.2.2))) rfl ?_
          refine hp_getr rfl (hH.1 118 (17, 105) rfl) rfl (hH.2 118 84 (some 176) rfl) ?_
          refine qm_Rp.go 2 (c' := (165, [.ref 118, .int 0, .int hv, .float 0], [.ref 118, .int hv, .ref 176], (h.1, qm_up h.2.1 179 0 v15, h.2.2.1, h.2.2.2))) rfl ?_
          refine hp_getr rfl (hH.1 118 (17, 105) rfl) rfl (hH.2 118 76 (some 168) rfl) ?_
          refine qm_Rp.go 1 (c' := (169, [.ref 118, .int 0, .int hv, .float 0], [.int hv, .ref 168, .int hv, .ref 176], (h.1, qm_up h.2.1 179 0 v15, h.2.2.1, h.2.2.2))) rfl ?_
          obtain ⟨v19, q_v19⟩ : ∃ v_, h.2.1 168 hv.toInt.toNat = v_ := ⟨_, rfl⟩
          refine hp_ial (v := v19) rfl (hH.1 168 (0, 40) rfl) (show (qm_up h.2.1 179 0 v15) 168 hv.toInt.toNat = _ from ((hk_ot rfl).trans q_v19)) (fun ia_19 ib_19 => ?_)
          refine qm_Rp.go 0 (c' := (170, [.ref 118, .int 0, .int hv, .float 0], [.int v19, .int hv, .ref 176], (h.1, qm_up h.2.1 179 0 v15, h.2.2.1, h.2.2.2))) rfl ?_
          refine hp_zne (ix := v19.toInt) rfl rfl (fun z21 => ?_) (fun z21 => ?_)
          · refine qm_Rp.go 2 (c' := (200, [.ref 118, .int 0, .int hv, .float 0], [.ref 118, .ref 118, .int hv, .ref 176], (h.1, qm_up h.2.1 179 0 v15, h.2.2.1, h.2.2.2))) rfl ?_
            refine hp_getr rfl (hH.1 118 (17, 105) rfl) rfl (hH.2 118 78 (some 170) rfl) ?_
            refine qm_Rp.go 1 (c' := (204, [.ref 118, .int 0, .int hv, .float 0], [.int hv, .ref 170, .ref 118, .int hv, .ref 176], (h.1, qm_up h.2.1 179 0 v15, h.2.2.1, h.2.2.2))) rfl ?_
            refine hp_ial (v := v6) rfl (hH.1 170 (0, 40) rfl) (show (qm_up h.2.1 179 0 v15) 170 hv.toInt.toNat = _ from ((hk_ot rfl).trans q_v6)) (fun ia_21 ib_21 => ?_)
            refine qm_Rp.go 1 (c' := (206, [.ref 118, .int 0, .int hv, .float 0], [.ref 118, .int v6, .ref 118, .int hv, .ref 176], (h.1, qm_up h.2.1 179 0 v15, h.2.2.1, h.2.2.2))) rfl ?_
            refine hp_getr rfl (hH.1 118 (17, 105) rfl) rfl (hH.2 118 79 (some 171) rfl) ?_
            refine qm_Rp.go 1 (c' := (210, [.ref 118, .int 0, .int hv, .float 0], [.int hv, .ref 171, .int v6, .ref 118, .int hv, .ref 176], (h.1, qm_up h.2.1 179 0 v15, h.2.2.1, h.2.2.2))) rfl ?_
            obtain ⟨v23, q_v23⟩ : ∃ v_, h.2.1 171 hv.toInt.toNat = v_ := ⟨_, rfl⟩
            refine hp_ial (v := v23) rfl (hH.1 171 (0, 40) rfl) (show (qm_up h.2.1 179 0 v15) 171 hv.toInt.toNat = _ from ((hk_ot rfl).trans q_v23)) (fun ia_23 ib_23 => ?_)
            refine qm_Rp.go 1 (c' := (212, [.ref 118, .int 0, .int hv, .float 0], [.ref 118, .int v23, .int v6, .ref 118, .int hv, .ref 176], (h.1, qm_up h.2.1 179 0 v15, h.2.2.1, h.2.2.2))) rfl ?_
            refine hp_getr rfl (hH.1 118 (17, 105) rfl) rfl (hH.2 118 77 (some 169) rfl) ?_
            refine qm_Rp.go 1 (c' := (216, [.ref 118, .int 0, .int hv, .float 0], [.int hv, .ref 169, .int v23, .int v6, .ref 118, .int hv, .ref 176], (h.1, qm_up h.2.1 179 0 v15, h.2.2.1, h.2.2.2))) rfl ?_
            obtain ⟨v25, q_v25⟩ : ∃ v_, h.2.1 169 hv.toInt.toNat = v_ := ⟨_, rfl⟩
            refine hp_ial (v := v25) rfl (hH.1 169 (0, 40) rfl) (show (qm_up h.2.1 179 0 v15) 169 hv.toInt.toNat = _ from ((hk_ot rfl).trans q_v25)) (fun ia_25 ib_25 => ?_)
            refine qm_Rp.go 0 (c' := (217, [.ref 118, .int 0, .int hv, .float 0], [.int v25, .int v23, .int v6, .ref 118, .int hv, .ref 176], (h.1, qm_up h.2.1 179 0 v15, h.2.2.1, h.2.2.2))) rfl ?_
            refine hp_inv (o := 118) (r := [.int hv, .ref 176]) (as := [.ref 118, .int v6, .int v23, .int v25]) rfl rfl (hH.1 118 (17, 105) rfl) rfl rfl rfl (pz_runl1 (h := (h.1, qm_up h.2.1 179 0 v15, h.2.2.1, h.2.2.2)) hH hP.1 (zR_j hr (fun o ho i => ((hk_mod ho rfl).trans rfl))) hP.2.2.1 (fun I27 v28 f_I27 zr_I27 e_v28 => ?_))
            have f_I27 : ∀ o, [150, 151, 152, 153, 154, 155, 156].contains o = false → ∀ i, I27 o i = (qm_up h.2.1 179 0 v15) o i := f_I27
            refine qm_Rp.go 0 (c' := (220, [.ref 118, .int 0, .int hv, .float 0], [.int v28, .int hv, .ref 176], (h.1, I27, h.2.2.1, h.2.2.2))) rfl ?_
            refine hp_ias rfl (hH.1 176 (0, 40) rfl) (fun ia_28 ib_28 => ?_)
            refine qm_Rp.go 1 (c' := (222, [.ref 118, .int 0, .int hv, .float 0], [.ref 118], (h.1, qm_up I27 176 hv.toInt.toNat v28, h.2.2.1, h.2.2.2))) rfl ?_
            refine hp_getr rfl (hH.1 118 (17, 105) rfl) rfl (hH.2 118 80 (some 172) rfl) ?_
            refine qm_Rp.go 2 (c' := (227, [.ref 118, .int 0, .int hv, .float 0], [.int 2, .int hv, .ref 172], (h.1, qm_up I27 176 hv.toInt.toNat v28, h.2.2.1, h.2.2.2))) rfl ?_
            refine hp_ias rfl (hH.1 172 (0, 40) rfl) (fun ia_29 ib_29 => ?_)
            refine qm_Rp.go 1 (c' := (229, [.ref 118, .int 0, .int hv, .float 0], [.ref 118], (h.1, qm_up (qm_up I27 176 hv.toInt.toNat v28) 172 hv.toInt.toNat 2, h.2.2.1, h.2.2.2))) rfl ?_
            refine hp_getr rfl (hH.1 118 (17, 105) rfl) rfl (hH.2 118 83 (some 175) rfl) ?_
            refine qm_Rp.go 2 (c' := (234, [.ref 118, .int 0, .int hv, .float 0], [.ref 118, .int hv, .ref 175], (h.1, qm_up (qm_up I27 176 hv.toInt.toNat v28) 172 hv.toInt.toNat 2, h.2.2.1, h.2.2.2))) rfl ?_
            refine hp_geti (v := v9) rfl (hH.1 118 (17, 105) rfl) rfl (show (qm_up (qm_up I27 176 hv.toInt.toNat v28) 172 hv.toInt.toNat 2) 118 85 = _ from ((hk_ot rfl).trans ((hk_ot rfl).trans ((f_I27 118 rfl 85).trans ((hk_ot rfl).trans q_v9))))) ?_
            refine qm_Rp.go 0 (c' := (237, [.ref 118, .int 0, .int hv, .float 0], [.int v9, .int hv, .ref 175], (h.1, qm_up (qm_up I27 176 hv.toInt.toNat v28) 172 hv.toInt.toNat 2, h.2.2.1, h.2.2.2))) rfl ?_
            refine hp_ias rfl (hH.1 175 (0, 40) rfl) (fun ia_30 ib_30 => ?_)
            refine qm_Rp.go 1 (c' := (239, [.ref 118, .int 0, .int hv, .float 0], [.ref 118], (h.1, qm_up (qm_up (qm_up I27 176 hv.toInt.toNat v28) 172 hv.toInt.toNat 2) 175 hv.toInt.toNat v9, h.2.2.1, h.2.2.2))) rfl ?_
            refine hp_getr rfl (hH.1 118 (17, 105) rfl) rfl (hH.2 118 87 (some 178) rfl) ?_
            refine qm_Rp.go 2 (c' := (244, [.ref 118, .int 0, .int hv, .float 0], [.int (-1), .int 0, .ref 178], (h.1, qm_up (qm_up (qm_up I27 176 hv.toInt.toNat v28) 172 hv.toInt.toNat 2) 175 hv.toInt.toNat v9, h.2.2.1, h.2.2.2))) rfl ?_
            refine hp_ias rfl (hH.1 178 (0, 2) rfl) (fun ia_31 ib_31 => ?_)
            refine qm_Rp.go 1 (c' := (246, [.ref 118, .int 0, .int hv, .float 0], [.ref 118], (h.1, qm_up (qm_up (qm_up (qm_up I27 176 hv.toInt.toNat v28) 172 hv.toInt.toNat 2) 175 hv.toInt.toNat v9) 178 0 (-1), h.2.2.1, h.2.2.2))) rfl ?_
            refine hp_getr rfl (hH.1 118 (17, 105) rfl) rfl (hH.2 118 88 (some 179) rfl) ?_
            refine qm_Rp.go 2 (c' := (251, [.ref 118, .int 0, .int hv, .float 0], [.int 0, .int 0, .ref 179], (h.1, qm_up (qm_up (qm_up (qm_up I27 176 hv.toInt.toNat v28) 172 hv.toInt.toNat 2) 175 hv.toInt.toNat v9) 178 0 (-1), h.2.2.1, h.2.2.2))) rfl ?_
            refine hp_ias rfl (hH.1 179 (0, 2) rfl) (fun ia_32 ib_32 => ?_)
            refine qm_Rp.go 1 (c' := (253, [.ref 118, .int 0, .int hv, .float 0], [.ref 118], (h.1, qm_up (qm_up (qm_up (qm_up (qm_up I27 176 hv.toInt.toNat v28) 172 hv.toInt.toNat 2) 175 hv.toInt.toNat v9) 178 0 (-1)) 179 0 0, h.2.2.1, h.2.2.2))) rfl ?_
            refine hp_getr rfl (hH.1 118 (17, 105) rfl) rfl (hH.2 118 90 (some 181) rfl) ?_
            refine qm_Rp.go 2 (c' := (258, [.ref 118, .int 0, .int hv, .float 0], [.int 0, .ref 181, .int 0, .ref 181], (h.1, qm_up (qm_up (qm_up (qm_up (qm_up I27 176 hv.toInt.toNat v28) 172 hv.toInt.toNat 2) 175 hv.toInt.toNat v9) 178 0 (-1)) 179 0 0, h.2.2.1, h.2.2.2))) rfl ?_
            obtain ⟨v34, q_v34⟩ : ∃ v_, h.2.1 181 0 = v_ := ⟨_, rfl⟩
            refine hp_ial (v := v34) rfl (hH.1 181 (0, 2) rfl) (show (qm_up (qm_up (qm_up (qm_up (qm_up I27 176 hv.toInt.toNat v28) 172 hv.toInt.toNat 2) 175 hv.toInt.toNat v9) 178 0 (-1)) 179 0 0) 181 0 = _ from ((hk_ot rfl).trans ((hk_ot rfl).trans ((hk_ot rfl).trans ((hk_ot rfl).trans ((hk_ot rfl).trans ((f_I27 181 rfl 0).trans ((hk_ot rfl).trans q_v34)))))))) (fun ia_34 ib_34 => ?_)
            refine qm_Rp.go 2 (c' := (261, [.ref 118, .int 0, .int hv, .float 0], [.int (v34 + 1), .int 0, .ref 181], (h.1, qm_up (qm_up (qm_up (qm_up (qm_up I27 176 hv.toInt.toNat v28) 172 hv.toInt.toNat 2) 175 hv.toInt.toNat v9) 178 0 (-1)) 179 0 0, h.2.2.1, h.2.2.2))) rfl ?_
            obtain ⟨v36, q_v36⟩ : ∃ v_, (v34 + 1) = v_ := ⟨_, rfl⟩
            rw [q_v36]
            refine hp_ias rfl (hH.1 181 (0, 2) rfl) (fun ia_36 ib_36 => ?_)
            refine qm_Rp.go 1 (c' := (263, [.ref 118, .int 0, .int hv, .float 0], [.int 1], (h.1, qm_up (qm_up (qm_up (qm_up (qm_up (qm_up I27 176 hv.toInt.toNat v28) 172 hv.toInt.toNat 2) 175 hv.toInt.toNat v9) 178 0 (-1)) 179 0 0) 181 0 v36, h.2.2.1, h.2.2.2))) rfl ?_
            refine qm_Rp.rt (v := (some (.int 1))) (h' := (h.1, qm_up (qm_up (qm_up (qm_up (qm_up (qm_up I27 176 hv.toInt.toNat v28) 172 hv.toInt.toNat 2) 175 hv.toInt.toNat v9) 178 0 (-1)) 179 0 0) 181 0 v36, h.2.2.1, h.2.2.2)) rfl ?_
            have e := jGo_f (s := 1) (A := A) (K := h.2.1) (c := 0) (by rw [q_hv]; omega) (by rw [q_v4, q_hv, q_v6]; exact hk_eqi.mpr (by omega)) (fun z => by unfold jWn at z; rw [q_v10, q_v9, q_v11] at z; omega) (by rw [q_v13, q_v15]; omega)
            have eR : jRe 1 A h.2.1 hv.toInt.toNat = v28.toInt := by unfold jRe; rw [q_v19, q_v25, q_v6, q_v23, okb_f (show ¬ v19.toInt = 0 by omega)]; exact e_v28.symm
            have eS : zR (jSh 1 A h.2.1 hv.toInt.toNat) I27 := by unfold jSh; rw [q_v19, q_v25, q_v6, q_v23, okb_f (show ¬ v19.toInt = 0 by omega)]; exact zr_I27
            rw [q_hv, eR, Int32.ofInt_toInt] at e
            have e2 : jEq (jFi h.2.1 0 hv.toInt.toNat v28) (qm_up (qm_up (qm_up (qm_up (qm_up (qm_up I27 176 hv.toInt.toNat v28) 172 hv.toInt.toNat 2) 175 hv.toInt.toNat v9) 178 0 (-1)) 179 0 0) 181 0 v36) := by
              unfold jFi
              rw [q_v13, q_v15, q_v9, q_v34, q_v36]
              exact jEq_up (jEq_up (jEq_up (jEq_up (jEq_up (jEq_up (jEq_fr jEq_rf f_I27 (by decide)))))))
            refine k (qm_up (qm_up (qm_up (qm_up (qm_up (qm_up I27 176 hv.toInt.toNat v28) 172 hv.toInt.toNat 2) 175 hv.toInt.toNat v9) 178 0 (-1)) 179 0 0) 181 0 v36) 1 (fun o ho i => ((hk_mod ho rfl).trans ((hk_mod ho rfl).trans ((hk_mod ho rfl).trans ((hk_mod ho rfl).trans ((hk_mod ho rfl).trans ((hk_mod ho rfl).trans ((f_I27 o (hk_ms rfl ho) i).trans ((hk_mod ho rfl).trans rfl))))))))) (by rw [e]; exact zR_j eS (fun o ho i => ((hk_mod ho rfl).trans ((hk_mod ho rfl).trans ((hk_mod ho rfl).trans ((hk_mod ho rfl).trans ((hk_mod ho rfl).trans ((hk_mod ho rfl).trans rfl)))))))) (by rw [e]; exact e2) (Or.inl ⟨rfl, ?_, ?_⟩)
            · rw [q_v34, q_v36]; exact hk_same
            · exact ((hk_neq (by decide)).trans ((hk_ot rfl).trans ((hk_ot rfl).trans ((hk_ot rfl).trans ((hk_ot rfl).trans ((hk_ot rfl).trans ((f_I27 181 rfl 1).trans ((hk_ot rfl).trans rfl))))))))
          · refine qm_Rp.go 2 (c' := (175, [.ref 118, .int 0, .int hv, .float 0], [.ref 118, .ref 118, .int hv, .ref 176], (h.1, qm_up h.2.1 179 0 v15, h.2.2.1, h.2.2.2))) rfl ?_
            refine hp_getr rfl (hH.1 118 (17, 105) rfl) rfl (hH.2 118 77 (some 169) rfl) ?_
            refine qm_Rp.go 1 (c' := (179, [.ref 118, .int 0, .int hv, .float 0], [.int hv, .ref 169, .ref 118, .int hv, .ref 176], (h.1, qm_up h.2.1 179 0 v15, h.2.2.1, h.2.2.2))) rfl ?_
            obtain ⟨v38, q_v38⟩ : ∃ v_, h.2.1 169 hv.toInt.toNat = v_ := ⟨_, rfl⟩
            refine hp_ial (v := v38) rfl (hH.1 169 (0, 40) rfl) (show (qm_up h.2.1 179 0 v15) 169 hv.toInt.toNat = _ from ((hk_ot rfl).trans q_v38)) (fun ia_38 ib_38 => ?_)
            refine qm_Rp.go 1 (c' := (181, [.ref 118, .int 0, .int hv, .float 0], [.ref 118, .int v38, .ref 118, .int hv, .ref 176], (h.1, qm_up h.2.1 179 0 v15, h.2.2.1, h.2.2.2))) rfl ?_
            refine hp_getr rfl (hH.1 118 (17, 105) rfl) rfl (hH.2 118 78 (some 170) rfl) ?_
            refine qm_Rp.go 1 (c' := (185, [.ref 118, .int 0, .int hv, .float 0], [.int hv, .ref 170, .int v38, .ref 118, .int hv, .ref 176], (h.1, qm_up h.2.1 179 0 v15, h.2.2.1, h.2.2.2))) rfl ?_
            refine hp_ial (v := v6) rfl (hH.1 170 (0, 40) rfl) (show (qm_up h.2.1 179 0 v15) 170 hv.toInt.toNat = _ from ((hk_ot rfl).trans q_v6)) (fun ia_39 ib_39 => ?_)
            refine qm_Rp.go 1 (c' := (187, [.ref 118, .int 0, .int hv, .float 0], [.ref 118, .int v6, .int v38, .ref 118, .int hv, .ref 176], (h.1, qm_up h.2.1 179 0 v15, h.2.2.1, h.2.2.2))) rfl ?_
            refine hp_getr rfl (hH.1 118 (17, 105) rfl) rfl (hH.2 118 79 (some 171) rfl) ?_
            refine qm_Rp.go 1 (c' := (191, [.ref 118, .int 0, .int hv, .float 0], [.int hv, .ref 171, .int v6, .int v38, .ref 118, .int hv, .ref 176], (h.1, qm_up h.2.1 179 0 v15, h.2.2.1, h.2.2.2))) rfl ?_
            obtain ⟨v41, q_v41⟩ : ∃ v_, h.2.1 171 hv.toInt.toNat = v_ := ⟨_, rfl⟩
            refine hp_ial (v := v41) rfl (hH.1 171 (0, 40) rfl) (show (qm_up h.2.1 179 0 v15) 171 hv.toInt.toNat = _ from ((hk_ot rfl).trans q_v41)) (fun ia_41 ib_41 => ?_)
            refine qm_Rp.go 0 (c' := (192, [.ref 118, .int 0, .int hv, .float 0], [.int v41, .int v6, .int v38, .ref 118, .int hv, .ref 176], (h.1, qm_up h.2.1 179 0 v15, h.2.2.1, h.2.2.2))) rfl ?_
            refine hp_inv (o := 118) (r := [.int hv, .ref 176]) (as := [.ref 118, .int v38, .int v6, .int v41]) rfl rfl (hH.1 118 (17, 105) rfl) rfl rfl rfl (pz_rload1 (h := (h.1, qm_up h.2.1 179 0 v15, h.2.2.1, h.2.2.2)) hH hP.1 (zR_j hr (fun o ho i => ((hk_mod ho rfl).trans rfl))) hP.2.2.1 (fun I43 v44 f_I43 zr_I43 e_v44 => ?_))
            have f_I43 : ∀ o, [150, 151, 152, 153, 154, 155, 156].contains o = false → ∀ i, I43 o i = (qm_up h.2.1 179 0 v15) o i := f_I43
            refine qm_Rp.go 1 (c' := (220, [.ref 118, .int 0, .int hv, .float 0], [.int v44, .int hv, .ref 176], (h.1, I43, h.2.2.1, h.2.2.2))) rfl ?_
            refine hp_ias rfl (hH.1 176 (0, 40) rfl) (fun ia_44 ib_44 => ?_)
            refine qm_Rp.go 1 (c' := (222, [.ref 118, .int 0, .int hv, .float 0], [.ref 118], (h.1, qm_up I43 176 hv.toInt.toNat v44, h.2.2.1, h.2.2.2))) rfl ?_
            refine hp_getr rfl (hH.1 118 (17, 105) rfl) rfl (hH.2 118 80 (some 172) rfl) ?_
            refine qm_Rp.go 2 (c' := (227, [.ref 118, .int 0, .int hv, .float 0], [.int 2, .int hv, .ref 172], (h.1, qm_up I43 176 hv.toInt.toNat v44, h.2.2.1, h.2.2.2))) rfl ?_
            refine hp_ias rfl (hH.1 172 (0, 40) rfl) (fun ia_45 ib_45 => ?_)
            refine qm_Rp.go 1 (c' := (229, [.ref 118, .int 0, .int hv, .float 0], [.ref 118], (h.1, qm_up (qm_up I43 176 hv.toInt.toNat v44) 172 hv.toInt.toNat 2, h.2.2.1, h.2.2.2))) rfl ?_
            refine hp_getr rfl (hH.1 118 (17, 105) rfl) rfl (hH.2 118 83 (some 175) rfl) ?_
            refine qm_Rp.go 2 (c' := (234, [.ref 118, .int 0, .int hv, .float 0], [.ref 118, .int hv, .ref 175], (h.1, qm_up (qm_up I43 176 hv.toInt.toNat v44) 172 hv.toInt.toNat 2, h.2.2.1, h.2.2.2))) rfl ?_
            refine hp_geti (v := v9) rfl (hH.1 118 (17, 105) rfl) rfl (show (qm_up (qm_up I43 176 hv.toInt.toNat v44) 172 hv.toInt.toNat 2) 118 85 = _ from ((hk_ot rfl).trans ((hk_ot rfl).trans ((f_I43 118 rfl 85).trans ((hk_ot rfl).trans q_v9))))) ?_
            refine qm_Rp.go 0 (c' := (237, [.ref 118, .int 0, .int hv, .float 0], [.int v9, .int hv, .ref 175], (h.1, qm_up (qm_up I43 176 hv.toInt.toNat v44) 172 hv.toInt.toNat 2, h.2.2.1, h.2.2.2))) rfl ?_
            refine hp_ias rfl (hH.1 175 (0, 40) rfl) (fun ia_46 ib_46 => ?_)
            refine qm_Rp.go 1 (c' := (239, [.ref 118, .int 0, .int hv, .float 0], [.ref 118], (h.1, qm_up (qm_up (qm_up I43 176 hv.toInt.toNat v44) 172 hv.toInt.toNat 2) 175 hv.toInt.toNat v9, h.2.2.1, h.2.2.2))) rfl ?_
            refine hp_getr rfl (hH.1 118 (17, 105) rfl) rfl (hH.2 118 87 (some 178) rfl) ?_
            refine qm_Rp.go 2 (c' := (244, [.ref 118, .int 0, .int hv, .float 0], [.int (-1), .int 0, .ref 178], (h.1, qm_up (qm_up (qm_up I43 176 hv.toInt.toNat v44) 172 hv.toInt.toNat 2) 175 hv.toInt.toNat v9, h.2.2.1, h.2.2.2))) rfl ?_
            refine hp_ias rfl (hH.1 178 (0, 2) rfl) (fun ia_47 ib_47 => ?_)
            refine qm_Rp.go 1 (c' := (246, [.ref 118, .int 0, .int hv, .float 0], [.ref 118], (h.1, qm_up (qm_up (qm_up (qm_up I43 176 hv.toInt.toNat v44) 172 hv.toInt.toNat 2) 175 hv.toInt.toNat v9) 178 0 (-1), h.2.2.1, h.2.2.2))) rfl ?_
            refine hp_getr rfl (hH.1 118 (17, 105) rfl) rfl (hH.2 118 88 (some 179) rfl) ?_
            refine qm_Rp.go 2 (c' := (251, [.ref 118, .int 0, .int hv, .float 0], [.int 0, .int 0, .ref 179], (h.1, qm_up (qm_up (qm_up (qm_up I43 176 hv.toInt.toNat v44) 172 hv.toInt.toNat 2) 175 hv.toInt.toNat v9) 178 0 (-1), h.2.2.1, h.2.2.2))) rfl ?_
            refine hp_ias rfl (hH.1 179 (0, 2) rfl) (fun ia_48 ib_48 => ?_)
            refine qm_Rp.go 1 (c' := (253, [.ref 118, .int 0, .int hv, .float 0], [.ref 118], (h.1, qm_up (qm_up (qm_up (qm_up (qm_up I43 176 hv.toInt.toNat v44) 172 hv.toInt.toNat 2) 175 hv.toInt.toNat v9) 178 0 (-1)) 179 0 0, h.2.2.1, h.2.2.2))) rfl ?_
            refine hp_getr rfl (hH.1 118 (17, 105) rfl) rfl (hH.2 118 90 (some 181) rfl) ?_
            refine qm_Rp.go 2 (c' := (258, [.ref 118, .int 0, .int hv, .float 0], [.int 0, .ref 181, .int 0, .ref 181], (h.1, qm_up (qm_up (qm_up (qm_up (qm_up I43 176 hv.toInt.toNat v44) 172 hv.toInt.toNat 2) 175 hv.toInt.toNat v9) 178 0 (-1)) 179 0 0, h.2.2.1, h.2.2.2))) rfl ?_
            obtain ⟨v50, q_v50⟩ : ∃ v_, h.2.1 181 0 = v_ := ⟨_, rfl⟩
            refine hp_ial (v := v50) rfl (hH.1 181 (0, 2) rfl) (show (qm_up (qm_up (qm_up (qm_up (qm_up I43 176 hv.toInt.toNat v44) 172 hv.toInt.toNat 2) 175 hv.toInt.toNat v9) 178 0 (-1)) 179 0 0) 181 0 = _ from ((hk_ot rfl).trans ((hk_ot rfl).trans ((hk_ot rfl).trans ((hk_ot rfl).trans ((hk_ot rfl).trans ((f_I43 181 rfl 0).trans ((hk_ot rfl).trans q_v50)))))))) (fun ia_50 ib_50 => ?_)
            refine qm_Rp.go 2 (c' := (261, [.ref 118, .int 0, .int hv, .float 0], [.int (v50 + 1), .int 0, .ref 181], (h.1, qm_up (qm_up (qm_up (qm_up (qm_up I43 176 hv.toInt.toNat v44) 172 hv.toInt.toNat 2) 175 hv.toInt.toNat v9) 178 0 (-1)) 179 0 0, h.2.2.1, h.2.2.2))) rfl ?_
            obtain ⟨v52, q_v52⟩ : ∃ v_, (v50 + 1) = v_ := ⟨_, rfl⟩
            rw [q_v52]
            refine hp_ias rfl (hH.1 181 (0, 2) rfl) (fun ia_52 ib_52 => ?_)
            refine qm_Rp.go 1 (c' := (263, [.ref 118, .int 0, .int hv, .float 0], [.int 1], (h.1, qm_up (qm_up (qm_up (qm_up (qm_up (qm_up I43 176 hv.toInt.toNat v44) 172 hv.toInt.toNat 2) 175 hv.toInt.toNat v9) 178 0 (-1)) 179 0 0) 181 0 v52, h.2.2.1, h.2.2.2))) rfl ?_
            refine qm_Rp.rt (v := (some (.int 1))) (h' := (h.1, qm_up (qm_up (qm_up (qm_up (qm_up (qm_up I43 176 hv.toInt.toNat v44) 172 hv.toInt.toNat 2) 175 hv.toInt.toNat v9) 178 0 (-1)) 179 0 0) 181 0 v52, h.2.2.1, h.2.2.2)) rfl ?_
            have e := jGo_f (s := 1) (A := A) (K := h.2.1) (c := 0) (by rw [q_hv]; omega) (by rw [q_v4, q_hv, q_v6]; exact hk_eqi.mpr (by omega)) (fun z => by unfold jWn at z; rw [q_v10, q_v9, q_v11] at z; omega) (by rw [q_v13, q_v15]; omega)
            have eR : jRe 1 A h.2.1 hv.toInt.toNat = v44.toInt := by unfold jRe; rw [q_v19, q_v38, q_v6, q_v41, okb_t (show v19.toInt = 0 by omega)]; exact e_v44.symm
            have eS : zR (jSh 1 A h.2.1 hv.toInt.toNat) I43 := by unfold jSh; rw [q_v19, q_v38, q_v6, q_v41, okb_t (show v19.toInt = 0 by omega)]; exact zr_I43
            rw [q_hv, eR, Int32.ofInt_toInt] at e
            have e2 : jEq (jFi h.2.1 0 hv.toInt.toNat v44) (qm_up (qm_up (qm_up (qm_up (qm_up (qm_up I43 176 hv.toInt.toNat v44) 172 hv.toInt.toNat 2) 175 hv.toInt.toNat v9) 178 0 (-1)) 179 0 0) 181 0 v52) := by
              unfold jFi
              rw [q_v13, q_v15, q_v9, q_v50, q_v52]
              exact jEq_up (jEq_up (jEq_up (jEq_up (jEq_up (jEq_up (jEq_fr jEq_rf f_I43 (by decide)))))))
            refine k (qm_up (qm_up (qm_up (qm_up (qm_up (qm_up I43 176 hv.toInt.toNat v44) 172 hv.toInt.toNat 2) 175 hv.toInt.toNat v9) 178 0 (-1)) 179 0 0) 181 0 v52) 1 (fun o ho i => ((hk_mod ho rfl).trans ((hk_mod ho rfl).trans ((hk_mod ho rfl).trans ((hk_mod ho rfl).trans ((hk_mod ho rfl).trans ((hk_mod ho rfl).trans ((f_I43 o (hk_ms rfl ho) i).trans ((hk_mod ho rfl).trans rfl))))))))) (by rw [e]; exact zR_j eS (fun o ho i => ((hk_mod ho rfl).trans ((hk_mod ho rfl).trans ((hk_mod ho rfl).trans ((hk_mod ho rfl).trans ((hk_mod ho rfl).trans ((hk_mod ho rfl).trans rfl)))))))) (by rw [e]; exact e2) (Or.inl ⟨rfl, ?_, ?_⟩)
            · rw [q_v50, q_v52]; exact hk_same
            · exact ((hk_neq (by decide)).trans ((hk_ot rfl).trans ((hk_ot rfl).trans ((hk_ot rfl).trans ((hk_ot rfl).trans ((hk_ot rfl).trans ((f_I43 181 rfl 1).trans ((hk_ot rfl).trans rfl))))))))
        · refine qm_Rp.go 1 (c' := (158, [.ref 118, .int 0, .int hv, .float 0], [.int 0], (h.1, qm_up h.2.1 179 0 v15, h.2.2.1, h.2.2.2))) rfl ?_
          refine qm_Rp.rt (v := (some (.int 0))) (h' := (h.1, qm_up h.2.1 179 0 v15, h.2.2.1, h.2.2.2)) rfl ?_
          have e := jGo_l (s := 1) (A := A) (K := h.2.1) (c := 0) (by rw [q_hv]; omega) (by rw [q_v4, q_hv, q_v6]; exact hk_eqi.mpr (by omega)) (fun z => by unfold jWn at z; rw [q_v10, q_v9, q_v11] at z; omega) (by rw [q_v13, q_v15]; omega)
          have e2 : jLi h.2.1 0 = qm_up h.2.1 179 0 v15 := by unfold jLi; rw [q_v13, q_v15]
          exact k (qm_up h.2.1 179 0 v15) 0 (fun o ho i => ((hk_mod ho rfl).trans rfl)) (by rw [e]; exact zR_j hr (fun o ho i => ((hk_mod ho rfl).trans rfl))) (by rw [e]; show jEq (jLi h.2.1 0) _; rw [e2]; exact jEq_rf) (Or.inr ⟨rfl, fun i => ((hk_ot rfl).trans rfl)⟩)
      · refine qm_Rp.go 2 (c' := (7, [.int v9, .int v10, .int v11], [.int v11, .int v9], h)) rfl ?_
        refine hp_cgt (ix := v9.toInt) (iy := v11.toInt) rfl rfl rfl (fun z54 => ?_) (fun z54 => ?_)
        · refine qm_Rp.go 1 (c' := (15, [.int v9, .int v10, .int v11], [.int 0], h)) rfl ?_
          refine qm_Rp.rt (v := (some (.int 0))) (h' := h) rfl ?_
          refine qm_Rp.go 2 (c' := (138, [.ref 118, .int 0, .int hv, .float 0], [.ref 118], h)) rfl ?_
          refine hp_getr rfl (hH.1 118 (17, 105) rfl) rfl (hH.2 118 88 (some 179) rfl) ?_
          refine qm_Rp.go 2 (c' := (143, [.ref 118, .int 0, .int hv, .float 0], [.int 0, .ref 179, .int 0, .ref 179], h)) rfl ?_
          obtain ⟨v55, q_v55⟩ : ∃ v_, h.2.1 179 0 = v_ := ⟨_, rfl⟩
          have b_v55 : (0 : Int) ≤ v55.toInt ∧ v55.toInt ≤ 1 := by rw [← q_v55]; exact b179
          refine hp_ial (v := v55) rfl (hH.1 179 (0, 2) rfl) q_v55 (fun ia_55 ib_55 => ?_)
          refine qm_Rp.go 2 (c' := (146, [.ref 118, .int 0, .int hv, .float 0], [.int (v55 + 1), .int 0, .ref 179], h)) rfl ?_
          obtain ⟨v57, q_v57, e_v57⟩ := hk_add (x := v55) (y := 1) (a := v55.toInt) (b := 1) rfl rfl (by omega) (by omega)
          rw [q_v57]
          refine hp_ias rfl (hH.1 179 (0, 2) rfl) (fun ia_57 ib_57 => ?_)
          refine qm_Rp.go 1 (c' := (148, [.ref 118, .int 0, .int hv, .float 0], [.ref 118], (h.1, qm_up h.2.1 179 0 v57, h.2.2.1, h.2.2.2))) rfl ?_
          refine hp_getr rfl (hH.1 118 (17, 105) rfl) rfl (hH.2 118 88 (some 179) rfl) ?_
          refine qm_Rp.go 1 (c' := (152, [.ref 118, .int 0, .int hv, .float 0], [.int 0, .ref 179], (h.1, qm_up h.2.1 179 0 v57, h.2.2.1, h.2.2.2))) rfl ?_
          refine hp_ial (v := v57) rfl (hH.1 179 (0, 2) rfl) (show (qm_up h.2.1 179 0 v57) 179 0 = _ from (hk_same)) (fun ia_58 ib_58 => ?_)
          refine qm_Rp.go 1 (c' := (154, [.ref 118, .int 0, .int hv, .float 0], [.int 2, .int v57], (h.1, qm_up h.2.1 179 0 v57, h.2.2.1, h.2.2.2))) rfl ?_
          refine hp_cge (ix := v57.toInt) (iy := 2) rfl rfl rfl (fun z60 => ?_) (fun z60 => ?_)
          · refine qm_Rp.go 1 (c' := (160, [.ref 118, .int 0, .int hv, .float 0], [.ref 118], (h.1, qm_up h.2.1 179 0 v57, h.2.2.1, h.2.2.2))) rfl ?_
            refine hp_getr rfl (hH.1 118 (17, 105) rfl) rfl (hH.2 118 84 (some 176) rfl) ?_
            refine qm_Rp.go 2 (c' := (165, [.ref 118, .int 0, .int hv, .float 0], [.ref 118, .int hv, .ref 176], (h.1, qm_up h.2.1 179 0 v57, h.2.2.1, h.2.2.2))) rfl ?_
            refine hp_getr rfl (hH.1 118 (17, 105) rfl) rfl (hH.2 118 76 (some 168) rfl) ?_
            refine qm_Rp.go 1 (c' := (169, [.ref 118, .int 0, .int hv, .float 0], [.int hv, .ref 168, .int hv, .ref 176], (h.1, qm_up h.2.1 179 0 v57, h.2.2.1, h.2.2.2))) rfl ?_
            obtain ⟨v61, q_v61⟩ : ∃ v_, h.2.1 168 hv.toInt.toNat = v_ := ⟨_, rfl⟩
            refine hp_ial (v := v61) rfl (hH.1 168 (0, 40) rfl) (show (qm_up h.2.1 179 0 v57) 168 hv.toInt.toNat = _ from ((hk_ot rfl).trans q_v61)) (fun ia_61 ib_61 => ?_)
            refine qm_Rp.go 0 (c' := (170, [.ref 118, .int 0, .int hv, .float 0], [.int v61, .int hv, .ref 176], (h.1, qm_up h.2.1 179 0 v57, h.2.2.1, h.2.2.2))) rfl ?_
            refine hp_zne (ix := v61.toInt) rfl rfl (fun z63 => ?_) (fun z63 => ?_)
            · refine qm_Rp.go 2 (c' := (200, [.ref 118, .int 0, .int hv, .float 0], [.ref 118, .ref 118, .int hv, .ref 176], (h.1, qm_up h.2.1 179 0 v57, h.2.2.1, h.2.2.2))) rfl ?_
              refine hp_getr rfl (hH.1 118 (17, 105) rfl) rfl (hH.2 118 78 (some 170) rfl) ?_
              refine qm_Rp.go 1 (c' := (204, [.ref 118, .int 0, .int hv, .float 0], [.int hv, .ref 170, .ref 118, .int hv, .ref 176], (h.1, qm_up h.2.1 179 0 v57, h.2.2.1, h.2.2.2))) rfl ?_
              refine hp_ial (v := v6) rfl (hH.1 170 (0, 40) rfl) (show (qm_up h.2.1 179 0 v57) 170 hv.toInt.toNat = _ from ((hk_ot rfl).trans q_v6)) (fun ia_63 ib_63 => ?_)
              refine qm_Rp.go 1 (c' := (206, [.ref 118, .int 0, .int hv, .float 0], [.ref 118, .int v6, .ref 118, .int hv, .ref 176], (h.1, qm_up h.2.1 179 0 v57, h.2.2.1, h.2.2.2))) rfl ?_
              refine hp_getr rfl (hH.1 118 (17, 105) rfl) rfl (hH.2 118 79 (some 171) rfl) ?_
              refine qm_Rp.go 1 (c' := (210, [.ref 118, .int 0, .int hv, .float 0], [.int hv, .ref 171, .int v6, .ref 118, .int hv, .ref 176], (h.1, qm_up h.2.1 179 0 v57, h.2.2.1, h.2.2.2))) rfl ?_
              obtain ⟨v65, q_v65⟩ : ∃ v_, h.2.1 171 hv.toInt.toNat = v_ := ⟨_, rfl⟩
              refine hp_ial (v := v65) rfl (hH.1 171 (0, 40) rfl) (show (qm_up h.2.1 179 0 v57) 171 hv.toInt.toNat = _ from ((hk_ot rfl).trans q_v65)) (fun ia_65 ib_65 => ?_)
              refine qm_Rp.go 1 (c' := (212, [.ref 118, .int 0, .int hv, .float 0], [.ref 118, .int v65, .int v6, .ref 118, .int hv, .ref 176], (h.1, qm_up h.2.1 179 0 v57, h.2.2.1, h.2.2.2))) rfl ?_
              refine hp_getr rfl (hH.1 118 (17, 105) rfl) rfl (hH.2 118 77 (some 169) rfl) ?_
              refine qm_Rp.go 1 (c' := (216, [.ref 118, .int 0, .int hv, .float 0], [.int hv, .ref 169, .int v65, .int v6, .ref 118, .int hv, .ref 176], (h.1, qm_up h.2.1 179 0 v57, h.2.2.1, h.2.2.2))) rfl ?_
              obtain ⟨v67, q_v67⟩ : ∃ v_, h.2.1 169 hv.toInt.toNat = v_ := ⟨_, rfl⟩
              refine hp_ial (v := v67) rfl (hH.1 169 (0, 40) rfl) (show (qm_up h.2.1 179 0 v57) 169 hv.toInt.toNat = _ from ((hk_ot rfl).trans q_v67)) (fun ia_67 ib_67 => ?_)
              refine qm_Rp.go 0 (c' := (217, [.ref 118, .int 0, .int hv, .float 0], [.int v67, .int v65, .int v6, .ref 118, .int hv, .ref 176], (h.1, qm_up h.2.1 179 0 v57, h.2.2.1, h.2.2.2))) rfl ?_
              refine hp_inv (o := 118) (r := [.int hv, .ref 176]) (as := [.ref 118, .int v6, .int v65, .int v67]) rfl rfl (hH.1 118 (17, 105) rfl) rfl rfl rfl (pz_runl1 (h := (h.1, qm_up h.2.1 179 0 v57, h.2.2.1, h.2.2.2)) hH hP.1 (zR_j hr (fun o ho i => ((hk_mod ho rfl).trans rfl))) hP.2.2.1 (fun I69 v70 f_I69 zr_I69 e_v70 => ?_))
              have f_I69 : ∀ o, [150, 151, 152, 153, 154, 155, 156].contains o = false → ∀ i, I69 o i = (qm_up h.2.1 179 0 v57) o i := f_I69
              refine qm_Rp.go 0 (c' := (220, [.ref 118, .int 0, .int hv, .float 0], [.int v70, .int hv, .ref 176], (h.1, I69, h.2.2.1, h.2.2.2))) rfl ?_
              refine hp_ias rfl (hH.1 176 (0, 40) rfl) (fun ia_70 ib_70 => ?_)
              refine qm_Rp.go 1 (c' := (222, [.ref 118, .int 0, .int hv, .float 0], [.ref 118], (h.1, qm_up I69 176 hv.toInt.toNat v70, h.2.2.1, h.2.2.2))) rfl ?_
              refine hp_getr rfl (hH.1 118 (17, 105) rfl) rfl (hH.2 118 80 (some 172) rfl) ?_
              refine qm_Rp.go 2 (c' := (227, [.ref 118, .int 0, .int hv, .float 0], [.int 2, .int hv, .ref 172], (h.1, qm_up I69 176 hv.toInt.toNat v70, h.2.2.1, h.2.2.2))) rfl ?_
              refine hp_ias rfl (hH.1 172 (0, 40) rfl) (fun ia_71 ib_71 => ?_)
              refine qm_Rp.go 1 (c' := (229, [.ref 118, .int 0, .int hv, .float 0], [.ref 118], (h.1, qm_up (qm_up I69 176 hv.toInt.toNat v70) 172 hv.toInt.toNat 2, h.2.2.1, h.2.2.2))) rfl ?_
              refine hp_getr rfl (hH.1 118 (17, 105) rfl) rfl (hH.2 118 83 (some 175) rfl) ?_
              refine qm_Rp.go 2 (c' := (234, [.ref 118, .int 0, .int hv, .float 0], [.ref 118, .int hv, .ref 175], (h.1, qm_up (qm_up I69 176 hv.toInt.toNat v70) 172 hv.toInt.toNat 2, h.2.2.1, h.2.2.2))) rfl ?_
              refine hp_geti (v := v9) rfl (hH.1 118 (17, 105) rfl) rfl (show (qm_up (qm_up I69 176 hv.toInt.toNat v70) 172 hv.toInt.toNat 2) 118 85 = _ from ((hk_ot rfl).trans ((hk_ot rfl).trans ((f_I69 118 rfl 85).trans ((hk_ot rfl).trans q_v9))))) ?_
              refine qm_Rp.go 0 (c' := (237, [.ref 118, .int 0, .int hv, .float 0], [.int v9, .int hv, .ref 175], (h.1, qm_up (qm_up I69 176 hv.toInt.toNat v70) 172 hv.toInt.toNat 2, h.2.2.1, h.2.2.2))) rfl ?_
              refine hp_ias rfl (hH.1 175 (0, 40) rfl) (fun ia_72 ib_72 => ?_)
              refine qm_Rp.go 1 (c' := (239, [.ref 118, .int 0, .int hv, .float 0], [.ref 118], (h.1, qm_up (qm_up (qm_up I69 176 hv.toInt.toNat v70) 172 hv.toInt.toNat 2) 175 hv.toInt.toNat v9, h.2.2.1, h.2.2.2))) rfl ?_
              refine hp_getr rfl (hH.1 118 (17, 105) rfl) rfl (hH.2 118 87 (some 178) rfl) ?_
              refine qm_Rp.go 2 (c' := (244, [.ref 118, .int 0, .int hv, .float 0], [.int (-1), .int 0, .ref 178], (h.1, qm_up (qm_up (qm_up I69 176 hv.toInt.toNat v70) 172 hv.toInt.toNat 2) 175 hv.toInt.toNat v9, h.2.2.1, h.2.2.2))) rfl ?_
              refine hp_ias rfl (hH.1 178 (0, 2) rfl) (fun ia_73 ib_73 => ?_)
              refine qm_Rp.go 1 (c' := (246, [.ref 118, .int 0, .int hv, .float 0], [.ref 118], (h.1, qm_up (qm_up (qm_up (qm_up I69 176 hv.toInt.toNat v70) 172 hv.toInt.toNat 2) 175 hv.toInt.toNat v9) 178 0 (-1), h.2.2.1, h.2.2.2))) rfl ?_
              refine hp_getr rfl (hH.1 118 (17, 105) rfl) rfl (hH.2 118 88 (some 179) rfl) ?_
              refine qm_Rp.go 2 (c' := (251, [.ref 118, .int 0, .int hv, .float 0], [.int 0, .int 0, .ref 179], (h.1, qm_up (qm_up (qm_up (qm_up I69 176 hv.toInt.toNat v70) 172 hv.toInt.toNat 2) 175 hv.toInt.toNat v9) 178 0 (-1), h.2.2.1, h.2.2.2))) rfl ?_
              refine hp_ias rfl (hH.1 179 (0, 2) rfl) (fun ia_74 ib_74 => ?_)
              refine qm_Rp.go 1 (c' := (253, [.ref 118, .int 0, .int hv, .float 0], [.ref 118], (h.1, qm_up (qm_up (qm_up (qm_up (qm_up I69 176 hv.toInt.toNat v70) 172 hv.toInt.toNat 2) 175 hv.toInt.toNat v9) 178 0 (-1)) 179 0 0, h.2.2.1, h.2.2.2))) rfl ?_
              refine hp_getr rfl (hH.1 118 (17, 105) rfl) rfl (hH.2 118 90 (some 181) rfl) ?_
              refine qm_Rp.go 2 (c' := (258, [.ref 118, .int 0, .int hv, .float 0], [.int 0, .ref 181, .int 0, .ref 181], (h.1, qm_up (qm_up (qm_up (qm_up (qm_up I69 176 hv.toInt.toNat v70) 172 hv.toInt.toNat 2) 175 hv.toInt.toNat v9) 178 0 (-1)) 179 0 0, h.2.2.1, h.2.2.2))) rfl ?_
              obtain ⟨v76, q_v76⟩ : ∃ v_, h.2.1 181 0 = v_ := ⟨_, rfl⟩
              refine hp_ial (v := v76) rfl (hH.1 181 (0, 2) rfl) (show (qm_up (qm_up (qm_up (qm_up (qm_up I69 176 hv.toInt.toNat v70) 172 hv.toInt.toNat 2) 175 hv.toInt.toNat v9) 178 0 (-1)) 179 0 0) 181 0 = _ from ((hk_ot rfl).trans ((hk_ot rfl).trans ((hk_ot rfl).trans ((hk_ot rfl).trans ((hk_ot rfl).trans ((f_I69 181 rfl 0).trans ((hk_ot rfl).trans q_v76)))))))) (fun ia_76 ib_76 => ?_)
              refine qm_Rp.go 2 (c' := (261, [.ref 118, .int 0, .int hv, .float 0], [.int (v76 + 1), .int 0, .ref 181], (h.1, qm_up (qm_up (qm_up (qm_up (qm_up I69 176 hv.toInt.toNat v70) 172 hv.toInt.toNat 2) 175 hv.toInt.toNat v9) 178 0 (-1)) 179 0 0, h.2.2.1, h.2.2.2))) rfl ?_
              obtain ⟨v78, q_v78⟩ : ∃ v_, (v76 + 1) = v_ := ⟨_, rfl⟩
              rw [q_v78]
              refine hp_ias rfl (hH.1 181 (0, 2) rfl) (fun ia_78 ib_78 => ?_)
              refine qm_Rp.go 1 (c' := (263, [.ref 118, .int 0, .int hv, .float 0], [.int 1], (h.1, qm_up (qm_up (qm_up (qm_up (qm_up (qm_up I69 176 hv.toInt.toNat v70) 172 hv.toInt.toNat 2) 175 hv.toInt.toNat v9) 178 0 (-1)) 179 0 0) 181 0 v78, h.2.2.1, h.2.2.2))) rfl ?_
              refine qm_Rp.rt (v := (some (.int 1))) (h' := (h.1, qm_up (qm_up (qm_up (qm_up (qm_up (qm_up I69 176 hv.toInt.toNat v70) 172 hv.toInt.toNat 2) 175 hv.toInt.toNat v9) 178 0 (-1)) 179 0 0) 181 0 v78, h.2.2.1, h.2.2.2)) rfl ?_
              have e := jGo_f (s := 1) (A := A) (K := h.2.1) (c := 0) (by rw [q_hv]; omega) (by rw [q_v4, q_hv, q_v6]; exact hk_eqi.mpr (by omega)) (fun z => by unfold jWn at z; rw [q_v10, q_v9, q_v11] at z; omega) (by rw [q_v55, q_v57]; omega)
              have eR : jRe 1 A h.2.1 hv.toInt.toNat = v70.toInt := by unfold jRe; rw [q_v61, q_v67, q_v6, q_v65, okb_f (show ¬ v61.toInt = 0 by omega)]; exact e_v70.symm
              have eS : zR (jSh 1 A h.2.1 hv.toInt.toNat) I69 := by unfold jSh; rw [q_v61, q_v67, q_v6, q_v65, okb_f (show ¬ v61.toInt = 0 by omega)]; exact zr_I69
              rw [q_hv, eR, Int32.ofInt_toInt] at e
              have e2 : jEq (jFi h.2.1 0 hv.toInt.toNat v70) (qm_up (qm_up (qm_up (qm_up (qm_up (qm_up I69 176 hv.toInt.toNat v70) 172 hv.toInt.toNat 2) 175 hv.toInt.toNat v9) 178 0 (-1)) 179 0 0) 181 0 v78) := by
                unfold jFi
                rw [q_v55, q_v57, q_v9, q_v76, q_v78]
                exact jEq_up (jEq_up (jEq_up (jEq_up (jEq_up (jEq_up (jEq_fr jEq_rf f_I69 (by decide)))))))
              refine k (qm_up (qm_up (qm_up (qm_up (qm_up (qm_up I69 176 hv.toInt.toNat v70) 172 hv.toInt.toNat 2) 175 hv.toInt.toNat v9) 178 0 (-1)) 179 0 0) 181 0 v78) 1 (fun o ho i => ((hk_mod ho rfl).trans ((hk_mod ho rfl).trans ((hk_mod ho rfl).trans ((hk_mod ho rfl).trans ((hk_mod ho rfl).trans ((hk_mod ho rfl).trans ((f_I69 o (hk_ms rfl ho) i).trans ((hk_mod ho rfl).trans rfl))))))))) (by rw [e]; exact zR_j eS (fun o ho i => ((hk_mod ho rfl).trans ((hk_mod ho rfl).trans ((hk_mod ho rfl).trans ((hk_mod ho rfl).trans ((hk_mod ho rfl).trans ((hk_mod ho rfl).trans rfl)))))))) (by rw [e]; exact e2) (Or.inl ⟨rfl, ?_, ?_⟩)
              · rw [q_v76, q_v78]; exact hk_same
              · exact ((hk_neq (by decide)).trans ((hk_ot rfl).trans ((hk_ot rfl).trans ((hk_ot rfl).trans ((hk_ot rfl).trans ((hk_ot rfl).trans ((f_I69 181 rfl 1).trans ((hk_ot rfl).trans rfl))))))))
            · refine qm_Rp.go 2 (c' := (175, [.ref 118, .int 0, .int hv, .float 0], [.ref 118, .ref 118, .int hv, .ref 176], (h.1, qm_up h.2.1 179 0 v57, h.2.2.1, h.2.2.2))) rfl ?_
              refine hp_getr rfl (hH.1 118 (17, 105) rfl) rfl (hH.2 118 77 (some 169) rfl) ?_
              refine qm_Rp.go 1 (c' := (179, [.ref 118, .int 0, .int hv, .float 0], [.int hv, .ref 169, .ref 118, .int hv, .ref 176], (h.1, qm_up h.2.1 179 0 v57, h.2.2.1, h.2.2.2))) rfl ?_
              obtain ⟨v80, q_v80⟩ : ∃ v_, h.2.1 169 hv.toInt.toNat = v_ := ⟨_, rfl⟩
              refine hp_ial (v := v80) rfl (hH.1 169 (0, 40) rfl) (show (qm_up h.2.1 179 0 v57) 169 hv.toInt.toNat = _ from ((hk_ot rfl).trans q_v80)) (fun ia_80 ib_80 => ?_)
              refine qm_Rp.go 1 (c' := (181, [.ref 118, .int 0, .int hv, .float 0], [.ref 118, .int v80, .ref 118, .int hv, .ref 176], (h.1, qm_up h.2.1 179 0 v57, h.2.2.1, h.2.2.2))) rfl ?_
              refine hp_getr rfl (hH.1 118 (17, 105) rfl) rfl (hH.2 118 78 (some 170) rfl) ?_
              refine qm_Rp.go 1 (c' := (185, [.ref 118, .int 0, .int hv, .float 0], [.int hv, .ref 170, .int v80, .ref 118, .int hv, .ref 176], (h.1, qm_up h.2.1 179 0 v57, h.2.2.1, h.2.2.2))) rfl ?_
              refine hp_ial (v := v6) rfl (hH.1 170 (0, 40) rfl) (show (qm_up h.2.1 179 0 v57) 170 hv.toInt.toNat = _ from ((hk_ot rfl).trans q_v6)) (fun ia_81 ib_81 => ?_)
              refine qm_Rp.go 1 (c' := (187, [.ref 118, .int 0, .int hv, .float 0], [.ref 118, .int v6, .int v80, .ref 118, .int hv, .ref 176], (h.1, qm_up h.2.1 179 0 v57, h.2.2.1, h.2.2.2))) rfl ?_
              refine hp_getr rfl (hH.1 118 (17, 105) rfl) rfl (hH.2 118 79 (some 171) rfl) ?_
              refine qm_Rp.go 1 (c' := (191, [.ref 118, .int 0, .int hv, .float 0], [.int hv, .ref 171, .int v6, .int v80, .ref 118, .int hv, .ref 176], (h.1, qm_up h.2.1 179 0 v57, h.2.2.1, h.2.2.2))) rfl ?_
              obtain ⟨v83, q_v83⟩ : ∃ v_, h.2.1 171 hv.toInt.toNat = v_ := ⟨_, rfl⟩
              refine hp_ial (v := v83) rfl (hH.1 171 (0, 40) rfl) (show (qm_up h.2.1 179 0 v57) 171 hv.toInt.toNat = _ from ((hk_ot rfl).trans q_v83)) (fun ia_83 ib_83 => ?_)
              refine qm_Rp.go 0 (c' := (192, [.ref 118, .int 0, .int hv, .float 0], [.int v83, .int v6, .int v80, .ref 118, .int hv, .ref 176], (h.1, qm_up h.2.1 179 0 v57, h.2.2.1, h.2.2.2))) rfl ?_
              refine hp_inv (o := 118) (r := [.int hv, .ref 176]) (as := [.ref 118, .int v80, .int v6, .int v83]) rfl rfl (hH.1 118 (17, 105) rfl) rfl rfl rfl (pz_rload1 (h := (h.1, qm_up h.2.1 179 0 v57, h.2.2.1, h.2.2.2)) hH hP.1 (zR_j hr (fun o ho i => ((hk_mod ho rfl).trans rfl))) hP.2.2.1 (fun I85 v86 f_I85 zr_I85 e_v86 => ?_))
              have f_I85 : ∀ o, [150, 151, 152, 153, 154, 155, 156].contains o = false → ∀ i, I85 o i = (qm_up h.2.1 179 0 v57) o i := f_I85
              refine qm_Rp.go 1 (c' := (220, [.ref 118, .int 0, .int hv, .float 0], [.int v86, .int hv, .ref 176], (h.1, I85, h.2.2.1, h.2.2.2))) rfl ?_
              refine hp_ias rfl (hH.1 176 (0, 40) rfl) (fun ia_86 ib_86 => ?_)
              refine qm_Rp.go 1 (c' := (222, [.ref 118, .int 0, .int hv, .float 0], [.ref 118], (h.1, qm_up I85 176 hv.toInt.toNat v86, h.2.2.1, h.2.2.2))) rfl ?_
              refine hp_getr rfl (hH.1 118 (17, 105) rfl) rfl (hH.2 118 80 (some 172) rfl) ?_
              refine qm_Rp.go 2 (c' := (227, [.ref 118, .int 0, .int hv, .float 0], [.int 2, .int hv, .ref 172], (h.1, qm_up I85 176 hv.toInt.toNat v86, h.2.2.1, h.2.2.2))) rfl ?_
              refine hp_ias rfl (hH.1 172 (0, 40) rfl) (fun ia_87 ib_87 => ?_)
              refine qm_Rp.go 1 (c' := (229, [.ref 118, .int 0, .int hv, .float 0], [.ref 118], (h.1, qm_up (qm_up I85 176 hv.toInt.toNat v86) 172 hv.toInt.toNat 2, h.2.2.1, h.2.2.2))) rfl ?_
              refine hp_getr rfl (hH.1 118 (17, 105) rfl) rfl (hH.2 118 83 (some 175) rfl) ?_
              refine qm_Rp.go 2 (c' := (234, [.ref 118, .int 0, .int hv, .float 0], [.ref 118, .int hv, .ref 175], (h.1, qm_up (qm_up I85 176 hv.toInt.toNat v86) 172 hv.toInt.toNat 2, h.2.2.1, h.2.2.2))) rfl ?_
              refine hp_geti (v := v9) rfl (hH.1 118 (17, 105) rfl) rfl (show (qm_up (qm_up I85 176 hv.toInt.toNat v86) 172 hv.toInt.toNat 2) 118 85 = _ from ((hk_ot rfl).trans ((hk_ot rfl).trans ((f_I85 118 rfl 85).trans ((hk_ot rfl).trans q_v9))))) ?_
              refine qm_Rp.go 0 (c' := (237, [.ref 118, .int 0, .int hv, .float 0], [.int v9, .int hv, .ref 175], (h.1, qm_up (qm_up I85 176 hv.toInt.toNat v86) 172 hv.toInt.toNat 2, h.2.2.1, h.2.2.2))) rfl ?_
              refine hp_ias rfl (hH.1 175 (0, 40) rfl) (fun ia_88 ib_88 => ?_)
              refine qm_Rp.go 1 (c' := (239, [.ref 118, .int 0, .int hv, .float 0], [.ref 118], (h.1, qm_up (qm_up (qm_up I85 176 hv.toInt.toNat v86) 172 hv.toInt.toNat 2) 175 hv.toInt.toNat v9, h.2.2.1, h.2.2.2))) rfl ?_
              refine hp_getr rfl (hH.1 118 (17, 105) rfl) rfl (hH.2 118 87 (some 178) rfl) ?_
              refine qm_Rp.go 2 (c' := (244, [.ref 118, .int 0, .int hv, .float 0], [.int (-1), .int 0, .ref 178], (h.1, qm_up (qm_up (qm_up I85 176 hv.toInt.toNat v86) 172 hv.toInt.toNat 2) 175 hv.toInt.toNat v9, h.2.2.1, h.2.2.2))) rfl ?_
              refine hp_ias rfl (hH.1 178 (0, 2) rfl) (fun ia_89 ib_89 => ?_)
              refine qm_Rp.go 1 (c' := (246, [.ref 118, .int 0, .int hv, .float 0], [.ref 118], (h.1, qm_up (qm_up (qm_up (qm_up I85 176 hv.toInt.toNat v86) 172 hv.toInt.toNat 2) 175 hv.toInt.toNat v9) 178 0 (-1), h.2.2.1, h.2.2.2))) rfl ?_
              refine hp_getr rfl (hH.1 118 (17, 105) rfl) rfl (hH.2 118 88 (some 179) rfl) ?_
              refine qm_Rp.go 2 (c' := (251, [.ref 118, .int 0, .int hv, .float 0], [.int 0, .int 0, .ref 179], (h.1, qm_up (qm_up (qm_up (qm_up I85 176 hv.toInt.toNat v86) 172 hv.toInt.toNat 2) 175 hv.toInt.toNat v9) 178 0 (-1), h.2.2.1, h.2.2.2))) rfl ?_
              refine hp_ias rfl (hH.1 179 (0, 2) rfl) (fun ia_90 ib_90 => ?_)
              refine qm_Rp.go 1 (c' := (253, [.ref 118, .int 0, .int hv, .float 0], [.ref 118], (h.1, qm_up (qm_up (qm_up (qm_up (qm_up I85 176 hv.toInt.toNat v86) 172 hv.toInt.toNat 2) 175 hv.toInt.toNat v9) 178 0 (-1)) 179 0 0, h.2.2.1, h.2.2.2))) rfl ?_
              refine hp_getr rfl (hH.1 118 (17, 105) rfl) rfl (hH.2 118 90 (some 181) rfl) ?_
              refine qm_Rp.go 2 (c' := (258, [.ref 118, .int 0, .int hv, .float 0], [.int 0, .ref 181, .int 0, .ref 181], (h.1, qm_up (qm_up (qm_up (qm_up (qm_up I85 176 hv.toInt.toNat v86) 172 hv.toInt.toNat 2) 175 hv.toInt.toNat v9) 178 0 (-1)) 179 0 0, h.2.2.1, h.2.2.2))) rfl ?_
              obtain ⟨v92, q_v92⟩ : ∃ v_, h.2.1 181 0 = v_ := ⟨_, rfl⟩
              refine hp_ial (v := v92) rfl (hH.1 181 (0, 2) rfl) (show (qm_up (qm_up (qm_up (qm_up (qm_up I85 176 hv.toInt.toNat v86) 172 hv.toInt.toNat 2) 175 hv.toInt.toNat v9) 178 0 (-1)) 179 0 0) 181 0 = _ from ((hk_ot rfl).trans ((hk_ot rfl).trans ((hk_ot rfl).trans ((hk_ot rfl).trans ((hk_ot rfl).trans ((f_I85 181 rfl 0).trans ((hk_ot rfl).trans q_v92)))))))) (fun ia_92 ib_92 => ?_)
              refine qm_Rp.go 2 (c' := (261, [.ref 118, .int 0, .int hv, .float 0], [.int (v92 + 1), .int 0, .ref 181], (h.1, qm_up (qm_up (qm_up (qm_up (qm_up I85 176 hv.toInt.toNat v86) 172 hv.toInt.toNat 2) 175 hv.toInt.toNat v9) 178 0 (-1)) 179 0 0, h.2.2.1, h.2.2.2))) rfl ?_
              obtain ⟨v94, q_v94⟩ : ∃ v_, (v92 + 1) = v_ := ⟨_, rfl⟩
              rw [q_v94]
              refine hp_ias rfl (hH.1 181 (0, 2) rfl) (fun ia_94 ib_94 => ?_)
              refine qm_Rp.go 1 (c' := (263, [.ref 118, .int 0, .int hv, .float 0], [.int 1], (h.1, qm_up (qm_up (qm_up (qm_up (qm_up (qm_up I85 176 hv.toInt.toNat v86) 172 hv.toInt.toNat 2) 175 hv.toInt.toNat v9) 178 0 (-1)) 179 0 0) 181 0 v94, h.2.2.1, h.2.2.2))) rfl ?_
              refine qm_Rp.rt (v := (some (.int 1))) (h' := (h.1, qm_up (qm_up (qm_up (qm_up (qm_up (qm_up I85 176 hv.toInt.toNat v86) 172 hv.toInt.toNat 2) 175 hv.toInt.toNat v9) 178 0 (-1)) 179 0 0) 181 0 v94, h.2.2.1, h.2.2.2)) rfl ?_
              have e := jGo_f (s := 1) (A := A) (K := h.2.1) (c := 0) (by rw [q_hv]; omega) (by rw [q_v4, q_hv, q_v6]; exact hk_eqi.mpr (by omega)) (fun z => by unfold jWn at z; rw [q_v10, q_v9, q_v11] at z; omega) (by rw [q_v55, q_v57]; omega)
              have eR : jRe 1 A h.2.1 hv.toInt.toNat = v86.toInt := by unfold jRe; rw [q_v61, q_v80, q_v6, q_v83, okb_t (show v61.toInt = 0 by omega)]; exact e_v86.symm
              have eS : zR (jSh 1 A h.2.1 hv.toInt.toNat) I85 := by unfold jSh; rw [q_v61, q_v80, q_v6, q_v83, okb_t (show v61.toInt = 0 by omega)]; exact zr_I85
              rw [q_hv, eR, Int32.ofInt_toInt] at e
              have e2 : jEq (jFi h.2.1 0 hv.toInt.toNat v86) (qm_up (qm_up (qm_up (qm_up (qm_up (qm_up I85 176 hv.toInt.toNat v86) 172 hv.toInt.toNat 2) 175 hv.toInt.toNat v9) 178 0 (-1)) 179 0 0) 181 0 v94) := by
                unfold jFi
                rw [q_v55, q_v57, q_v9, q_v92, q_v94]
                exact jEq_up (jEq_up (jEq_up (jEq_up (jEq_up (jEq_up (jEq_fr jEq_rf f_I85 (by decide)))))))
              refine k (qm_up (qm_up (qm_up (qm_up (qm_up (qm_up I85 176 hv.toInt.toNat v86) 172 hv.toInt.toNat 2) 175 hv.toInt.toNat v9) 178 0 (-1)) 179 0 0) 181 0 v94) 1 (fun o ho i => ((hk_mod ho rfl).trans ((hk_mod ho rfl).trans ((hk_mod ho rfl).trans ((hk_mod ho rfl).trans ((hk_mod ho rfl).trans ((hk_mod ho rfl).trans ((f_I85 o (hk_ms rfl ho) i).trans ((hk_mod ho rfl).trans rfl))))))))) (by rw [e]; exact zR_j eS (fun o ho i => ((hk_mod ho rfl).trans ((hk_mod ho rfl).trans ((hk_mod ho rfl).trans ((hk_mod ho rfl).trans ((hk_mod ho rfl).trans ((hk_mod ho rfl).trans rfl)))))))) (by rw [e]; exact e2) (Or.inl ⟨rfl, ?_, ?_⟩)
              · rw [q_v92, q_v94]; exact hk_same
              · exact ((hk_neq (by decide)).trans ((hk_ot rfl).trans ((hk_ot rfl).trans ((hk_ot rfl).trans ((hk_ot rfl).trans ((hk_ot rfl).trans ((f_I85 181 rfl 1).trans ((hk_ot rfl).trans rfl))))))))
          · refine qm_Rp.go 1 (c' := (158, [.ref 118, .int 0, .int hv, .float 0], [.int 0], (h.1, qm_up h.2.1 179 0 v57, h.2.2.1, h.2.2.2))) rfl ?_
            refine qm_Rp.rt (v := (some (.int 0))) (h' := (h.1, qm_up h.2.1 179 0 v57, h.2.2.1, h.2.2.2)) rfl ?_
            have e := jGo_l (s := 1) (A := A) (K := h.2.1) (c := 0) (by rw [q_hv]; omega) (by rw [q_v4, q_hv, q_v6]; exact hk_eqi.mpr (by omega)) (fun z => by unfold jWn at z; rw [q_v10, q_v9, q_v11] at z; omega) (by rw [q_v55, q_v57]; omega)
            have e2 : jLi h.2.1 0 = qm_up h.2.1 179 0 v57 := by unfold jLi; rw [q_v55, q_v57]
            exact k (qm_up h.2.1 179 0 v57) 0 (fun o ho i => ((hk_mod ho rfl).trans rfl)) (by rw [e]; exact zR_j hr (fun o ho i => ((hk_mod ho rfl).trans rfl))) (by rw [e]; show jEq (jLi h.2.1 0) _; rw [e2]; exact jEq_rf) (Or.inr ⟨rfl, fun i => ((hk_ot rfl).trans rfl)⟩)
        · refine qm_Rp.go 2 (c' := (15, [.int v9, .int v10, .int v11], [.int 1], h)) rfl ?_
          refine qm_Rp.rt (v := (some (.int 1))) (h' := h) rfl ?_
          refine qm_Rp.go 2 (c' := (136, [.ref 118, .int 0, .int hv, .float 0], [.int 0], h)) rfl ?_
          refine qm_Rp.rt (v := (some (.int 0))) (h' := h) rfl ?_
          have e := jGo_w (s := 1) (A := A) (K := h.2.1) (c := 0) (by rw [q_hv]; omega) (by rw [q_v4, q_hv, q_v6]; exact hk_eqi.mpr (by omega)) (by unfold jWn; rw [q_v10, q_v9, q_v11]; omega)
          exact k h.2.1 0 (fun _ _ _ => rfl) (by rw [e]; exact hr) (by rw [e]; exact jEq_rf) (Or.inr ⟨rfl, fun _ => rfl⟩)
    · refine qm_Rp.go 1 (c' := (50, [.ref 118, .int 0, .int hv, .float 0], [.ref 118], h)) rfl ?_
      refine hp_getr rfl (hH.1 118 (17, 105) rfl) rfl (hH.2 118 86 (some 177) rfl) ?_
      refine qm_Rp.go 1 (c' := (54, [.ref 118, .int 0, .int hv, .float 0], [.int 0, .ref 177], h)) rfl ?_
      refine hp_ial (v := v4) rfl (hH.1 177 (0, 2) rfl) q_v4 (fun ia_95 ib_95 => ?_)
      refine qm_Rp.go 1 (c' := (56, [.ref 118, .int 0, .int hv, .float 0], [.ref 118, .int v4], h)) rfl ?_
      refine hp_getr rfl (hH.1 118 (17, 105) rfl) rfl (hH.2 118 78 (some 170) rfl) ?_
      refine qm_Rp.go 1 (c' := (60, [.ref 118, .int 0, .int hv, .float 0], [.int hv, .ref 170, .int v4], h)) rfl ?_
      refine hp_ial (v := v6) rfl (hH.1 170 (0, 40) rfl) q_v6 (fun ia_96 ib_96 => ?_)
      refine qm_Rp.go 0 (c' := (61, [.ref 118, .int 0, .int hv, .float 0], [.int v6, .int v4], h)) rfl ?_
      refine hp_cge (ix := v4.toInt) (iy := v6.toInt) rfl rfl rfl (fun z98 => ?_) (fun z98 => ?_)
      · refine qm_Rp.go 1 (c' := (76, [.ref 118, .int 0, .int hv, .float 0], [.ref 118], h)) rfl ?_
        refine hp_getr rfl (hH.1 118 (17, 105) rfl) rfl (hH.2 118 86 (some 177) rfl) ?_
        refine qm_Rp.go 1 (c' := (80, [.ref 118, .int 0, .int hv, .float 0], [.int 0, .ref 177], h)) rfl ?_
        refine hp_ial (v := v4) rfl (hH.1 177 (0, 2) rfl) q_v4 (fun ia_98 ib_98 => ?_)
        refine qm_Rp.go 2 (c' := (83, [.ref 118, .int 0, .int hv, .float 0], [.int (v4 - 1)], h)) rfl ?_
        obtain ⟨v100, q_v100, e_v100⟩ := hk_sub (x := v4) (y := 1) (a := v4.toInt) (b := 1) rfl rfl (by omega) (by omega)
        rw [q_v100]
        refine qm_Rp.go 3 (c' := (86, [.ref 118, .int 0, .int hv, .int v100], [.ref 118, .int v100], h)) rfl ?_
        refine hp_getr rfl (hH.1 118 (17, 105) rfl) rfl (hH.2 118 86 (some 177) rfl) ?_
        refine qm_Rp.go 3 (c' := (92, [.ref 118, .int 0, .int hv, .int v100], [.int 1, .ref 177, .int v100], h)) rfl ?_
        obtain ⟨v101, q_v101⟩ : ∃ v_, h.2.1 177 1 = v_ := ⟨_, rfl⟩
        have b_v101 : (-1 : Int) ≤ v101.toInt ∧ v101.toInt ≤ 4 := by rw [← q_v101]; exact b177 1 (by decide)
        refine hp_ial (v := v101) rfl (hH.1 177 (0, 2) rfl) q_v101 (fun ia_101 ib_101 => ?_)
        refine qm_Rp.go 0 (c' := (93, [.ref 118, .int 0, .int hv, .int v100], [.int v101, .int v100], h)) rfl ?_
        refine hp_cne (ix := v100.toInt) (iy := v101.toInt) rfl rfl rfl (fun z103 => ?_) (fun z103 => ?_)
        · refine qm_Rp.go 1 (c' := (99, [.ref 118, .int 0, .int hv, .int v100], [.ref 118], h)) rfl ?_
          refine hp_getr rfl (hH.1 118 (17, 105) rfl) rfl (hH.2 118 86 (some 177) rfl) ?_
          refine qm_Rp.go 2 (c' := (104, [.ref 118, .int 0, .int hv, .int v100], [.int v100, .int 0, .ref 177], h)) rfl ?_
          refine hp_ias rfl (hH.1 177 (0, 2) rfl) (fun ia_103 ib_103 => ?_)
          refine qm_Rp.go 1 (c' := (106, [.ref 118, .int 0, .int hv, .int v100], [.ref 118], (h.1, qm_up h.2.1 177 0 v100, h.2.2.1, h.2.2.2))) rfl ?_
          refine hp_getr rfl (hH.1 118 (17, 105) rfl) rfl (hH.2 118 89 (some 180) rfl) ?_
          refine qm_Rp.go 2 (c' := (111, [.ref 118, .int 0, .int hv, .int v100], [.int 0, .ref 180, .int 0, .ref 180], (h.1, qm_up h.2.1 177 0 v100, h.2.2.1, h.2.2.2))) rfl ?_
          obtain ⟨v105, q_v105⟩ : ∃ v_, h.2.1 180 0 = v_ := ⟨_, rfl⟩
          refine hp_ial (v := v105) rfl (hH.1 180 (0, 2) rfl) (show (qm_up h.2.1 177 0 v100) 180 0 = _ from ((hk_ot rfl).trans q_v105)) (fun ia_105 ib_105 => ?_)
          refine qm_Rp.go 2 (c' := (114, [.ref 118, .int 0, .int hv, .int v100], [.int (v105 + 1), .int 0, .ref 180], (h.1, qm_up h.2.1 177 0 v100, h.2.2.1, h.2.2.2))) rfl ?_
          obtain ⟨v107, q_v107⟩ : ∃ v_, (v105 + 1) = v_ := ⟨_, rfl⟩
          rw [q_v107]
          refine hp_ias rfl (hH.1 180 (0, 2) rfl) (fun ia_107 ib_107 => ?_)
          refine qm_Rp.go 1 (c' := (116, [.ref 118, .int 0, .int hv, .int v100], [.int 0], (h.1, qm_up (qm_up h.2.1 177 0 v100) 180 0 v107, h.2.2.1, h.2.2.2))) rfl ?_
          refine qm_Rp.rt (v := (some (.int 0))) (h' := (h.1, qm_up (qm_up h.2.1 177 0 v100) 180 0 v107, h.2.2.1, h.2.2.2)) rfl ?_
          have hmv : jMv h.2.1 0 = v100 := by unfold jMv; rw [q_hv, q_v6, q_v4, okb_f (show ¬ v4.toInt < v6.toInt by omega)]; exact q_v100
          have e := jGo_m (s := 1) (A := A) (K := h.2.1) (c := 0) (by rw [q_hv]; omega) (fun z => by rw [q_v4, q_hv, q_v6] at z; have := congrArg Int32.toInt z; omega) (by rw [hmv, show 1 - 0 = 1 from rfl, q_v101]; exact fun z => by have := congrArg Int32.toInt z; omega)
          have e2 : jMo h.2.1 0 = qm_up (qm_up h.2.1 177 0 v100) 180 0 v107 := by unfold jMo; rw [hmv, q_v105, q_v107]
          exact k (qm_up (qm_up h.2.1 177 0 v100) 180 0 v107) 0 (fun o ho i => ((hk_mod ho rfl).trans ((hk_mod ho rfl).trans rfl))) (by rw [e]; exact zR_j hr (fun o ho i => ((hk_mod ho rfl).trans ((hk_mod ho rfl).trans rfl)))) (by rw [e]; show jEq (jMo h.2.1 0) _; rw [e2]; exact jEq_rf) (Or.inr ⟨rfl, fun i => ((hk_ot rfl).trans ((hk_ot rfl).trans rfl))⟩)
        · refine qm_Rp.go 1 (c' := (97, [.ref 118, .int 0, .int hv, .int v100], [.int 0], h)) rfl ?_
          refine qm_Rp.rt (v := (some (.int 0))) (h' := h) rfl ?_
          have hmv : jMv h.2.1 0 = v100 := by unfold jMv; rw [q_hv, q_v6, q_v4, okb_f (show ¬ v4.toInt < v6.toInt by omega)]; exact q_v100
          have e := jGo_b (s := 1) (A := A) (K := h.2.1) (c := 0) (by rw [q_hv]; omega) (fun z => by rw [q_v4, q_hv, q_v6] at z; have := congrArg Int32.toInt z; omega) (by rw [hmv, show 1 - 0 = 1 from rfl, q_v101]; exact hk_eqi.mpr (by omega))
          exact k h.2.1 0 (fun _ _ _ => rfl) (by rw [e]; exact hr) (by rw [e]; exact jEq_rf) (Or.inr ⟨rfl, fun _ => rfl⟩)
      · refine qm_Rp.go 1 (c' := (65, [.ref 118, .int 0, .int hv, .float 0], [.ref 118], h)) rfl ?_
        refine hp_getr rfl (hH.1 118 (17, 105) rfl) rfl (hH.2 118 86 (some 177) rfl) ?_
        refine qm_Rp.go 1 (c' := (69, [.ref 118, .int 0, .int hv, .float 0], [.int 0, .ref 177], h)) rfl ?_
        refine hp_ial (v := v4) rfl (hH.1 177 (0, 2) rfl) q_v4 (fun ia_108 ib_108 => ?_)
        refine qm_Rp.go 2 (c' := (72, [.ref 118, .int 0, .int hv, .float 0], [.int (v4 + 1)], h)) rfl ?_
        obtain ⟨v110, q_v110, e_v110⟩ := hk_add (x := v4) (y := 1) (a := v4.toInt) (b := 1) rfl rfl (by omega) (by omega)
        rw [q_v110]
        refine qm_Rp.go 1 (c' := (83, [.ref 118, .int 0, .int hv, .float 0], [.int v110], h)) rfl ?_
        refine qm_Rp.go 3 (c' := (86, [.ref 118, .int 0, .int hv, .int v110], [.ref 118, .int v110], h)) rfl ?_
        refine hp_getr rfl (hH.1 118 (17, 105) rfl) rfl (hH.2 118 86 (some 177) rfl) ?_
        refine qm_Rp.go 3 (c' := (92, [.ref 118, .int 0, .int hv, .int v110], [.int 1, .ref 177, .int v110], h)) rfl ?_
        obtain ⟨v111, q_v111⟩ : ∃ v_, h.2.1 177 1 = v_ := ⟨_, rfl⟩
        have b_v111 : (-1 : Int) ≤ v111.toInt ∧ v111.toInt ≤ 4 := by rw [← q_v111]; exact b177 1 (by decide)
        refine hp_ial (v := v111) rfl (hH.1 177 (0, 2) rfl) q_v111 (fun ia_111 ib_111 => ?_)
        refine qm_Rp.go 0 (c' := (93, [.ref 118, .int 0, .int hv, .int v110], [.int v111, .int v110], h)) rfl ?_
        refine hp_cne (ix := v110.toInt) (iy := v111.toInt) rfl rfl rfl (fun z113 => ?_) (fun z113 => ?_)
        · refine qm_Rp.go 1 (c' := (99, [.ref 118, .int 0, .int hv, .int v110], [.ref 118], h)) rfl ?_
          refine hp_getr rfl (hH.1 118 (17, 105) rfl) rfl (hH.2 118 86 (some 177) rfl) ?_
          refine qm_Rp.go 2 (c' := (104, [.ref 118, .int 0, .int hv, .int v110], [.int v110, .int 0, .ref 177], h)) rfl ?_
          refine hp_ias rfl (hH.1 177 (0, 2) rfl) (fun ia_113 ib_113 => ?_)
          refine qm_Rp.go 1 (c' := (106, [.ref 118, .int 0, .int hv, .int v110], [.ref 118], (h.1, qm_up h.2.1 177 0 v110, h.2.2.1, h.2.2.2))) rfl ?_
          refine hp_getr rfl (hH.1 118 (17, 105) rfl) rfl (hH.2 118 89 (some 180) rfl) ?_
          refine qm_Rp.go 2 (c' := (111, [.ref 118, .int 0, .int hv, .int v110], [.int 0, .ref 180, .int 0, .ref 180], (h.1, qm_up h.2.1 177 0 v110, h.2.2.1, h.2.2.2))) rfl ?_
          obtain ⟨v115, q_v115⟩ : ∃ v_, h.2.1 180 0 = v_ := ⟨_, rfl⟩
          refine hp_ial (v := v115) rfl (hH.1 180 (0, 2) rfl) (show (qm_up h.2.1 177 0 v110) 180 0 = _ from ((hk_ot rfl).trans q_v115)) (fun ia_115 ib_115 => ?_)
          refine qm_Rp.go 2 (c' := (114, [.ref 118, .int 0, .int hv, .int v110], [.int (v115 + 1), .int 0, .ref 180], (h.1, qm_up h.2.1 177 0 v110, h.2.2.1, h.2.2.2))) rfl ?_
          obtain ⟨v117, q_v117⟩ : ∃ v_, (v115 + 1) = v_ := ⟨_, rfl⟩
          rw [q_v117]
          refine hp_ias rfl (hH.1 180 (0, 2) rfl) (fun ia_117 ib_117 => ?_)
          refine qm_Rp.go 1 (c' := (116, [.ref 118, .int 0, .int hv, .int v110], [.int 0], (h.1, qm_up (qm_up h.2.1 177 0 v110) 180 0 v117, h.2.2.1, h.2.2.2))) rfl ?_
          refine qm_Rp.rt (v := (some (.int 0))) (h' := (h.1, qm_up (qm_up h.2.1 177 0 v110) 180 0 v117, h.2.2.1, h.2.2.2)) rfl ?_
          have hmv : jMv h.2.1 0 = v110 := by unfold jMv; rw [q_hv, q_v6, q_v4, okb_t (show v4.toInt < v6.toInt by omega)]; exact q_v110
          have e := jGo_m (s := 1) (A := A) (K := h.2.1) (c := 0) (by rw [q_hv]; omega) (fun z => by rw [q_v4, q_hv, q_v6] at z; have := congrArg Int32.toInt z; omega) (by rw [hmv, show 1 - 0 = 1 from rfl, q_v111]; exact fun z => by have := congrArg Int32.toInt z; omega)
          have e2 : jMo h.2.1 0 = qm_up (qm_up h.2.1 177 0 v110) 180 0 v117 := by unfold jMo; rw [hmv, q_v115, q_v117]
          exact k (qm_up (qm_up h.2.1 177 0 v110) 180 0 v117) 0 (fun o ho i => ((hk_mod ho rfl).trans ((hk_mod ho rfl).trans rfl))) (by rw [e]; exact zR_j hr (fun o ho i => ((hk_mod ho rfl).trans ((hk_mod ho rfl).trans rfl)))) (by rw [e]; show jEq (jMo h.2.1 0) _; rw [e2]; exact jEq_rf) (Or.inr ⟨rfl, fun i => ((hk_ot rfl).trans ((hk_ot rfl).trans rfl))⟩)
        · refine qm_Rp.go 1 (c' := (97, [.ref 118, .int 0, .int hv, .int v110], [.int 0], h)) rfl ?_
          refine qm_Rp.rt (v := (some (.int 0))) (h' := h) rfl ?_
          have hmv : jMv h.2.1 0 = v110 := by unfold jMv; rw [q_hv, q_v6, q_v4, okb_t (show v4.toInt < v6.toInt by omega)]; exact q_v110
          have e := jGo_b (s := 1) (A := A) (K := h.2.1) (c := 0) (by rw [q_hv]; omega) (fun z => by rw [q_v4, q_hv, q_v6] at z; have := congrArg Int32.toInt z; omega) (by rw [hmv, show 1 - 0 = 1 from rfl, q_v111]; exact hk_eqi.mpr (by omega))
          exact k h.2.1 0 (fun _ _ _ => rfl) (by rw [e]; exact hr) (by rw [e]; exact jEq_rf) (Or.inr ⟨rfl, fun _ => rfl⟩)
  · refine qm_Rp.go 1 (c' := (26, [.ref 118, .int 0, .float 0, .float 0], [.int 0], h)) rfl ?_
    refine qm_Rp.rt (v := (some (.int 0))) (h' := h) rfl ?_
    have e := jGo_n (s := 1) (A := A) (K := h.2.1) (c := 0) (by rw [q_hv]; omega)
    exact k h.2.1 0 (fun _ _ _ => rfl) (by rw [e]; exact hr) (by rw [e]; exact jEq_rf) (Or.inr ⟨rfl, fun _ => rfl⟩)
theorem px_works01 {X : Option (Nat × (Nat → Int32))} {Z : Option Value → qm_H → Prop} {h : qm_H} {fu : Nat} (hH : hk_H h) {A : Nat → Nat → Int} (hP : jP 1 (A, h.2.1)) (hr : zR A h.2.1) (b170 : ∀ k, (0 : Int) ≤ (h.2.1 170 k).toInt ∧ (h.2.1 170 k).toInt ≤ 4) (k : ∀ (I : Nat → Nat → Int32) (v : Int32), (∀ o, [150, 151, 152, 153, 154, 155, 156, 172, 173, 174, 175, 176, 177, 178, 179, 180, 181].contains o = false → ∀ i, I o i = h.2.1 o i) → zR (jSt 1 (A, h.2.1) 0).1 I → jEq (jSt 1 (A, h.2.1) 0).2 I → (v.toInt = 1 ∧ I 181 0 = h.2.1 181 0 + 1 ∧ I 181 1 = h.2.1 181 1 ∨ v.toInt = 0 ∧ ∀ i, I 181 i = h.2.1 181 i) → Z (some (.int v)) (h.1, I, h.2.2.1, h.2.2.2)) : qm_Rp fu X cd_362 (qm_ent 4 [.ref 118, .int 0] h) Z := by
  have hP0 := hP
  obtain ⟨p1, p2, p3, ⟨⟨n1, n2⟩, n3, n4, n5⟩, p5⟩ := hP
  have cr := n3 0 (by decide)
  have b9 : -1 ≤ (h.2.1 178 0).toInt ∧ (h.2.1 178 0).toInt ≤ 39 := by
    rcases cr with w | w
    · have w1 : (h.2.1 178 0).toInt = -1 := w.1
      omega
    · have n1 : 0 ≤ (h.2.1 118 75).toInt ∧ (h.2.1 118 75).toInt ≤ 40 := n1
      have w1 : 0 ≤ (h.2.1 178 0).toInt ∧ (h.2.1 178 0).toInt < (h.2.1 118 75).toInt := w.1
      omega
  have b179 : 0 ≤ (h.2.1 179 0).toInt ∧ (h.2.1 179 0).toInt ≤ 1 := by
    rcases cr with w | w
    · have w2 : (h.2.1 179 0).toInt = 0 := w.2
      omega
    · exact w.2.2
  have kz : (-1 : Int32).toInt = -1 := rfl
  refine qm_Rp.go 1 (c' := (1, [.ref 118, .int 0, .float 0, .float 0], [.ref 118], h)) rfl ?_
  refine hp_getr rfl (hH.1 118 (17, 105) rfl) rfl (hH.2 118 87 (some 178) rfl) ?_
  refine qm_Rp.go 1 (c' := (5, [.ref 118, .int 0, .float 0, .float 0], [.int 0, .ref 178], h)) rfl ?_
  refine hp_ial (v := h.2.1 178 0) rfl (hH.1 178 (0, 2) rfl) rfl (fun _ _ => ?_)
  refine qm_Rp.go 1 (c' := (7, [.ref 118, .int 0, .float 0, .float 0], [.int (-1), .int (h.2.1 178 0)], h)) rfl ?_
  refine hp_cne (ix := (h.2.1 178 0).toInt) (iy := -1) rfl rfl rfl (fun z => ?_) (fun z => ?_)
  · refine qm_Rp.go 0 (c' := (15, [.ref 118, .int 0, .float 0, .float 0], [], h)) rfl ?_
    rw [jSt_0 z] at k
    exact px_wrest01 hH hP0 hr rfl b9 b170 n2 b179 k
  · refine qm_Rp.go 2 (c' := (12, [.ref 118, .int 0, .float 0, .float 0], [.int 0, .ref 118], h)) rfl ?_
    rw [jSt_1 z] at k
    have jT : jI (jTk h.2.1 0) := jTk_I (by decide) hP0.2.2.2.1
    have f9 : ∀ o, [172, 173, 174, 178, 179].contains o = false → jTk h.2.1 0 o = h.2.1 o := fun o ho => by
      have m : ∀ q ∈ [172, 173, 174, 178, 179], o ≠ q := fun q hq e => by
        subst e
        rw [List.contains_iff_mem.mpr hq] at ho
        cases ho
      by_cases q : jNx h.2.1 0 < (h.2.1 118 75).toInt.toNat
      · rw [jTk_1 q]
        exact jT1_at.1 o (m 178 (by decide)) (m 179 (by decide)) (m 172 (by decide)) (m 173 (by decide)) (m 174 (by decide))
      · rw [jTk_0 q]
    have hP2 : jP 1 (A, jTk h.2.1 0) := ⟨p1, p2, p3, jT, by show 0 ≤ (jTk h.2.1 0 118 85).toInt; rw [jTk_118]; exact p5⟩
    have cr2 := jT.2.1 0 (by decide)
    refine hp_inv (o := 118) (r := []) (as := [.ref 118, .int 0]) rfl rfl (hH.1 118 (17, 105) rfl) rfl rfl rfl (px_tk0 (h := h) hH (n := h.2.1 118 75) rfl n1 (hk_eqi.mpr (z.trans kz.symm)) (sv := h.2.1 177 1) rfl (hs := h.2.1 178 1) rfl (n2 1 (by decide)) b170 ?_)
    refine px_wrest01 (h := (h.1, jTk h.2.1 0, h.2.2.1, h.2.2.2)) hH hP2 (zR_j hr (fun o ho i => by show jTk h.2.1 0 o i = h.2.1 o i; rw [f9 o (hk_ms rfl ho)])) rfl ?_ (fun q => by show (0 : Int) ≤ (jTk h.2.1 0 170 q).toInt ∧ (jTk h.2.1 0 170 q).toInt ≤ 4; rw [f9 170 rfl]; exact b170 q) jT.1.2 ?_ (fun I v f g1 g2 g3 => k I v (fun o ho i => (f o ho i).trans (by show jTk h.2.1 0 o i = h.2.1 o i; rw [f9 o (hk_ms rfl ho)])) g1 g2 ?_)
    · rcases cr2 with w | w
      · have w1 : (jTk h.2.1 0 178 0).toInt = -1 := w.1
        show -1 ≤ (jTk h.2.1 0 178 0).toInt ∧ (jTk h.2.1 0 178 0).toInt ≤ 39
        omega
      · have n1 : 0 ≤ (jTk h.2.1 0 118 75).toInt ∧ (jTk h.2.1 0 118 75).toInt ≤ 40 := jT.1.1
        have w1 : 0 ≤ (jTk h.2.1 0 178 0).toInt ∧ (jTk h.2.1 0 178 0).toInt < (jTk h.2.1 0 118 75).toInt := w.1
        show -1 ≤ (jTk h.2.1 0 178 0).toInt ∧ (jTk h.2.1 0 178 0).toInt ≤ 39
        omega
    · rcases cr2 with w | w
      · have w2 : (jTk h.2.1 0 179 0).toInt = 0 := w.2
        show 0 ≤ (jTk h.2.1 0 179 0).toInt ∧ (jTk h.2.1 0 179 0).toInt ≤ 1
        omega
      · exact w.2.2
    · have g3 : (v.toInt = 1 ∧ I 181 0 = jTk h.2.1 0 181 0 + 1 ∧ I 181 1 = jTk h.2.1 0 181 1 ∨ v.toInt = 0 ∧ ∀ i, I 181 i = jTk h.2.1 0 181 i) := g3
      rw [f9 181 rfl] at g3
      exact g3
theorem px_wk01 {X : Option (Nat × (Nat → Int32))} {Z : Option Value → qm_H → Prop} {h : qm_H} {fu : Nat} (hH : hk_H h) {A : Nat → Nat → Int} {K : Nat → Nat → Int32} (hP : jP 1 (A, K)) (hr : zR A h.2.1) (je : jEq K h.2.1) (b170 : ∀ k, (0 : Int) ≤ (h.2.1 170 k).toInt ∧ (h.2.1 170 k).toInt ≤ 4) (k : ∀ (I : Nat → Nat → Int32) (v : Int32), (∀ o, [150, 151, 152, 153, 154, 155, 156, 172, 173, 174, 175, 176, 177, 178, 179, 180, 181].contains o = false → ∀ i, I o i = h.2.1 o i) → zR (jSt 1 (A, K) 0).1 I → jEq (jSt 1 (A, K) 0).2 I → (v.toInt = 1 ∧ I 181 0 = h.2.1 181 0 + 1 ∧ I 181 1 = h.2.1 181 1 ∨ v.toInt = 0 ∧ ∀ i, I 181 i = h.2.1 181 i) → Z (some (.int v)) (h.1, I, h.2.2.1, h.2.2.2)) : qm_Rp fu X cd_362 (qm_ent 4 [.ref 118, .int 0] h) Z := px_works01 hH (jEq_P hP je) hr b170 (fun I v f z j a => k I v f (by rw [(jEq_st (s := 1) (A := A) (c := 0) je).1]; exact z) (jEq_tr (jEq_st (s := 1) (A := A) (c := 0) je).2 j) a)
theorem px_wrest11 {X : Option (Nat × (Nat → Int32))} {Z : Option Value → qm_H → Prop} {h : qm_H} {fu : Nat} (hH : hk_H h) {A : Nat → Nat → Int} (hP : jP 1 (A, h.2.1)) (hr : zR A h.2.1) {hv : Int32} (q_hv : h.2.1 178 1 = hv) (b_hv : -1 ≤ hv.toInt ∧ hv.toInt ≤ 39) (b170 : ∀ k, (0 : Int) ≤ (h.2.1 170 k).toInt ∧ (h.2.1 170 k).toInt ≤ 4) (b177 : ∀ d : Nat, d < 2 → -1 ≤ (h.2.1 177 d).toInt ∧ (h.2.1 177 d).toInt ≤ 4) (b179 : 0 ≤ (h.2.1 179 1).toInt ∧ (h.2.1 179 1).toInt ≤ 1) (k : ∀ (I : Nat → Nat → Int32) (v : Int32), (∀ o, [150, 151, 152, 153, 154, 155, 156, 172, 173, 174, 175, 176, 177, 178, 179, 180, 181].contains o = false → ∀ i, I o i = h.2.1 o i) → zR (jGo 1 A h.2.1 1).1 I → jEq (jGo 1 A h.2.1 1).2 I → (v.toInt = 1 ∧ I 181 1 = h.2.1 181 1 + 1 ∧ I 181 0 = h.2.1 181 0 ∨ v.toInt = 0 ∧ ∀ i, I 181 i = h.2.1 181 i) → Z (some (.int v)) (h.1, I, h.2.2.1, h.2.2.2)) : qm_Rp fu X cd_362 (15, [.ref 118, .int 1, .float 0, .float 0], [], h) Z := by
  have kz0 : (0 : Int32).toInt = 0 := rfl
  have kz1 : (1 : Int32).toInt = 1 := rfl
  have kz2 : (2 : Int32).toInt = 2 := rfl
  have kz3 : (3 : Int32).toInt = 3 := rfl
  have kz4 : (4 : Int32).toInt = 4 := rfl
  have kz5 : (5 : Int32).toInt = 5 := rfl
  have kz6 : (6 : Int32).toInt = 6 := rfl
  have kz7 : (7 : Int32).toInt = 7 := rfl
  have kz8 : (8 : Int32).toInt = 8 := rfl
  have kz9 : (9 : Int32).toInt = 9 := rfl
  have kzm1 : ((-1) : Int32).toInt = (-1) := rfl
  have kzm2 : ((-2) : Int32).toInt = (-2) := rfl
  have kzm3 : ((-3) : Int32).toInt = (-3) := rfl
  refine qm_Rp.go 1 (c' := (16, [.ref 118, .int 1, .float 0, .float 0], [.ref 118], h)) rfl ?_
  refine hp_getr rfl (hH.1 118 (17, 105) rfl) rfl (hH.2 118 87 (some 178) rfl) ?_
  refine qm_Rp.go 1 (c' := (20, [.ref 118, .int 1, .float 0, .float 0], [.int 1, .ref 178], h)) rfl ?_
  refine hp_ial (v := hv) rfl (hH.1 178 (0, 2) rfl) q_hv (fun ia_0 ib_0 => ?_)
  refine qm_Rp.go 1 (c' := (22, [.ref 118, .int 1, .float 0, .float 0], [.int (-1), .int hv], h)) rfl ?_
  refine hp_cne (ix := hv.toInt) (iy := (-1)) rfl rfl rfl (fun z2 => ?_) (fun z2 => ?_)
  · refine qm_Rp.go 1 (c' := (28, [.ref 118, .int 1, .float 0, .float 0], [.ref 118], h)) rfl ?_
    refine hp_getr rfl (hH.1 118 (17, 105) rfl) rfl (hH.2 118 87 (some 178) rfl) ?_
    refine qm_Rp.go 1 (c' := (32, [.ref 118, .int 1, .float 0, .float 0], [.int 1, .ref 178], h)) rfl ?_
    refine hp_ial (v := hv) rfl (hH.1 178 (0, 2) rfl) q_hv (fun ia_2 ib_2 => ?_)
    refine qm_Rp.go 2 (c' := (35, [.ref 118, .int 1, .int hv, .float 0], [.ref 118], h)) rfl ?_
    refine hp_getr rfl (hH.1 118 (17, 105) rfl) rfl (hH.2 118 86 (some 177) rfl) ?_
    refine qm_Rp.go 1 (c' := (39, [.ref 118, .int 1, .int hv, .float 0], [.int 1, .ref 177], h)) rfl ?_
    obtain ⟨v4, q_v4⟩ : ∃ v_, h.2.1 177 1 = v_ := ⟨_, rfl⟩
    have b_v4 : (-1 : Int) ≤ v4.toInt ∧ v4.toInt ≤ 4 := by rw [← q_v4]; exact b177 1 (by decide)
    refine hp_ial (v := v4) rfl (hH.1 177 (0, 2) rfl) q_v4 (fun ia_4 ib_4 => ?_)
    refine qm_Rp.go 1 (c' := (41, [.ref 118, .int 1, .int hv, .float 0], [.ref 118, .int v4], h)) rfl ?_
    refine hp_getr rfl (hH.1 118 (17, 105) rfl) rfl (hH.2 118 78 (some 170) rfl) ?_
    refine qm_Rp.go 1 (c' := (45, [.ref 118, .int 1, .int hv, .float 0], [.int hv, .ref 170, .int v4], h)) rfl ?_
    obtain ⟨v6, q_v6⟩ : ∃ v_, h.2.1 170 hv.toInt.toNat = v_ := ⟨_, rfl⟩
    have b_v6 : (0 : Int) ≤ v6.toInt ∧ v6.toInt ≤ 4 := by rw [← q_v6]; exact b170 (hv.toInt.toNat)
    refine hp_ial (v := v6) rfl (hH.1 170 (0, 40) rfl) q_v6 (fun ia_6 ib_6 => ?_)
    refine qm_Rp.go 0 (c' := (46, [.ref 118, .int 1, .int hv, .float 0], [.int v6, .int v4], h)) rfl ?_
    refine hp_ceq (ix := v4.toInt) (iy := v6.toInt) rfl rfl rfl (fun z8 => ?_) (fun z8 => ?_)
    · refine qm_Rp.go 1 (c' := (118, [.ref 118, .int 1, .int hv, .float 0], [.ref 118], h)) rfl ?_
      obtain ⟨v9, q_v9⟩ : ∃ v_, h.2.1 118 85 = v_ := ⟨_, rfl⟩
      refine hp_geti (v := v9) rfl (hH.1 118 (17, 105) rfl) rfl q_v9 ?_
      refine qm_Rp.go 1 (c' := (122, [.ref 118, .int 1, .int hv, .float 0], [.ref 118, .int v9], h)) rfl ?_
      obtain ⟨v10, q_v10⟩ : ∃ v_, h.2.1 118 91 = v_ := ⟨_, rfl⟩
      refine hp_geti (v := v10) rfl (hH.1 118 (17, 105) rfl) rfl q_v10 ?_
      refine qm_Rp.go 1 (c' := (126, [.ref 118, .int 1, .int hv, .float 0], [.ref 118, .int v10, .int v9], h)) rfl ?_
      obtain ⟨v11, q_v11⟩ : ∃ v_, h.2.1 118 92 = v_ := ⟨_, rfl⟩
      refine hp_geti (v := v11) rfl (hH.1 118 (17, 105) rfl) rfl q_v11 ?_
      refine qm_Rp.go 0 (c' := (129, [.ref 118, .int 1, .int hv, .float 0], [.int v11, .int v10, .int v9], h)) rfl ?_
      refine qm_Rp.call (j := 270) (as := [.int v9, .int v10, .int v11]) (c' := (132, [.ref 118, .int 1, .int hv, .float 0], [], h)) rfl rfl ?_
      refine qm_Rp.go 2 (c' := (2, [.int v9, .int v10, .int v11], [.int v10, .int v9], h)) rfl ?_
      refine hp_clt (ix := v9.toInt) (iy := v10.toInt) rfl rfl rfl (fun z12 => ?_) (fun z12 => ?_)
      · refine qm_Rp.go 1 (c' := (15, [.int v9, .int v10, .int v11], [.int 0], h)) rfl ?_
        refine qm_Rp.rt (v := (some (.int 0))) (h' := h) rfl ?_
        refine qm_Rp.go 2 (c' := (138, [.ref 118, .int 1, .int hv, .float 0], [.ref 118], h)) rfl ?_
        refine hp_getr rfl (hH.1 118 (17, 105) rfl) rfl (hH.2 118 88 (some 179) rfl) ?_
        refine qm_Rp.go 2 (c' := (143, [.ref 118, .int 1, .int hv, .float 0], [.int 1, .ref 179, .int 1, .ref 179], h)) rfl ?_
        obtain ⟨v13, q_v13⟩ : ∃ v_, h.2.1 179 1 = v_ := ⟨_, rfl⟩
        have b_v13 : (0 : Int) ≤ v13.toInt ∧ v13.toInt ≤ 1 := by rw [← q_v13]; exact b179
        refine hp_ial (v := v13) rfl (hH.1 179 (0, 2) rfl) q_v13 (fun ia_13 ib_13 => ?_)
        refine qm_Rp.go 2 (c' := (146, [.ref 118, .int 1, .int hv, .float 0], [.int (v13 + 1), .int 1, .ref 179], h)) rfl ?_
        obtain ⟨v15, q_v15, e_v15⟩ := hk_add (x := v13) (y := 1) (a := v13.toInt) (b := 1) rfl rfl (by omega) (by omega)
        rw [q_v15]
        refine hp_ias rfl (hH.1 179 (0, 2) rfl) (fun ia_15 ib_15 => ?_)
        refine qm_Rp.go 1 (c' := (148, [.ref 118, .int 1, .int hv, .float 0], [.ref 118], (h.1, qm_up h.2.1 179 1 v15, h.2.2.1, h.2.2.2))) rfl ?_
        refine hp_getr rfl (hH.1 118 (17, 105) rfl) rfl (hH.2 118 88 (some 179) rfl) ?_
        refine qm_Rp.go 1 (c' := (152, [.ref 118, .int 1, .int hv, .float 0], [.int 1, .ref 179], (h.1, qm_up h.2.1 179 1 v15, h.2.2.1, h.2.2.2))) rfl ?_
        refine hp_ial (v := v15) rfl (hH.1 179 (0, 2) rfl) (show (qm_up h.2.1 179 1 v15) 179 1 = _ from (hk_same)) (fun ia_16 ib_16 => ?_)
        refine qm_Rp.go 1 (c' := (154, [.ref 118, .int 1, .int hv, .float 0], [.int 2, .int v15], (h.1, qm_up h.2.1 179 1 v15, h.2.2.1, h.2.2.2))) rfl ?_
        refine hp_cge (ix := v15.toInt) (iy := 2) rfl rfl rfl (fun z18 => ?_) (fun z18 => ?_)
        · refine qm_Rp.go 1 (c' := (160, [.ref 118, .int 1, .int hv, .float 0], [.ref 118], (h.1, qm_up h.2.1 179 1 v15, h.2.2.1, h.2.2.2))) rfl ?_
          refine hp_getr rfl (hH.1 118 (17, 105) rfl) rfl (hH.2 118 84 (some 176) rfl) ?_
          refine qm_Rp.go 2 (c' := (165, [.ref 118, .int 1, .int hv, .float 0], [.ref 118, .int hv, .ref 176], (h.1, qm_up h.2.1 179 1 v15, h.2.2.1, h.2.2.2))) rfl ?_
          refine hp_getr rfl (hH.1 118 (17, 105) rfl) rfl (hH.2 118 76 (some 168) rfl) ?_
          refine qm_Rp.go 1 (c' := (169, [.ref 118, .int 1, .int hv, .float 0], [.int hv, .ref 168, .int hv, .ref 176], (h.1, qm_up h.2.1 179 1 v15, h.2.2.1, h.2.2.2))) rfl ?_
          obtain ⟨v19, q_v19⟩ : ∃ v_, h.2.1 168 hv.toInt.toNat = v_ := ⟨_, rfl⟩
          refine hp_ial (v := v19) rfl (hH.1 168 (0, 40) rfl) (show (qm_up h.2.1 179 1 v15) 168 hv.toInt.toNat = _ from ((hk_ot rfl).trans q_v19)) (fun ia_19 ib_19 => ?_)
          refine qm_Rp.go 0 (c' := (170, [.ref 118, .int 1, .int hv, .float 0], [.int v19, .int hv, .ref 176], (h.1, qm_up h.2.1 179 1 v15, h.2.2.1, h.2.2.2))) rfl ?_
          refine hp_zne (ix := v19.toInt) rfl rfl (fun z21 => ?_) (fun z21 => ?_)
          · refine qm_Rp.go 2 (c' := (200, [.ref 118, .int 1, .int hv, .float 0], [.ref 118, .ref 118, .int hv, .ref 176], (h.1, qm_up h.2.1 179 1 v15, h.2.2.1, h.2.2.2))) rfl ?_
            refine hp_getr rfl (hH.1 118 (17, 105) rfl) rfl (hH.2 118 78 (some 170) rfl) ?_
            refine qm_Rp.go 1 (c' := (204, [.ref 118, .int 1, .int hv, .float 0], [.int hv, .ref 170, .ref 118, .int hv, .ref 176], (h.1, qm_up h.2.1 179 1 v15, h.2.2.1, h.2.2.2))) rfl ?_
            refine hp_ial (v := v6) rfl (hH.1 170 (0, 40) rfl) (show (qm_up h.2.1 179 1 v15) 170 hv.toInt.toNat = _ from ((hk_ot rfl).trans q_v6)) (fun ia_21 ib_21 => ?_)
            refine qm_Rp.go 1 (c' := (206, [.ref 118, .int 1, .int hv, .float 0], [.ref 118, .int v6, .ref 118, .int hv, .ref 176], (h.1, qm_up h.2.1 179 1 v15, h.2.2.1, h.2.2.2))) rfl ?_
            refine hp_getr rfl (hH.1 118 (17, 105) rfl) rfl (hH.2 118 79 (some 171) rfl) ?_
            refine qm_Rp.go 1 (c' := (210, [.ref 118, .int 1, .int hv, .float 0], [.int hv, .ref 171, .int v6, .ref 118, .int hv, .ref 176], (h.1, qm_up h.2.1 179 1 v15, h.2.2.1, h.2.2.2))) rfl ?_
            obtain ⟨v23, q_v23⟩ : ∃ v_, h.2.1 171 hv.toInt.toNat = v_ := ⟨_, rfl⟩
            refine hp_ial (v := v23) rfl (hH.1 171 (0, 40) rfl) (show (qm_up h.2.1 179 1 v15) 171 hv.toInt.toNat = _ from ((hk_ot rfl).trans q_v23)) (fun ia_23 ib_23 => ?_)
            refine qm_Rp.go 1 (c' := (212, [.ref 118, .int 1, .int hv, .float 0], [.ref 118, .int v23, .int v6, .ref 118, .int hv, .ref 176], (h.1, qm_up h.2.1 179 1 v15, h.2.2.1, h.2.2.2))) rfl ?_
            refine hp_getr rfl (hH.1 118 (17, 105) rfl) rfl (hH.2 118 77 (some 169) rfl) ?_
            refine qm_Rp.go 1 (c' := (216, [.ref 118, .int 1, .int hv, .float 0], [.int hv, .ref 169, .int v23, .int v6, .ref 118, .int hv, .ref 176], (h.1, qm_up h.2.1 179 1 v15, h.2.2.1, h.2.2.2))) rfl ?_
            obtain ⟨v25, q_v25⟩ : ∃ v_, h.2.1 169 hv.toInt.toNat = v_ := ⟨_, rfl⟩
            refine hp_ial (v := v25) rfl (hH.1 169 (0, 40) rfl) (show (qm_up h.2.1 179 1 v15) 169 hv.toInt.toNat = _ from ((hk_ot rfl).trans q_v25)) (fun ia_25 ib_25 => ?_)
            refine qm_Rp.go 0 (c' := (217, [.ref 118, .int 1, .int hv, .float 0], [.int v25, .int v23, .int v6, .ref 118, .int hv, .ref 176], (h.1, qm_up h.2.1 179 1 v15, h.2.2.1, h.2.2.2))) rfl ?_
            refine hp_inv (o := 118) (r := [.int hv, .ref 176]) (as := [.ref 118, .int v6, .int v23, .int v25]) rfl rfl (hH.1 118 (17, 105) rfl) rfl rfl rfl (pz_runl1 (h := (h.1, qm_up h.2.1 179 1 v15, h.2.2.1, h.2.2.2)) hH hP.1 (zR_j hr (fun o ho i => ((hk_mod ho rfl).trans rfl))) hP.2.2.1 (fun I27 v28 f_I27 zr_I27 e_v28 => ?_))
            have f_I27 : ∀ o, [150, 151, 152, 153, 154, 155, 156].contains o = false → ∀ i, I27 o i = (qm_up h.2.1 179 1 v15) o i := f_I27
            refine qm_Rp.go 0 (c' := (220, [.ref 118, .int 1, .int hv, .float 0], [.int v28, .int hv, .ref 176], (h.1, I27, h.2.2.1, h.2.2.2))) rfl ?_
            refine hp_ias rfl (hH.1 176 (0, 40) rfl) (fun ia_28 ib_28 => ?_)
            refine qm_Rp.go 1 (c' := (222, [.ref 118, .int 1, .int hv, .float 0], [.ref 118], (h.1, qm_up I27 176 hv.toInt.toNat v28, h.2.2.1, h.2.2.2))) rfl ?_
            refine hp_getr rfl (hH.1 118 (17, 105) rfl) rfl (hH.2 118 80 (some 172) rfl) ?_
            refine qm_Rp.go 2 (c' := (227, [.ref 118, .int 1, .int hv, .float 0], [.int 2, .int hv, .ref 172], (h.1, qm_up I27 176 hv.toInt.toNat v28, h.2.2.1, h.2.2.2))) rfl ?_
            refine hp_ias rfl (hH.1 172 (0, 40) rfl) (fun ia_29 ib_29 => ?_)
            refine qm_Rp.go 1 (c' := (229, [.ref 118, .int 1, .int hv, .float 0], [.ref 118], (h.1, qm_up (qm_up I27 176 hv.toInt.toNat v28) 172 hv.toInt.toNat 2, h.2.2.1, h.2.2.2))) rfl ?_
            refine hp_getr rfl (hH.1 118 (17, 105) rfl) rfl (hH.2 118 83 (some 175) rfl) ?_
            refine qm_Rp.go 2 (c' := (234, [.ref 118, .int 1, .int hv, .float 0], [.ref 118, .int hv, .ref 175], (h.1, qm_up (qm_up I27 176 hv.toInt.toNat v28) 172 hv.toInt.toNat 2, h.2.2.1, h.2.2.2))) rfl ?_
            refine hp_geti (v := v9) rfl (hH.1 118 (17, 105) rfl) rfl (show (qm_up (qm_up I27 176 hv.toInt.toNat v28) 172 hv.toInt.toNat 2) 118 85 = _ from ((hk_ot rfl).trans ((hk_ot rfl).trans ((f_I27 118 rfl 85).trans ((hk_ot rfl).trans q_v9))))) ?_
            refine qm_Rp.go 0 (c' := (237, [.ref 118, .int 1, .int hv, .float 0], [.int v9, .int hv, .ref 175], (h.1, qm_up (qm_up I27 176 hv.toInt.toNat v28) 172 hv.toInt.toNat 2, h.2.2.1, h.2.2.2))) rfl ?_
            refine hp_ias rfl (hH.1 175 (0, 40) rfl) (fun ia_30 ib_30 => ?_)
            refine qm_Rp.go 1 (c' := (239, [.ref 118, .int 1, .int hv, .float 0], [.ref 118], (h.1, qm_up (qm_up (qm_up I27 176 hv.toInt.toNat v28) 172 hv.toInt.toNat 2) 175 hv.toInt.toNat v9, h.2.2.1, h.2.2.2))) rfl ?_
            refine hp_getr rfl (hH.1 118 (17, 105) rfl) rfl (hH.2 118 87 (some 178) rfl) ?_
            refine qm_Rp.go 2 (c' := (244, [.ref 118, .int 1, .int hv, .float 0], [.int (-1), .int 1, .ref 178], (h.1, qm_up (qm_up (qm_up I27 176 hv.toInt.toNat v28) 172 hv.toInt.toNat 2) 175 hv.toInt.toNat v9, h.2.2.1, h.2.2.2))) rfl ?_
            refine hp_ias rfl (hH.1 178 (0, 2) rfl) (fun ia_31 ib_31 => ?_)
            refine qm_Rp.go 1 (c' := (246, [.ref 118, .int 1, .int hv, .float 0], [.ref 118], (h.1, qm_up (qm_up (qm_up (qm_up I27 176 hv.toInt.toNat v28) 172 hv.toInt.toNat 2) 175 hv.toInt.toNat v9) 178 1 (-1), h.2.2.1, h.2.2.2))) rfl ?_
            refine hp_getr rfl (hH.1 118 (17, 105) rfl) rfl (hH.2 118 88 (some 179) rfl) ?_
            refine qm_Rp.go 2 (c' := (251, [.ref 118, .int 1, .int hv, .float 0], [.int 0, .int 1, .ref 179], (h.1, qm_up (qm_up (qm_up (qm_up I27 176 hv.toInt.toNat v28) 172 hv.toInt.toNat 2) 175 hv.toInt.toNat v9) 178 1 (-1), h.2.2.1, h.2.2.2))) rfl ?_
            refine hp_ias rfl (hH.1 179 (0, 2) rfl) (fun ia_32 ib_32 => ?_)
            refine qm_Rp.go 1 (c' := (253, [.ref 118, .int 1, .int hv, .float 0], [.ref 118], (h.1, qm_up (qm_up (qm_up (qm_up (qm_up I27 176 hv.toInt.toNat v28) 172 hv.toInt.toNat 2) 175 hv.toInt.toNat v9) 178 1 (-1)) 179 1 0, h.2.2.1, h.2.2.2))) rfl ?_
            refine hp_getr rfl (hH.1 118 (17, 105) rfl) rfl (hH.2 118 90 (some 181) rfl) ?_
            refine qm_Rp.go 2 (c' := (258, [.ref 118, .int 1, .int hv, .float 0], [.int 1, .ref 181, .int 1, .ref 181], (h.1, qm_up (qm_up (qm_up (qm_up (qm_up I27 176 hv.toInt.toNat v28) 172 hv.toInt.toNat 2) 175 hv.toInt.toNat v9) 178 1 (-1)) 179 1 0, h.2.2.1, h.2.2.2))) rfl ?_
            obtain ⟨v34, q_v34⟩ : ∃ v_, h.2.1 181 1 = v_ := ⟨_, rfl⟩
            refine hp_ial (v := v34) rfl (hH.1 181 (0, 2) rfl) (show (qm_up (qm_up (qm_up (qm_up (qm_up I27 176 hv.toInt.toNat v28) 172 hv.toInt.toNat 2) 175 hv.toInt.toNat v9) 178 1 (-1)) 179 1 0) 181 1 = _ from ((hk_ot rfl).trans ((hk_ot rfl).trans ((hk_ot rfl).trans ((hk_ot rfl).trans ((hk_ot rfl).trans ((f_I27 181 rfl 1).trans ((hk_ot rfl).trans q_v34)))))))) (fun ia_34 ib_34 => ?_)
            refine qm_Rp.go 2 (c' := (261, [.ref 118, .int 1, .int hv, .float 0], [.int (v34 + 1), .int 1, .ref 181], (h.1, qm_up (qm_up (qm_up (qm_up (qm_up I27 176 hv.toInt.toNat v28) 172 hv.toInt.toNat 2) 175 hv.toInt.toNat v9) 178 1 (-1)) 179 1 0, h.2.2.1, h.2.2.2))) rfl ?_
            obtain ⟨v36, q_v36⟩ : ∃ v_, (v34 + 1) = v_ := ⟨_, rfl⟩
            rw [q_v36]
            refine hp_ias rfl (hH.1 181 (0, 2) rfl) (fun ia_36 ib_36 => ?_)
            refine qm_Rp.go 1 (c' := (263, [.ref 118, .int 1, .int hv, .float 0], [.int 1], (h.1, qm_up (qm_up (qm_up (qm_up (qm_up (qm_up I27 176 hv.toInt.toNat v28) 172 hv.toInt.toNat 2) 175 hv.toInt.toNat v9) 178 1 (-1)) 179 1 0) 181 1 v36, h.2.2.1, h.2.2.2))) rfl ?_
            refine qm_Rp.rt (v := (some (.int 1))) (h' := (h.1, qm_up (qm_up (qm_up (qm_up (qm_up (qm_up I27 176 hv.toInt.toNat v28) 172 hv.toInt.toNat 2) 175 hv.toInt.toNat v9) 178 1 (-1)) 179 1 0) 181 1 v36, h.2.2.1, h.2.2.2)) rfl ?_
            have e := jGo_f (s := 1) (A := A) (K := h.2.1) (c := 1) (by rw [q_hv]; omega) (by rw [q_v4, q_hv, q_v6]; exact hk_eqi.mpr (by omega)) (fun z => by unfold jWn at z; rw [q_v10, q_v9, q_v11] at z; omega) (by rw [q_v13, q_v15]; omega)
            have eR : jRe 1 A h.2.1 hv.toInt.toNat = v28.toInt := by unfold jRe; rw [q_v19, q_v25, q_v6, q_v23, okb_f (show ¬ v19.toInt = 0 by omega)]; exact e_v28.symm
            have eS : zR (jSh 1 A h.2.1 hv.toInt.toNat) I27 := by unfold jSh; rw [q_v19, q_v25, q_v6, q_v23, okb_f (show ¬ v19.toInt = 0 by omega)]; exact zr_I27
            rw [q_hv, eR, Int32.ofInt_toInt] at e
            have e2 : jEq (jFi h.2.1 1 hv.toInt.toNat v28) (qm_up (qm_up (qm_up (qm_up (qm_up (qm_up I27 176 hv.toInt.toNat v28) 172 hv.toInt.toNat 2) 175 hv.toInt.toNat v9) 178 1 (-1)) 179 1 0) 181 1 v36) := by
              unfold jFi
              rw [q_v13, q_v15, q_v9, q_v34, q_v36]
              exact jEq_up (jEq_up (jEq_up (jEq_up (jEq_up (jEq_up (jEq_fr jEq_rf f_I27 (by decide)))))))
            refine k (qm_up (qm_up (qm_up (qm_up (qm_up (qm_up I27 176 hv.toInt.toNat v28) 172 hv.toInt.toNat 2) 175 hv.toInt.toNat v9) 178 1 (-1)) 179 1 0) 181 1 v36) 1 (fun o ho i => ((hk_mod ho rfl).trans ((hk_mod ho rfl).trans ((hk_mod ho rfl).trans ((hk_mod ho rfl).trans ((hk_mod ho rfl).trans ((hk_mod ho rfl).trans ((f_I27 o (hk_ms rfl ho) i).trans ((hk_mod ho rfl).trans rfl))))))))) (by rw [e]; exact zR_j eS (fun o ho i => ((hk_mod ho rfl).trans ((hk_mod ho rfl).trans ((hk_mod ho rfl).trans ((hk_mod ho rfl).trans ((hk_mod ho rfl).trans ((hk_mod ho rfl).trans rfl)))))))) (by rw [e]; exact e2) (Or.inl ⟨rfl, ?_, ?_⟩)
            · rw [q_v34, q_v36]; exact hk_same
            · exact ((hk_neq (by decide)).trans ((hk_ot rfl).trans ((hk_ot rfl).trans ((hk_ot rfl).trans ((hk_ot rfl).trans ((hk_ot rfl).trans ((f_I27 181 rfl 0).trans ((hk_ot rfl).trans rfl))))))))
          · refine qm_Rp.go 2 (c' := (175, [.ref 118, .int 1, .int hv, .float 0], [.ref 118, .ref 118, .int hv, .ref 176], (h.1, qm_up h.2.1 179 1 v15, h.2.2.1, h.2.2.2))) rfl ?_
            refine hp_getr rfl (hH.1 118 (17, 105) rfl) rfl (hH.2 118 77 (some 169) rfl) ?_
            refine qm_Rp.go 1 (c' := (179, [.ref 118, .int 1, .int hv, .float 0], [.int hv, .ref 169, .ref 118, .int hv, .ref 176], (h.1, qm_up h.2.1 179 1 v15, h.2.2.1, h.2.2.2))) rfl ?_
            obtain ⟨v38, q_v38⟩ : ∃ v_, h.2.1 169 hv.toInt.toNat = v_ := ⟨_, rfl⟩
            refine hp_ial (v := v38) rfl (hH.1 169 (0, 40) rfl) (show (qm_up h.2.1 179 1 v15) 169 hv.toInt.toNat = _ from ((hk_ot rfl).trans q_v38)) (fun ia_38 ib_38 => ?_)
            refine qm_Rp.go 1 (c' := (181, [.ref 118, .int 1, .int hv, .float 0], [.ref 118, .int v38, .ref 118, .int hv, .ref 176], (h.1, qm_up h.2.1 179 1 v15, h.2.2.1, h.2.2.2))) rfl ?_
            refine hp_getr rfl (hH.1 118 (17, 105) rfl) rfl (hH.2 118 78 (some 170) rfl) ?_
            refine qm_Rp.go 1 (c' := (185, [.ref 118, .int 1, .int hv, .float 0], [.int hv, .ref 170, .int v38, .ref 118, .int hv, .ref 176], (h.1, qm_up h.2.1 179 1 v15, h.2.2.1, h.2.2.2))) rfl ?_
            refine hp_ial (v := v6) rfl (hH.1 170 (0, 40) rfl) (show (qm_up h.2.1 179 1 v15) 170 hv.toInt.toNat = _ from ((hk_ot rfl).trans q_v6)) (fun ia_39 ib_39 => ?_)
            refine qm_Rp.go 1 (c' := (187, [.ref 118, .int 1, .int hv, .float 0], [.ref 118, .int v6, .int v38, .ref 118, .int hv, .ref 176], (h.1, qm_up h.2.1 179 1 v15, h.2.2.1, h.2.2.2))) rfl ?_
            refine hp_getr rfl (hH.1 118 (17, 105) rfl) rfl (hH.2 118 79 (some 171) rfl) ?_
            refine qm_Rp.go 1 (c' := (191, [.ref 118, .int 1, .int hv, .float 0], [.int hv, .ref 171, .int v6, .int v38, .ref 118, .int hv, .ref 176], (h.1, qm_up h.2.1 179 1 v15, h.2.2.1, h.2.2.2))) rfl ?_
            obtain ⟨v41, q_v41⟩ : ∃ v_, h.2.1 171 hv.toInt.toNat = v_ := ⟨_, rfl⟩
            refine hp_ial (v := v41) rfl (hH.1 171 (0, 40) rfl) (show (qm_up h.2.1 179 1 v15) 171 hv.toInt.toNat = _ from ((hk_ot rfl).trans q_v41)) (fun ia_41 ib_41 => ?_)
            refine qm_Rp.go 0 (c' := (192, [.ref 118, .int 1, .int hv, .float 0], [.int v41, .int v6, .int v38, .ref 118, .int hv, .ref 176], (h.1, qm_up h.2.1 179 1 v15, h.2.2.1, h.2.2.2))) rfl ?_
            refine hp_inv (o := 118) (r := [.int hv, .ref 176]) (as := [.ref 118, .int v38, .int v6, .int v41]) rfl rfl (hH.1 118 (17, 105) rfl) rfl rfl rfl (pz_rload1 (h := (h.1, qm_up h.2.1 179 1 v15, h.2.2.1, h.2.2.2)) hH hP.1 (zR_j hr (fun o ho i => ((hk_mod ho rfl).trans rfl))) hP.2.2.1 (fun I43 v44 f_I43 zr_I43 e_v44 => ?_))
            have f_I43 : ∀ o, [150, 151, 152, 153, 154, 155, 156].contains o = false → ∀ i, I43 o i = (qm_up h.2.1 179 1 v15) o i := f_I43
            refine qm_Rp.go 1 (c' := (220, [.ref 118, .int 1, .int hv, .float 0], [.int v44, .int hv, .ref 176], (h.1, I43, h.2.2.1, h.2.2.2))) rfl ?_
            refine hp_ias rfl (hH.1 176 (0, 40) rfl) (fun ia_44 ib_44 => ?_)
            refine qm_Rp.go 1 (c' := (222, [.ref 118, .int 1, .int hv, .float 0], [.ref 118], (h.1, qm_up I43 176 hv.toInt.toNat v44, h.2.2.1, h.2.2.2))) rfl ?_
            refine hp_getr rfl (hH.1 118 (17, 105) rfl) rfl (hH.2 118 80 (some 172) rfl) ?_
            refine qm_Rp.go 2 (c' := (227, [.ref 118, .int 1, .int hv, .float 0], [.int 2, .int hv, .ref 172], (h.1, qm_up I43 176 hv.toInt.toNat v44, h.2.2.1, h.2.2.2))) rfl ?_
            refine hp_ias rfl (hH.1 172 (0, 40) rfl) (fun ia_45 ib_45 => ?_)
            refine qm_Rp.go 1 (c' := (229, [.ref 118, .int 1, .int hv, .float 0], [.ref 118], (h.1, qm_up (qm_up I43 176 hv.toInt.toNat v44) 172 hv.toInt.toNat 2, h.2.2.1, h.2.2.2))) rfl ?_
            refine hp_getr rfl (hH.1 118 (17, 105) rfl) rfl (hH.2 118 83 (some 175) rfl) ?_
            refine qm_Rp.go 2 (c' := (234, [.ref 118, .int 1, .int hv, .float 0], [.ref 118, .int hv, .ref 175], (h.1, qm_up (qm_up I43 176 hv.toInt.toNat v44) 172 hv.toInt.toNat 2, h.2.2.1, h.2.2.2))) rfl ?_
            refine hp_geti (v := v9) rfl (hH.1 118 (17, 105) rfl) rfl (show (qm_up (qm_up I43 176 hv.toInt.toNat v44) 172 hv.toInt.toNat 2) 118 85 = _ from ((hk_ot rfl).trans ((hk_ot rfl).trans ((f_I43 118 rfl 85).trans ((hk_ot rfl).trans q_v9))))) ?_
            refine qm_Rp.go 0 (c' := (237, [.ref 118, .int 1, .int hv, .float 0], [.int v9, .int hv, .ref 175], (h.1, qm_up (qm_up I43 176 hv.toInt.toNat v44) 172 hv.toInt.toNat 2, h.2.2.1, h.2.2.2))) rfl ?_
            refine hp_ias rfl (hH.1 175 (0, 40) rfl) (fun ia_46 ib_46 => ?_)
            refine qm_Rp.go 1 (c' := (239, [.ref 118, .int 1, .int hv, .float 0], [.ref 118], (h.1, qm_up (qm_up (qm_up I43 176 hv.toInt.toNat v44) 172 hv.toInt.toNat 2) 175 hv.toInt.toNat v9, h.2.2.1, h.2.2.2))) rfl ?_
            refine hp_getr rfl (hH.1 118 (17, 105) rfl) rfl (hH.2 118 87 (some 178) rfl) ?_
            refine qm_Rp.go 2 (c' := (244, [.ref 118, .int 1, .int hv, .float 0], [.int (-1), .int 1, .ref 178], (h.1, qm_up (qm_up (qm_up I43 176 hv.toInt.toNat v44) 172 hv.toInt.toNat 2) 175 hv.toInt.toNat v9, h.2.2.1, h.2.2.2))) rfl ?_
            refine hp_ias rfl (hH.1 178 (0, 2) rfl) (fun ia_47 ib_47 => ?_)
            refine qm_Rp.go 1 (c' := (246, [.ref 118, .int 1, .int hv, .float 0], [.ref 118], (h.1, qm_up (qm_up (qm_up (qm_up I43 176 hv.toInt.toNat v44) 172 hv.toInt.toNat 2) 175 hv.toInt.toNat v9) 178 1 (-1), h.2.2.1, h.2.2.2))) rfl ?_
            refine hp_getr rfl (hH.1 118 (17, 105) rfl) rfl (hH.2 118 88 (some 179) rfl) ?_
            refine qm_Rp.go 2 (c' := (251, [.ref 118, .int 1, .int hv, .float 0], [.int 0, .int 1, .ref 179], (h.1, qm_up (qm_up (qm_up (qm_up I43 176 hv.toInt.toNat v44) 172 hv.toInt.toNat 2) 175 hv.toInt.toNat v9) 178 1 (-1), h.2.2.1, h.2.2.2))) rfl ?_
            refine hp_ias rfl (hH.1 179 (0, 2) rfl) (fun ia_48 ib_48 => ?_)
            refine qm_Rp.go 1 (c' := (253, [.ref 118, .int 1, .int hv, .float 0], [.ref 118], (h.1, qm_up (qm_up (qm_up (qm_up (qm_up I43 176 hv.toInt.toNat v44) 172 hv.toInt.toNat 2) 175 hv.toInt.toNat v9) 178 1 (-1)) 179 1 0, h.2.2.1, h.2.2.2))) rfl ?_
            refine hp_getr rfl (hH.1 118 (17, 105) rfl) rfl (hH.2 118 90 (some 181) rfl) ?_
            refine qm_Rp.go 2 (c' := (258, [.ref 118, .int 1, .int hv, .float 0], [.int 1, .ref 181, .int 1, .ref 181], (h.1, qm_up (qm_up (qm_up (qm_up (qm_up I43 176 hv.toInt.toNat v44) 172 hv.toInt.toNat 2) 175 hv.toInt.toNat v9) 178 1 (-1)) 179 1 0, h.2.2.1, h.2.2.2))) rfl ?_
            obtain ⟨v50, q_v50⟩ : ∃ v_, h.2.1 181 1 = v_ := ⟨_, rfl⟩
            refine hp_ial (v := v50) rfl (hH.1 181 (0, 2) rfl) (show (qm_up (qm_up (qm_up (qm_up (qm_up I43 176 hv.toInt.toNat v44) 172 hv.toInt.toNat 2) 175 hv.toInt.toNat v9) 178 1 (-1)) 179 1 0) 181 1 = _ from ((hk_ot rfl).trans ((hk_ot rfl).trans ((hk_ot rfl).trans ((hk_ot rfl).trans ((hk_ot rfl).trans ((f_I43 181 rfl 1).trans ((hk_ot rfl).trans q_v50)))))))) (fun ia_50 ib_50 => ?_)
            refine qm_Rp.go 2 (c' := (261, [.ref 118, .int 1, .int hv, .float 0], [.int (v50 + 1), .int 1, .ref 181], (h.1, qm_up (qm_up (qm_up (qm_up (qm_up I43 176 hv.toInt.toNat v44) 172 hv.toInt.toNat 2) 175 hv.toInt.toNat v9) 178 1 (-1)) 179 1 0, h.2.2.1, h.2.2.2))) rfl ?_
            obtain ⟨v52, q_v52⟩ : ∃ v_, (v50 + 1) = v_ := ⟨_, rfl⟩
            rw [q_v52]
            refine hp_ias rfl (hH.1 181 (0, 2) rfl) (fun ia_52 ib_52 => ?_)
            refine qm_Rp.go 1 (c' := (263, [.ref 118, .int 1, .int hv, .float 0], [.int 1], (h.1, qm_up (qm_up (qm_up (qm_up (qm_up (qm_up I43 176 hv.toInt.toNat v44) 172 hv.toInt.toNat 2) 175 hv.toInt.toNat v9) 178 1 (-1)) 179 1 0) 181 1 v52, h.2.2.1, h.2.2.2))) rfl ?_
            refine qm_Rp.rt (v := (some (.int 1))) (h' := (h.1, qm_up (qm_up (qm_up (qm_up (qm_up (qm_up I43 176 hv.toInt.toNat v44) 172 hv.toInt.toNat 2) 175 hv.toInt.toNat v9) 178 1 (-1)) 179 1 0) 181 1 v52, h.2.2.1, h.2.2.2)) rfl ?_
            have e := jGo_f (s := 1) (A := A) (K := h.2.1) (c := 1) (by rw [q_hv]; omega) (by rw [q_v4, q_hv, q_v6]; exact hk_eqi.mpr (by omega)) (fun z => by unfold jWn at z; rw [q_v10, q_v9, q_v11] at z; omega) (by rw [q_v13, q_v15]; omega)
            have eR : jRe 1 A h.2.1 hv.toInt.toNat = v44.toInt := by unfold jRe; rw [q_v19, q_v38, q_v6, q_v41, okb_t (show v19.toInt = 0 by omega)]; exact e_v44.symm
            have eS : zR (jSh 1 A h.2.1 hv.toInt.toNat) I43 := by unfold jSh; rw [q_v19, q_v38, q_v6, q_v41, okb_t (show v19.toInt = 0 by omega)]; exact zr_I43
            rw [q_hv, eR, Int32.ofInt_toInt] at e
            have e2 : jEq (jFi h.2.1 1 hv.toInt.toNat v44) (qm_up (qm_up (qm_up (qm_up (qm_up (qm_up I43 176 hv.toInt.toNat v44) 172 hv.toInt.toNat 2) 175 hv.toInt.toNat v9) 178 1 (-1)) 179 1 0) 181 1 v52) := by
              unfold jFi
              rw [q_v13, q_v15, q_v9, q_v50, q_v52]
              exact jEq_up (jEq_up (jEq_up (jEq_up (jEq_up (jEq_up (jEq_fr jEq_rf f_I43 (by decide)))))))
            refine k (qm_up (qm_up (qm_up (qm_up (qm_up (qm_up I43 176 hv.toInt.toNat v44) 172 hv.toInt.toNat 2) 175 hv.toInt.toNat v9) 178 1 (-1)) 179 1 0) 181 1 v52) 1 (fun o ho i => ((hk_mod ho rfl).trans ((hk_mod ho rfl).trans ((hk_mod ho rfl).trans ((hk_mod ho rfl).trans ((hk_mod ho rfl).trans ((hk_mod ho rfl).trans ((f_I43 o (hk_ms rfl ho) i).trans ((hk_mod ho rfl).trans rfl))))))))) (by rw [e]; exact zR_j eS (fun o ho i => ((hk_mod ho rfl).trans ((hk_mod ho rfl).trans ((hk_mod ho rfl).trans ((hk_mod ho rfl).trans ((hk_mod ho rfl).trans ((hk_mod ho rfl).trans rfl)))))))) (by rw [e]; exact e2) (Or.inl ⟨rfl, ?_, ?_⟩)
            · rw [q_v50, q_v52]; exact hk_same
            · exact ((hk_neq (by decide)).trans ((hk_ot rfl).trans ((hk_ot rfl).trans ((hk_ot rfl).trans ((hk_ot rfl).trans ((hk_ot rfl).trans ((f_I43 181 rfl 0).trans ((hk_ot rfl).trans rfl))))))))
        · refine qm_Rp.go 1 (c' := (158, [.ref 118, .int 1, .int hv, .float 0], [.int 0], (h.1, qm_up h.2.1 179 1 v15, h.2.2.1, h.2.2.2))) rfl ?_
          refine qm_Rp.rt (v := (some (.int 0))) (h' := (h.1, qm_up h.2.1 179 1 v15, h.2.2.1, h.2.2.2)) rfl ?_
          have e := jGo_l (s := 1) (A := A) (K := h.2.1) (c := 1) (by rw [q_hv]; omega) (by rw [q_v4, q_hv, q_v6]; exact hk_eqi.mpr (by omega)) (fun z => by unfold jWn at z; rw [q_v10, q_v9, q_v11] at z; omega) (by rw [q_v13, q_v15]; omega)
          have e2 : jLi h.2.1 1 = qm_up h.2.1 179 1 v15 := by unfold jLi; rw [q_v13, q_v15]
          exact k (qm_up h.2.1 179 1 v15) 0 (fun o ho i => ((hk_mod ho rfl).trans rfl)) (by rw [e]; exact zR_j hr (fun o ho i => ((hk_mod ho rfl).trans rfl))) (by rw [e]; show jEq (jLi h.2.1 1) _; rw [e2]; exact jEq_rf) (Or.inr ⟨rfl, fun i => ((hk_ot rfl).trans rfl)⟩)
      · refine qm_Rp.go 2 (c' := (7, [.int v9, .int v10, .int v11], [.int v11, .int v9], h)) rfl ?_
        refine hp_cgt (ix := v9.toInt) (iy := v11.toInt) rfl rfl rfl (fun z54 => ?_) (fun z54 => ?_)
        · refine qm_Rp.go 1 (c' := (15, [.int v9, .int v10, .int v11], [.int 0], h)) rfl ?_
          refine qm_Rp.rt (v := (some (.int 0))) (h' := h) rfl ?_
          refine qm_Rp.go 2 (c' := (138, [.ref 118, .int 1, .int hv, .float 0], [.ref 118], h)) rfl ?_
          refine hp_getr rfl (hH.1 118 (17, 105) rfl) rfl (hH.2 118 88 (some 179) rfl) ?_
          refine qm_Rp.go 2 (c' := (143, [.ref 118, .int 1, .int hv, .float 0], [.int 1, .ref 179, .int 1, .ref 179], h)) rfl ?_
          obtain ⟨v55, q_v55⟩ : ∃ v_, h.2.1 179 1 = v_ := ⟨_, rfl⟩
          have b_v55 : (0 : Int) ≤ v55.toInt ∧ v55.toInt ≤ 1 := by rw [← q_v55]; exact b179
          refine hp_ial (v := v55) rfl (hH.1 179 (0, 2) rfl) q_v55 (fun ia_55 ib_55 => ?_)
          refine qm_Rp.go 2 (c' := (146, [.ref 118, .int 1, .int hv, .float 0], [.int (v55 + 1), .int 1, .ref 179], h)) rfl ?_
          obtain ⟨v57, q_v57, e_v57⟩ := hk_add (x := v55) (y := 1) (a := v55.toInt) (b := 1) rfl rfl (by omega) (by omega)
          rw [q_v57]
          refine hp_ias rfl (hH.1 179 (0, 2) rfl) (fun ia_57 ib_57 => ?_)
          refine qm_Rp.go 1 (c' := (148, [.ref 118, .int 1, .int hv, .float 0], [.ref 118], (h.1, qm_up h.2.1 179 1 v57, h.2.2.1, h.2.2.2))) rfl ?_
          refine hp_getr rfl (hH.1 118 (17, 105) rfl) rfl (hH.2 118 88 (some 179) rfl) ?_
          refine qm_Rp.go 1 (c' := (152, [.ref 118, .int 1, .int hv, .float 0], [.int 1, .ref 179], (h.1, qm_up h.2.1 179 1 v57, h.2.2.1, h.2.2.2))) rfl ?_
          refine hp_ial (v := v57) rfl (hH.1 179 (0, 2) rfl) (show (qm_up h.2.1 179 1 v57) 179 1 = _ from (hk_same)) (fun ia_58 ib_58 => ?_)
          refine qm_Rp.go 1 (c' := (154, [.ref 118, .int 1, .int hv, .float 0], [.int 2, .int v57], (h.1, qm_up h.2.1 179 1 v57, h.2.2.1, h.2.2.2))) rfl ?_
          refine hp_cge (ix := v57.toInt) (iy := 2) rfl rfl rfl (fun z60 => ?_) (fun z60 => ?_)
          · refine qm_Rp.go 1 (c' := (160, [.ref 118, .int 1, .int hv, .float 0], [.ref 118], (h.1, qm_up h.2.1 179 1 v57, h.2.2.1, h.2.2.2))) rfl ?_
            refine hp_getr rfl (hH.1 118 (17, 105) rfl) rfl (hH.2 118 84 (some 176) rfl) ?_
            refine qm_Rp.go 2 (c' := (165, [.ref 118, .int 1, .int hv, .float 0], [.ref 118, .int hv, .ref 176], (h.1, qm_up h.2.1 179 1 v57, h.2.2.1, h.2.2.2))) rfl ?_
            refine hp_getr rfl (hH.1 118 (17, 105) rfl) rfl (hH.2 118 76 (some 168) rfl) ?_
            refine qm_Rp.go 1 (c' := (169, [.ref 118, .int 1, .int hv, .float 0], [.int hv, .ref 168, .int hv, .ref 176], (h.1, qm_up h.2.1 179 1 v57, h.2.2.1, h.2.2.2))) rfl ?_
            obtain ⟨v61, q_v61⟩ : ∃ v_, h.2.1 168 hv.toInt.toNat = v_ := ⟨_, rfl⟩
            refine hp_ial (v := v61) rfl (hH.1 168 (0, 40) rfl) (show (qm_up h.2.1 179 1 v57) 168 hv.toInt.toNat = _ from ((hk_ot rfl).trans q_v61)) (fun ia_61 ib_61 => ?_)
            refine qm_Rp.go 0 (c' := (170, [.ref 118, .int 1, .int hv, .float 0], [.int v61, .int hv, .ref 176], (h.1, qm_up h.2.1 179 1 v57, h.2.2.1, h.2.2.2))) rfl ?_
            refine hp_zne (ix := v61.toInt) rfl rfl (fun z63 => ?_) (fun z63 => ?_)
            · refine qm_Rp.go 2 (c' := (200, [.ref 118, .int 1, .int hv, .float 0], [.ref 118, .ref 118, .int hv, .ref 176], (h.1, qm_up h.2.1 179 1 v57, h.2.2.1, h.2.2.2))) rfl ?_
              refine hp_getr rfl (hH.1 118 (17, 105) rfl) rfl (hH.2 118 78 (some 170) rfl) ?_
              refine qm_Rp.go 1 (c' := (204, [.ref 118, .int 1, .int hv, .float 0], [.int hv, .ref 170, .ref 118, .int hv, .ref 176], (h.1, qm_up h.2.1 179 1 v57, h.2.2.1, h.2.2.2))) rfl ?_
              refine hp_ial (v := v6) rfl (hH.1 170 (0, 40) rfl) (show (qm_up h.2.1 179 1 v57) 170 hv.toInt.toNat = _ from ((hk_ot rfl).trans q_v6)) (fun ia_63 ib_63 => ?_)
              refine qm_Rp.go 1 (c' := (206, [.ref 118, .int 1, .int hv, .float 0], [.ref 118, .int v6, .ref 118, .int hv, .ref 176], (h.1, qm_up h.2.1 179 1 v57, h.2.2.1, h.2.2.2))) rfl ?_
              refine hp_getr rfl (hH.1 118 (17, 105) rfl) rfl (hH.2 118 79 (some 171) rfl) ?_
              refine qm_Rp.go 1 (c' := (210, [.ref 118, .int 1, .int hv, .float 0], [.int hv, .ref 171, .int v6, .ref 118, .int hv, .ref 176], (h.1, qm_up h.2.1 179 1 v57, h.2.2.1, h.2.2.2))) rfl ?_
              obtain ⟨v65, q_v65⟩ : ∃ v_, h.2.1 171 hv.toInt.toNat = v_ := ⟨_, rfl⟩
              refine hp_ial (v := v65) rfl (hH.1 171 (0, 40) rfl) (show (qm_up h.2.1 179 1 v57) 171 hv.toInt.toNat = _ from ((hk_ot rfl).trans q_v65)) (fun ia_65 ib_65 => ?_)
              refine qm_Rp.go 1 (c' := (212, [.ref 118, .int 1, .int hv, .float 0], [.ref 118, .int v65, .int v6, .ref 118, .int hv, .ref 176], (h.1, qm_up h.2.1 179 1 v57, h.2.2.1, h.2.2.2))) rfl ?_
              refine hp_getr rfl (hH.1 118 (17, 105) rfl) rfl (hH.2 118 77 (some 169) rfl) ?_
              refine qm_Rp.go 1 (c' := (216, [.ref 118, .int 1, .int hv, .float 0], [.int hv, .ref 169, .int v65, .int v6, .ref 118, .int hv, .ref 176], (h.1, qm_up h.2.1 179 1 v57, h.2.2.1, h.2.2.2))) rfl ?_
              obtain ⟨v67, q_v67⟩ : ∃ v_, h.2.1 169 hv.toInt.toNat = v_ := ⟨_, rfl⟩
              refine hp_ial (v := v67) rfl (hH.1 169 (0, 40) rfl) (show (qm_up h.2.1 179 1 v57) 169 hv.toInt.toNat = _ from ((hk_ot rfl).trans q_v67)) (fun ia_67 ib_67 => ?_)
              refine qm_Rp.go 0 (c' := (217, [.ref 118, .int 1, .int hv, .float 0], [.int v67, .int v65, .int v6, .ref 118, .int hv, .ref 176], (h.1, qm_up h.2.1 179 1 v57, h.2.2.1, h.2.2.2))) rfl ?_
              refine hp_inv (o := 118) (r := [.int hv, .ref 176]) (as := [.ref 118, .int v6, .int v65, .int v67]) rfl rfl (hH.1 118 (17, 105) rfl) rfl rfl rfl (pz_runl1 (h := (h.1, qm_up h.2.1 179 1 v57, h.2.2.1, h.2.2.2)) hH hP.1 (zR_j hr (fun o ho i => ((hk_mod ho rfl).trans rfl))) hP.2.2.1 (fun I69 v70 f_I69 zr_I69 e_v70 => ?_))
              have f_I69 : ∀ o, [150, 151, 152, 153, 154, 155, 156].contains o = false → ∀ i, I69 o i = (qm_up h.2.1 179 1 v57) o i := f_I69
              refine qm_Rp.go 0 (c' := (220, [.ref 118, .int 1, .int hv, .float 0], [.int v70, .int hv, .ref 176], (h.1, I69, h.2.2.1, h.2.2.2))) rfl ?_
              refine hp_ias rfl (hH.1 176 (0, 40) rfl) (fun ia_70 ib_70 => ?_)
              refine qm_Rp.go 1 (c' := (222, [.ref 118, .int 1, .int hv, .float 0], [.ref 118], (h.1, qm_up I69 176 hv.toInt.toNat v70, h.2.2.1, h.2.2.2))) rfl ?_
              refine hp_getr rfl (hH.1 118 (17, 105) rfl) rfl (hH.2 118 80 (some 172) rfl) ?_
              refine qm_Rp.go 2 (c' := (227, [.ref 118, .int 1, .int hv, .float 0], [.int 2, .int hv, .ref 172], (h.1, qm_up I69 176 hv.toInt.toNat v70, h.2.2.1, h.2.2.2))) rfl ?_
              refine hp_ias rfl (hH.1 172 (0, 40) rfl) (fun ia_71 ib_71 => ?_)
              refine qm_Rp.go 1 (c' := (229, [.ref 118, .int 1, .int hv, .float 0], [.ref 118], (h.1, qm_up (qm_up I69 176 hv.toInt.toNat v70) 172 hv.toInt.toNat 2, h.2.2.1, h.2.2.2))) rfl ?_
              refine hp_getr rfl (hH.1 118 (17, 105) rfl) rfl (hH.2 118 83 (some 175) rfl) ?_
              refine qm_Rp.go 2 (c' := (234, [.ref 118, .int 1, .int hv, .float 0], [.ref 118, .int hv, .ref 175], (h.1, qm_up (qm_up I69 176 hv.toInt.toNat v70) 172 hv.toInt.toNat 2, h.2.2.1, h.2.2.2))) rfl ?_
              refine hp_geti (v := v9) rfl (hH.1 118 (17, 105) rfl) rfl (show (qm_up (qm_up I69 176 hv.toInt.toNat v70) 172 hv.toInt.toNat 2) 118 85 = _ from ((hk_ot rfl).trans ((hk_ot rfl).trans ((f_I69 118 rfl 85).trans ((hk_ot rfl).trans q_v9))))) ?_
              refine qm_Rp.go 0 (c' := (237, [.ref 118, .int 1, .int hv, .float 0], [.int v9, .int hv, .ref 175], (h.1, qm_up (qm_up I69 176 hv.toInt.toNat v70) 172 hv.toInt.toNat 2, h.2.2.1, h.2.2.2))) rfl ?_
              refine hp_ias rfl (hH.1 175 (0, 40) rfl) (fun ia_72 ib_72 => ?_)
              refine qm_Rp.go 1 (c' := (239, [.ref 118, .int 1, .int hv, .float 0], [.ref 118], (h.1, qm_up (qm_up (qm_up I69 176 hv.toInt.toNat v70) 172 hv.toInt.toNat 2) 175 hv.toInt.toNat v9, h.2.2.1, h.2.2.2))) rfl ?_
              refine hp_getr rfl (hH.1 118 (17, 105) rfl) rfl (hH.2 118 87 (some 178) rfl) ?_
              refine qm_Rp.go 2 (c' := (244, [.ref 118, .int 1, .int hv, .float 0], [.int (-1), .int 1, .ref 178], (h.1, qm_up (qm_up (qm_up I69 176 hv.toInt.toNat v70) 172 hv.toInt.toNat 2) 175 hv.toInt.toNat v9, h.2.2.1, h.2.2.2))) rfl ?_
              refine hp_ias rfl (hH.1 178 (0, 2) rfl) (fun ia_73 ib_73 => ?_)
              refine qm_Rp.go 1 (c' := (246, [.ref 118, .int 1, .int hv, .float 0], [.ref 118], (h.1, qm_up (qm_up (qm_up (qm_up I69 176 hv.toInt.toNat v70) 172 hv.toInt.toNat 2) 175 hv.toInt.toNat v9) 178 1 (-1), h.2.2.1, h.2.2.2))) rfl ?_
              refine hp_getr rfl (hH.1 118 (17, 105) rfl) rfl (hH.2 118 88 (some 179) rfl) ?_
              refine qm_Rp.go 2 (c' := (251, [.ref 118, .int 1, .int hv, .float 0], [.int 0, .int 1, .ref 179], (h.1, qm_up (qm_up (qm_up (qm_up I69 176 hv.toInt.toNat v70) 172 hv.toInt.toNat 2) 175 hv.toInt.toNat v9) 178 1 (-1), h.2.2.1, h.2.2.2))) rfl ?_
              refine hp_ias rfl (hH.1 179 (0, 2) rfl) (fun ia_74 ib_74 => ?_)
              refine qm_Rp.go 1 (c' := (253, [.ref 118, .int 1, .int hv, .float 0], [.ref 118], (h.1, qm_up (qm_up (qm_up (qm_up (qm_up I69 176 hv.toInt.toNat v70) 172 hv.toInt.toNat 2) 175 hv.toInt.toNat v9) 178 1 (-1)) 179 1 0, h.2.2.1, h.2.2.2))) rfl ?_
              refine hp_getr rfl (hH.1 118 (17, 105) rfl) rfl (hH.2 118 90 (some 181) rfl) ?_
              refine qm_Rp.go 2 (c' := (258, [.ref 118, .int 1, .int hv, .float 0], [.int 1, .ref 181, .int 1, .ref 181], (h.1, qm_up (qm_up (qm_up (qm_up (qm_up I69 176 hv.toInt.toNat v70) 172 hv.toInt.toNat 2) 175 hv.toInt.toNat v9) 178 1 (-1)) 179 1 0, h.2.2.1, h.2.2.2))) rfl ?_
              obtain ⟨v76, q_v76⟩ : ∃ v_, h.2.1 181 1 = v_ := ⟨_, rfl⟩
              refine hp_ial (v := v76) rfl (hH.1 181 (0, 2) rfl) (show (qm_up (qm_up (qm_up (qm_up (qm_up I69 176 hv.toInt.toNat v70) 172 hv.toInt.toNat 2) 175 hv.toInt.toNat v9) 178 1 (-1)) 179 1 0) 181 1 = _ from ((hk_ot rfl).trans ((hk_ot rfl).trans ((hk_ot rfl).trans ((hk_ot rfl).trans ((hk_ot rfl).trans ((f_I69 181 rfl 1).trans ((hk_ot rfl).trans q_v76)))))))) (fun ia_76 ib_76 => ?_)
              refine qm_Rp.go 2 (c' := (261, [.ref 118, .int 1, .int hv, .float 0], [.int (v76 + 1), .int 1, .ref 181], (h.1, qm_up (qm_up (qm_up (qm_up (qm_up I69 176 hv.toInt.toNat v70) 172 hv.toInt.toNat 2) 175 hv.toInt.toNat v9) 178 1 (-1)) 179 1 0, h.2.2.1, h.2.2.2))) rfl ?_
              obtain ⟨v78, q_v78⟩ : ∃ v_, (v76 + 1) = v_ := ⟨_, rfl⟩
              rw [q_v78]
              refine hp_ias rfl (hH.1 181 (0, 2) rfl) (fun ia_78 ib_78 => ?_)
              refine qm_Rp.go 1 (c' := (263, [.ref 118, .int 1, .int hv, .float 0], [.int 1], (h.1, qm_up (qm_up (qm_up (qm_up (qm_up (qm_up I69 176 hv.toInt.toNat v70) 172 hv.toInt.toNat 2) 175 hv.toInt.toNat v9) 178 1 (-1)) 179 1 0) 181 1 v78, h.2.2.1, h.2.2.2))) rfl ?_
              refine qm_Rp.rt (v := (some (.int 1))) (h' := (h.1, qm_up (qm_up (qm_up (qm_up (qm_up (qm_up I69 176 hv.toInt.toNat v70) 172 hv.toInt.toNat 2) 175 hv.toInt.toNat v9) 178 1 (-1)) 179 1 0) 181 1 v78, h.2.2.1, h.2.2.2)) rfl ?_
              have e := jGo_f (s := 1) (A := A) (K := h.2.1) (c := 1) (by rw [q_hv]; omega) (by rw [q_v4, q_hv, q_v6]; exact hk_eqi.mpr (by omega)) (fun z => by unfold jWn at z; rw [q_v10, q_v9, q_v11] at z; omega) (by rw [q_v55, q_v57]; omega)
              have eR : jRe 1 A h.2.1 hv.toInt.toNat = v70.toInt := by unfold jRe; rw [q_v61, q_v67, q_v6, q_v65, okb_f (show ¬ v61.toInt = 0 by omega)]; exact e_v70.symm
              have eS : zR (jSh 1 A h.2.1 hv.toInt.toNat) I69 := by unfold jSh; rw [q_v61, q_v67, q_v6, q_v65, okb_f (show ¬ v61.toInt = 0 by omega)]; exact zr_I69
              rw [q_hv, eR, Int32.ofInt_toInt] at e
              have e2 : jEq (jFi h.2.1 1 hv.toInt.toNat v70) (qm_up (qm_up (qm_up (qm_up (qm_up (qm_up I69 176 hv.toInt.toNat v70) 172 hv.toInt.toNat 2) 175 hv.toInt.toNat v9) 178 1 (-1)) 179 1 0) 181 1 v78) := by
                unfold jFi
                rw [q_v55, q_v57, q_v9, q_v76, q_v78]
                exact jEq_up (jEq_up (jEq_up (jEq_up (jEq_up (jEq_up (jEq_fr jEq_rf f_I69 (by decide)))))))
              refine k (qm_up (qm_up (qm_up (qm_up (qm_up (qm_up I69 176 hv.toInt.toNat v70) 172 hv.toInt.toNat 2) 175 hv.toInt.toNat v9) 178 1 (-1)) 179 1 0) 181 1 v78) 1 (fun o ho i => ((hk_mod ho rfl).trans ((hk_mod ho rfl).trans ((hk_mod ho rfl).trans ((hk_mod ho rfl).trans ((hk_mod ho rfl).trans ((hk_mod ho rfl).trans ((f_I69 o (hk_ms rfl ho) i).trans ((hk_mod ho rfl).trans rfl))))))))) (by rw [e]; exact zR_j eS (fun o ho i => ((hk_mod ho rfl).trans ((hk_mod ho rfl).trans ((hk_mod ho rfl).trans ((hk_mod ho rfl).trans ((hk_mod ho rfl).trans ((hk_mod ho rfl).trans rfl)))))))) (by rw [e]; exact e2) (Or.inl ⟨rfl, ?_, ?_⟩)
              · rw [q_v76, q_v78]; exact hk_same
              · exact ((hk_neq (by decide)).trans ((hk_ot rfl).trans ((hk_ot rfl).trans ((hk_ot rfl).trans ((hk_ot rfl).trans ((hk_ot rfl).trans ((f_I69 181 rfl 0).trans ((hk_ot rfl).trans rfl))))))))
            · refine qm_Rp.go 2 (c' := (175, [.ref 118, .int 1, .int hv, .float 0], [.ref 118, .ref 118, .int hv, .ref 176], (h.1, qm_up h.2.1 179 1 v57, h.2.2.1, h.2.2.2))) rfl ?_
              refine hp_getr rfl (hH.1 118 (17, 105) rfl) rfl (hH.2 118 77 (some 169) rfl) ?_
              refine qm_Rp.go 1 (c' := (179, [.ref 118, .int 1, .int hv, .float 0], [.int hv, .ref 169, .ref 118, .int hv, .ref 176], (h.1, qm_up h.2.1 179 1 v57, h.2.2.1, h.2.2.2))) rfl ?_
              obtain ⟨v80, q_v80⟩ : ∃ v_, h.2.1 169 hv.toInt.toNat = v_ := ⟨_, rfl⟩
              refine hp_ial (v := v80) rfl (hH.1 169 (0, 40) rfl) (show (qm_up h.2.1 179 1 v57) 169 hv.toInt.toNat = _ from ((hk_ot rfl).trans q_v80)) (fun ia_80 ib_80 => ?_)
              refine qm_Rp.go 1 (c' := (181, [.ref 118, .int 1, .int hv, .float 0], [.ref 118, .int v80, .ref 118, .int hv, .ref 176], (h.1, qm_up h.2.1 179 1 v57, h.2.2.1, h.2.2.2))) rfl ?_
              refine hp_getr rfl (hH.1 118 (17, 105) rfl) rfl (hH.2 118 78 (some 170) rfl) ?_
              refine qm_Rp.go 1 (c' := (185, [.ref 118, .int 1, .int hv, .float 0], [.int hv, .ref 170, .int v80, .ref 118, .int hv, .ref 176], (h.1, qm_up h.2.1 179 1 v57, h.2.2.1, h.2.2.2))) rfl ?_
              refine hp_ial (v := v6) rfl (hH.1 170 (0, 40) rfl) (show (qm_up h.2.1 179 1 v57) 170 hv.toInt.toNat = _ from ((hk_ot rfl).trans q_v6)) (fun ia_81 ib_81 => ?_)
              refine qm_Rp.go 1 (c' := (187, [.ref 118, .int 1, .int hv, .float 0], [.ref 118, .int v6, .int v80, .ref 118, .int hv, .ref 176], (h.1, qm_up h.2.1 179 1 v57, h.2.2.1, h.2.2.2))) rfl ?_
              refine hp_getr rfl (hH.1 118 (17, 105) rfl) rfl (hH.2 118 79 (some 171) rfl) ?_
              refine qm_Rp.go 1 (c' := (191, [.ref 118, .int 1, .int hv, .float 0], [.int hv, .ref 171, .int v6, .int v80, .ref 118, .int hv, .ref 176], (h.1, qm_up h.2.1 179 1 v57, h.2.2.1, h.2.2.2))) rfl ?_
              obtain ⟨v83, q_v83⟩ : ∃ v_, h.2.1 171 hv.toInt.toNat = v_ := ⟨_, rfl⟩
              refine hp_ial (v := v83) rfl (hH.1 171 (0, 40) rfl) (show (qm_up h.2.1 179 1 v57) 171 hv.toInt.toNat = _ from ((hk_ot rfl).trans q_v83)) (fun ia_83 ib_83 => ?_)
              refine qm_Rp.go 0 (c' := (192, [.ref 118, .int 1, .int hv, .float 0], [.int v83, .int v6, .int v80, .ref 118, .int hv, .ref 176], (h.1, qm_up h.2.1 179 1 v57, h.2.2.1, h.2.2.2))) rfl ?_
              refine hp_inv (o := 118) (r := [.int hv, .ref 176]) (as := [.ref 118, .int v80, .int v6, .int v83]) rfl rfl (hH.1 118 (17, 105) rfl) rfl rfl rfl (pz_rload1 (h := (h.1, qm_up h.2.1 179 1 v57, h.2.2.1, h.2.2.2)) hH hP.1 (zR_j hr (fun o ho i => ((hk_mod ho rfl).trans rfl))) hP.2.2.1 (fun I85 v86 f_I85 zr_I85 e_v86 => ?_))
              have f_I85 : ∀ o, [150, 151, 152, 153, 154, 155, 156].contains o = false → ∀ i, I85 o i = (qm_up h.2.1 179 1 v57) o i := f_I85
              refine qm_Rp.go 1 (c' := (220, [.ref 118, .int 1, .int hv, .float 0], [.int v86, .int hv, .ref 176], (h.1, I85, h.2.2.1, h.2.2.2))) rfl ?_
              refine hp_ias rfl (hH.1 176 (0, 40) rfl) (fun ia_86 ib_86 => ?_)
              refine qm_Rp.go 1 (c' := (222, [.ref 118, .int 1, .int hv, .float 0], [.ref 118], (h.1, qm_up I85 176 hv.toInt.toNat v86, h.2.2.1, h.2.2.2))) rfl ?_
              refine hp_getr rfl (hH.1 118 (17, 105) rfl) rfl (hH.2 118 80 (some 172) rfl) ?_
              refine qm_Rp.go 2 (c' := (227, [.ref 118, .int 1, .int hv, .float 0], [.int 2, .int hv, .ref 172], (h.1, qm_up I85 176 hv.toInt.toNat v86, h.2.2.1, h.2.2.2))) rfl ?_
              refine hp_ias rfl (hH.1 172 (0, 40) rfl) (fun ia_87 ib_87 => ?_)
              refine qm_Rp.go 1 (c' := (229, [.ref 118, .int 1, .int hv, .float 0], [.ref 118], (h.1, qm_up (qm_up I85 176 hv.toInt.toNat v86) 172 hv.toInt.toNat 2, h.2.2.1, h.2.2.2))) rfl ?_
              refine hp_getr rfl (hH.1 118 (17, 105) rfl) rfl (hH.2 118 83 (some 175) rfl) ?_
              refine qm_Rp.go 2 (c' := (234, [.ref 118, .int 1, .int hv, .float 0], [.ref 118, .int hv, .ref 175], (h.1, qm_up (qm_up I85 176 hv.toInt.toNat v86) 172 hv.toInt.toNat 2, h.2.2.1, h.2.2.2))) rfl ?_
              refine hp_geti (v := v9) rfl (hH.1 118 (17, 105) rfl) rfl (show (qm_up (qm_up I85 176 hv.toInt.toNat v86) 172 hv.toInt.toNat 2) 118 85 = _ from ((hk_ot rfl).trans ((hk_ot rfl).trans ((f_I85 118 rfl 85).trans ((hk_ot rfl).trans q_v9))))) ?_
              refine qm_Rp.go 0 (c' := (237, [.ref 118, .int 1, .int hv, .float 0], [.int v9, .int hv, .ref 175], (h.1, qm_up (qm_up I85 176 hv.toInt.toNat v86) 172 hv.toInt.toNat 2, h.2.2.1, h.2.2.2))) rfl ?_
              refine hp_ias rfl (hH.1 175 (0, 40) rfl) (fun ia_88 ib_88 => ?_)
              refine qm_Rp.go 1 (c' := (239, [.ref 118, .int 1, .int hv, .float 0], [.ref 118], (h.1, qm_up (qm_up (qm_up I85 176 hv.toInt.toNat v86) 172 hv.toInt.toNat 2) 175 hv.toInt.toNat v9, h.2.2.1, h.2.2.2))) rfl ?_
              refine hp_getr rfl (hH.1 118 (17, 105) rfl) rfl (hH.2 118 87 (some 178) rfl) ?_
              refine qm_Rp.go 2 (c' := (244, [.ref 118, .int 1, .int hv, .float 0], [.int (-1), .int 1, .ref 178], (h.1, qm_up (qm_up (qm_up I85 176 hv.toInt.toNat v86) 172 hv.toInt.toNat 2) 175 hv.toInt.toNat v9, h.2.2.1, h.2.2.2))) rfl ?_
              refine hp_ias rfl (hH.1 178 (0, 2) rfl) (fun ia_89 ib_89 => ?_)
              refine qm_Rp.go 1 (c' := (246, [.ref 118, .int 1, .int hv, .float 0], [.ref 118], (h.1, qm_up (qm_up (qm_up (qm_up I85 176 hv.toInt.toNat v86) 172 hv.toInt.toNat 2) 175 hv.toInt.toNat v9) 178 1 (-1), h.2.2.1, h.2.2.2))) rfl ?_
              refine hp_getr rfl (hH.1 118 (17, 105) rfl) rfl (hH.2 118 88 (some 179) rfl) ?_
              refine qm_Rp.go 2 (c' := (251, [.ref 118, .int 1, .int hv, .float 0], [.int 0, .int 1, .ref 179], (h.1, qm_up (qm_up (qm_up (qm_up I85 176 hv.toInt.toNat v86) 172 hv.toInt.toNat 2) 175 hv.toInt.toNat v9) 178 1 (-1), h.2.2.1, h.2.2.2))) rfl ?_
              refine hp_ias rfl (hH.1 179 (0, 2) rfl) (fun ia_90 ib_90 => ?_)
              refine qm_Rp.go 1 (c' := (253, [.ref 118, .int 1, .int hv, .float 0], [.ref 118], (h.1, qm_up (qm_up (qm_up (qm_up (qm_up I85 176 hv.toInt.toNat v86) 172 hv.toInt.toNat 2) 175 hv.toInt.toNat v9) 178 1 (-1)) 179 1 0, h.2.2.1, h.2.2.2))) rfl ?_
              refine hp_getr rfl (hH.1 118 (17, 105) rfl) rfl (hH.2 118 90 (some 181) rfl) ?_
              refine qm_Rp.go 2 (c' := (258, [.ref 118, .int 1, .int hv, .float 0], [.int 1, .ref 181, .int 1, .ref 181], (h.1, qm_up (qm_up (qm_up (qm_up (qm_up I85 176 hv.toInt.toNat v86) 172 hv.toInt.toNat 2) 175 hv.toInt.toNat v9) 178 1 (-1)) 179 1 0, h.2.2.1, h.2.2.2))) rfl ?_
              obtain ⟨v92, q_v92⟩ : ∃ v_, h.2.1 181 1 = v_ := ⟨_, rfl⟩
              refine hp_ial (v := v92) rfl (hH.1 181 (0, 2) rfl) (show (qm_up (qm_up (qm_up (qm_up (qm_up I85 176 hv.toInt.toNat v86) 172 hv.toInt.toNat 2) 175 hv.toInt.toNat v9) 178 1 (-1)) 179 1 0) 181 1 = _ from ((hk_ot rfl).trans ((hk_ot rfl).trans ((hk_ot rfl).trans ((hk_ot rfl).trans ((hk_ot rfl).trans ((f_I85 181 rfl 1).trans ((hk_ot rfl).trans q_v92)))))))) (fun ia_92 ib_92 => ?_)
              refine qm_Rp.go 2 (c' := (261, [.ref 118, .int 1, .int hv, .float 0], [.int (v92 + 1), .int 1, .ref 181], (h.1, qm_up (qm_up (qm_up (qm_up (qm_up I85 176 hv.toInt.toNat v86) 172 hv.toInt.toNat 2) 175 hv.toInt.toNat v9) 178 1 (-1)) 179 1 0, h.2.2.1, h.2.2.2))) rfl ?_
              obtain ⟨v94, q_v94⟩ : ∃ v_, (v92 + 1) = v_ := ⟨_, rfl⟩
              rw [q_v94]
              refine hp_ias rfl (hH.1 181 (0, 2) rfl) (fun ia_94 ib_94 => ?_)
              refine qm_Rp.go 1 (c' := (263, [.ref 118, .int 1, .int hv, .float 0], [.int 1], (h.1, qm_up (qm_up (qm_up (qm_up (qm_up (qm_up I85 176 hv.toInt.toNat v86) 172 hv.toInt.toNat 2) 175 hv.toInt.toNat v9) 178 1 (-1)) 179 1 0) 181 1 v94, h.2.2.1, h.2.2.2))) rfl ?_
              refine qm_Rp.rt (v := (some (.int 1))) (h' := (h.1, qm_up (qm_up (qm_up (qm_up (qm_up (qm_up I85 176 hv.toInt.toNat v86) 172 hv.toInt.toNat 2) 175 hv.toInt.toNat v9) 178 1 (-1)) 179 1 0) 181 1 v94, h.2.2.1, h.2.2.2)) rfl ?_
              have e := jGo_f (s := 1) (A := A) (K := h.2.1) (c := 1) (by rw [q_hv]; omega) (by rw [q_v4, q_hv, q_v6]; exact hk_eqi.mpr (by omega)) (fun z => by unfold jWn at z; rw [q_v10, q_v9, q_v11] at z; omega) (by rw [q_v55, q_v57]; omega)
              have eR : jRe 1 A h.2.1 hv.toInt.toNat = v86.toInt := by unfold jRe; rw [q_v61, q_v80, q_v6, q_v83, okb_t (show v61.toInt = 0 by omega)]; exact e_v86.symm
              have eS : zR (jSh 1 A h.2.1 hv.toInt.toNat) I85 := by unfold jSh; rw [q_v61, q_v80, q_v6, q_v83, okb_t (show v61.toInt = 0 by omega)]; exact zr_I85
              rw [q_hv, eR, Int32.ofInt_toInt] at e
              have e2 : jEq (jFi h.2.1 1 hv.toInt.toNat v86) (qm_up (qm_up (qm_up (qm_up (qm_up (qm_up I85 176 hv.toInt.toNat v86) 172 hv.toInt.toNat 2) 175 hv.toInt.toNat v9) 178 1 (-1)) 179 1 0) 181 1 v94) := by
                unfold jFi
                rw [q_v55, q_v57, q_v9, q_v92, q_v94]
                exact jEq_up (jEq_up (jEq_up (jEq_up (jEq_up (jEq_up (jEq_fr jEq_rf f_I85 (by decide)))))))
              refine k (qm_up (qm_up (qm_up (qm_up (qm_up (qm_up I85 176 hv.toInt.toNat v86) 172 hv.toInt.toNat 2) 175 hv.toInt.toNat v9) 178 1 (-1)) 179 1 0) 181 1 v94) 1 (fun o ho i => ((hk_mod ho rfl).trans ((hk_mod ho rfl).trans ((hk_mod ho rfl).trans ((hk_mod ho rfl).trans ((hk_mod ho rfl).trans ((hk_mod ho rfl).trans ((f_I85 o (hk_ms rfl ho) i).trans ((hk_mod ho rfl).trans rfl))))))))) (by rw [e]; exact zR_j eS (fun o ho i => ((hk_mod ho rfl).trans ((hk_mod ho rfl).trans ((hk_mod ho rfl).trans ((hk_mod ho rfl).trans ((hk_mod ho rfl).trans ((hk_mod ho rfl).trans rfl)))))))) (by rw [e]; exact e2) (Or.inl ⟨rfl, ?_, ?_⟩)
              · rw [q_v92, q_v94]; exact hk_same
              · exact ((hk_neq (by decide)).trans ((hk_ot rfl).trans ((hk_ot rfl).trans ((hk_ot rfl).trans ((hk_ot rfl).trans ((hk_ot rfl).trans ((f_I85 181 rfl 0).trans ((hk_ot rfl).trans rfl))))))))
          · refine qm_Rp.go 1 (c' := (158, [.ref 118, .int 1, .int hv, .float 0], [.int 0], (h.1, qm_up h.2.1 179 1 v57, h.2.2.1, h.2.2.2))) rfl ?_
            refine qm_Rp.rt (v := (some (.int 0))) (h' := (h.1, qm_up h.2.1 179 1 v57, h.2.2.1, h.2.2.2)) rfl ?_
            have e := jGo_l (s := 1) (A := A) (K := h.2.1) (c := 1) (by rw [q_hv]; omega) (by rw [q_v4, q_hv, q_v6]; exact hk_eqi.mpr (by omega)) (fun z => by unfold jWn at z; rw [q_v10, q_v9, q_v11] at z; omega) (by rw [q_v55, q_v57]; omega)
            have e2 : jLi h.2.1 1 = qm_up h.2.1 179 1 v57 := by unfold jLi; rw [q_v55, q_v57]
            exact k (qm_up h.2.1 179 1 v57) 0 (fun o ho i => ((hk_mod ho rfl).trans rfl)) (by rw [e]; exact zR_j hr (fun o ho i => ((hk_mod ho rfl).trans rfl))) (by rw [e]; show jEq (jLi h.2.1 1) _; rw [e2]; exact jEq_rf) (Or.inr ⟨rfl, fun i => ((hk_ot rfl).trans rfl)⟩)
        · refine qm_Rp.go 2 (c' := (15, [.int v9, .int v10, .int v11], [.int 1], h)) rfl ?_
          refine qm_Rp.rt (v := (some (.int 1))) (h' := h) rfl ?_
          refine qm_Rp.go 2 (c' := (136, [.ref 118, .int 1, .int hv, .float 0], [.int 0], h)) rfl ?_
          refine qm_Rp.rt (v := (some (.int 0))) (h' := h) rfl ?_
          have e := jGo_w (s := 1) (A := A) (K := h.2.1) (c := 1) (by rw [q_hv]; omega) (by rw [q_v4, q_hv, q_v6]; exact hk_eqi.mpr (by omega)) (by unfold jWn; rw [q_v10, q_v9, q_v11]; omega)
          exact k h.2.1 0 (fun _ _ _ => rfl) (by rw [e]; exact hr) (by rw [e]; exact jEq_rf) (Or.inr ⟨rfl, fun _ => rfl⟩)
    · refine qm_Rp.go 1 (c' := (50, [.ref 118, .int 1, .int hv, .float 0], [.ref 118], h)) rfl ?_
      refine hp_getr rfl (hH.1 118 (17, 105) rfl) rfl (hH.2 118 86 (some 177) rfl) ?_
      refine qm_Rp.go 1 (c' := (54, [.ref 118, .int 1, .int hv, .float 0], [.int 1, .ref 177], h)) rfl ?_
      refine hp_ial (v := v4) rfl (hH.1 177 (0, 2) rfl) q_v4 (fun ia_95 ib_95 => ?_)
      refine qm_Rp.go 1 (c' := (56, [.ref 118, .int 1, .int hv, .float 0], [.ref 118, .int v4], h)) rfl ?_
      refine hp_getr rfl (hH.1 118 (17, 105) rfl) rfl (hH.2 118 78 (some 170) rfl) ?_
      refine qm_Rp.go 1 (c' := (60, [.ref 118, .int 1, .int hv, .float 0], [.int hv, .ref 170, .int v4], h)) rfl ?_
      refine hp_ial (v := v6) rfl (hH.1 170 (0, 40) rfl) q_v6 (fun ia_96 ib_96 => ?_)
      refine qm_Rp.go 0 (c' := (61, [.ref 118, .int 1, .int hv, .float 0], [.int v6, .int v4], h)) rfl ?_
      refine hp_cge (ix := v4.toInt) (iy := v6.toInt) rfl rfl rfl (fun z98 => ?_) (fun z98 => ?_)
      · refine qm_Rp.go 1 (c' := (76, [.ref 118, .int 1, .int hv, .float 0], [.ref 118], h)) rfl ?_
        refine hp_getr rfl (hH.1 118 (17, 105) rfl) rfl (hH.2 118 86 (some 177) rfl) ?_
        refine qm_Rp.go 1 (c' := (80, [.ref 118, .int 1, .int hv, .float 0], [.int 1, .ref 177], h)) rfl ?_
        refine hp_ial (v := v4) rfl (hH.1 177 (0, 2) rfl) q_v4 (fun ia_98 ib_98 => ?_)
        refine qm_Rp.go 2 (c' := (83, [.ref 118, .int 1, .int hv, .float 0], [.int (v4 - 1)], h)) rfl ?_
        obtain ⟨v100, q_v100, e_v100⟩ := hk_sub (x := v4) (y := 1) (a := v4.toInt) (b := 1) rfl rfl (by omega) (by omega)
        rw [q_v100]
        refine qm_Rp.go 3 (c' := (86, [.ref 118, .int 1, .int hv, .int v100], [.ref 118, .int v100], h)) rfl ?_
        refine hp_getr rfl (hH.1 118 (17, 105) rfl) rfl (hH.2 118 86 (some 177) rfl) ?_
        refine qm_Rp.go 3 (c' := (92, [.ref 118, .int 1, .int hv, .int v100], [.int 0, .ref 177, .int v100], h)) rfl ?_
        obtain ⟨v101, q_v101⟩ : ∃ v_, h.2.1 177 0 = v_ := ⟨_, rfl⟩
        have b_v101 : (-1 : Int) ≤ v101.toInt ∧ v101.toInt ≤ 4 := by rw [← q_v101]; exact b177 0 (by decide)
        refine hp_ial (v := v101) rfl (hH.1 177 (0, 2) rfl) q_v101 (fun ia_101 ib_101 => ?_)
        refine qm_Rp.go 0 (c' := (93, [.ref 118, .int 1, .int hv, .int v100], [.int v101, .int v100], h)) rfl ?_
        refine hp_cne (ix := v100.toInt) (iy := v101.toInt) rfl rfl rfl (fun z103 => ?_) (fun z103 => ?_)
        · refine qm_Rp.go 1 (c' := (99, [.ref 118, .int 1, .int hv, .int v100], [.ref 118], h)) rfl ?_
          refine hp_getr rfl (hH.1 118 (17, 105) rfl) rfl (hH.2 118 86 (some 177) rfl) ?_
          refine qm_Rp.go 2 (c' := (104, [.ref 118, .int 1, .int hv, .int v100], [.int v100, .int 1, .ref 177], h)) rfl ?_
          refine hp_ias rfl (hH.1 177 (0, 2) rfl) (fun ia_103 ib_103 => ?_)
          refine qm_Rp.go 1 (c' := (106, [.ref 118, .int 1, .int hv, .int v100], [.ref 118], (h.1, qm_up h.2.1 177 1 v100, h.2.2.1, h.2.2.2))) rfl ?_
          refine hp_getr rfl (hH.1 118 (17, 105) rfl) rfl (hH.2 118 89 (some 180) rfl) ?_
          refine qm_Rp.go 2 (c' := (111, [.ref 118, .int 1, .int hv, .int v100], [.int 1, .ref 180, .int 1, .ref 180], (h.1, qm_up h.2.1 177 1 v100, h.2.2.1, h.2.2.2))) rfl ?_
          obtain ⟨v105, q_v105⟩ : ∃ v_, h.2.1 180 1 = v_ := ⟨_, rfl⟩
          refine hp_ial (v := v105) rfl (hH.1 180 (0, 2) rfl) (show (qm_up h.2.1 177 1 v100) 180 1 = _ from ((hk_ot rfl).trans q_v105)) (fun ia_105 ib_105 => ?_)
          refine qm_Rp.go 2 (c' := (114, [.ref 118, .int 1, .int hv, .int v100], [.int (v105 + 1), .int 1, .ref 180], (h.1, qm_up h.2.1 177 1 v100, h.2.2.1, h.2.2.2))) rfl ?_
          obtain ⟨v107, q_v107⟩ : ∃ v_, (v105 + 1) = v_ := ⟨_, rfl⟩
          rw [q_v107]
          refine hp_ias rfl (hH.1 180 (0, 2) rfl) (fun ia_107 ib_107 => ?_)
          refine qm_Rp.go 1 (c' := (116, [.ref 118, .int 1, .int hv, .int v100], [.int 0], (h.1, qm_up (qm_up h.2.1 177 1 v100) 180 1 v107, h.2.2.1, h.2.2.2))) rfl ?_
          refine qm_Rp.rt (v := (some (.int 0))) (h' := (h.1, qm_up (qm_up h.2.1 177 1 v100) 180 1 v107, h.2.2.1, h.2.2.2)) rfl ?_
          have hmv : jMv h.2.1 1 = v100 := by unfold jMv; rw [q_hv, q_v6, q_v4, okb_f (show ¬ v4.toInt < v6.toInt by omega)]; exact q_v100
          have e := jGo_m (s := 1) (A := A) (K := h.2.1) (c := 1) (by rw [q_hv]; omega) (fun z => by rw [q_v4, q_hv, q_v6] at z; have := congrArg Int32.toInt z; omega) (by rw [hmv, show 1 - 1 = 0 from rfl, q_v101]; exact fun z => by have := congrArg Int32.toInt z; omega)
          have e2 : jMo h.2.1 1 = qm_up (qm_up h.2.1 177 1 v100) 180 1 v107 := by unfold jMo; rw [hmv, q_v105, q_v107]
          exact k (qm_up (qm_up h.2.1 177 1 v100) 180 1 v107) 0 (fun o ho i => ((hk_mod ho rfl).trans ((hk_mod ho rfl).trans rfl))) (by rw [e]; exact zR_j hr (fun o ho i => ((hk_mod ho rfl).trans ((hk_mod ho rfl).trans rfl)))) (by rw [e]; show jEq (jMo h.2.1 1) _; rw [e2]; exact jEq_rf) (Or.inr ⟨rfl, fun i => ((hk_ot rfl).trans ((hk_ot rfl).trans rfl))⟩)
        · refine qm_Rp.go 1 (c' := (97, [.ref 118, .int 1, .int hv, .int v100], [.int 0], h)) rfl ?_
          refine qm_Rp.rt (v := (some (.int 0))) (h' := h) rfl ?_
          have hmv : jMv h.2.1 1 = v100 := by unfold jMv; rw [q_hv, q_v6, q_v4, okb_f (show ¬ v4.toInt < v6.toInt by omega)]; exact q_v100
          have e := jGo_b (s := 1) (A := A) (K := h.2.1) (c := 1) (by rw [q_hv]; omega) (fun z => by rw [q_v4, q_hv, q_v6] at z; have := congrArg Int32.toInt z; omega) (by rw [hmv, show 1 - 1 = 0 from rfl, q_v101]; exact hk_eqi.mpr (by omega))
          exact k h.2.1 0 (fun _ _ _ => rfl) (by rw [e]; exact hr) (by rw [e]; exact jEq_rf) (Or.inr ⟨rfl, fun _ => rfl⟩)
      · refine qm_Rp.go 1 (c' := (65, [.ref 118, .int 1, .int hv, .float 0], [.ref 118], h)) rfl ?_
        refine hp_getr rfl (hH.1 118 (17, 105) rfl) rfl (hH.2 118 86 (some 177) rfl) ?_
        refine qm_Rp.go 1 (c' := (69, [.ref 118, .int 1, .int hv, .float 0], [.int 1, .ref 177], h)) rfl ?_
        refine hp_ial (v := v4) rfl (hH.1 177 (0, 2) rfl) q_v4 (fun ia_108 ib_108 => ?_)
        refine qm_Rp.go 2 (c' := (72, [.ref 118, .int 1, .int hv, .float 0], [.int (v4 + 1)], h)) rfl ?_
        obtain ⟨v110, q_v110, e_v110⟩ := hk_add (x := v4) (y := 1) (a := v4.toInt) (b := 1) rfl rfl (by omega) (by omega)
        rw [q_v110]
        refine qm_Rp.go 1 (c' := (83, [.ref 118, .int 1, .int hv, .float 0], [.int v110], h)) rfl ?_
        refine qm_Rp.go 3 (c' := (86, [.ref 118, .int 1, .int hv, .int v110], [.ref 118, .int v110], h)) rfl ?_
        refine hp_getr rfl (hH.1 118 (17, 105) rfl) rfl (hH.2 118 86 (some 177) rfl) ?_
        refine qm_Rp.go 3 (c' := (92, [.ref 118, .int 1, .int hv, .int v110], [.int 0, .ref 177, .int v110], h)) rfl ?_
        obtain ⟨v111, q_v111⟩ : ∃ v_, h.2.1 177 0 = v_ := ⟨_, rfl⟩
        have b_v111 : (-1 : Int) ≤ v111.toInt ∧ v111.toInt ≤ 4 := by rw [← q_v111]; exact b177 0 (by decide)
        refine hp_ial (v := v111) rfl (hH.1 177 (0, 2) rfl) q_v111 (fun ia_111 ib_111 => ?_)
        refine qm_Rp.go 0 (c' := (93, [.ref 118, .int 1, .int hv, .int v110], [.int v111, .int v110], h)) rfl ?_
        refine hp_cne (ix := v110.toInt) (iy := v111.toInt) rfl rfl rfl (fun z113 => ?_) (fun z113 => ?_)
        · refine qm_Rp.go 1 (c' := (99, [.ref 118, .int 1, .int hv, .int v110], [.ref 118], h)) rfl ?_
          refine hp_getr rfl (hH.1 118 (17, 105) rfl) rfl (hH.2 118 86 (some 177) rfl) ?_
          refine qm_Rp.go 2 (c' := (104, [.ref 118, .int 1, .int hv, .int v110], [.int v110, .int 1, .ref 177], h)) rfl ?_
          refine hp_ias rfl (hH.1 177 (0, 2) rfl) (fun ia_113 ib_113 => ?_)
          refine qm_Rp.go 1 (c' := (106, [.ref 118, .int 1, .int hv, .int v110], [.ref 118], (h.1, qm_up h.2.1 177 1 v110, h.2.2.1, h.2.2.2))) rfl ?_
          refine hp_getr rfl (hH.1 118 (17, 105) rfl) rfl (hH.2 118 89 (some 180) rfl) ?_
          refine qm_Rp.go 2 (c' := (111, [.ref 118, .int 1, .int hv, .int v110], [.int 1, .ref 180, .int 1, .ref 180], (h.1, qm_up h.2.1 177 1 v110, h.2.2.1, h.2.2.2))) rfl ?_
          obtain ⟨v115, q_v115⟩ : ∃ v_, h.2.1 180 1 = v_ := ⟨_, rfl⟩
          refine hp_ial (v := v115) rfl (hH.1 180 (0, 2) rfl) (show (qm_up h.2.1 177 1 v110) 180 1 = _ from ((hk_ot rfl).trans q_v115)) (fun ia_115 ib_115 => ?_)
          refine qm_Rp.go 2 (c' := (114, [.ref 118, .int 1, .int hv, .int v110], [.int (v115 + 1), .int 1, .ref 180], (h.1, qm_up h.2.1 177 1 v110, h.2.2.1, h.2.2.2))) rfl ?_
          obtain ⟨v117, q_v117⟩ : ∃ v_, (v115 + 1) = v_ := ⟨_, rfl⟩
          rw [q_v117]
          refine hp_ias rfl (hH.1 180 (0, 2) rfl) (fun ia_117 ib_117 => ?_)
          refine qm_Rp.go 1 (c' := (116, [.ref 118, .int 1, .int hv, .int v110], [.int 0], (h.1, qm_up (qm_up h.2.1 177 1 v110) 180 1 v117, h.2.2.1, h.2.2.2))) rfl ?_
          refine qm_Rp.rt (v := (some (.int 0))) (h' := (h.1, qm_up (qm_up h.2.1 177 1 v110) 180 1 v117, h.2.2.1, h.2.2.2)) rfl ?_
          have hmv : jMv h.2.1 1 = v110 := by unfold jMv; rw [q_hv, q_v6, q_v4, okb_t (show v4.toInt < v6.toInt by omega)]; exact q_v110
          have e := jGo_m (s := 1) (A := A) (K := h.2.1) (c := 1) (by rw [q_hv]; omega) (fun z => by rw [q_v4, q_hv, q_v6] at z; have := congrArg Int32.toInt z; omega) (by rw [hmv, show 1 - 1 = 0 from rfl, q_v111]; exact fun z => by have := congrArg Int32.toInt z; omega)
          have e2 : jMo h.2.1 1 = qm_up (qm_up h.2.1 177 1 v110) 180 1 v117 := by unfold jMo; rw [hmv, q_v115, q_v117]
          exact k (qm_up (qm_up h.2.1 177 1 v110) 180 1 v117) 0 (fun o ho i => ((hk_mod ho rfl).trans ((hk_mod ho rfl).trans rfl))) (by rw [e]; exact zR_j hr (fun o ho i => ((hk_mod ho rfl).trans ((hk_mod ho rfl).trans rfl)))) (by rw [e]; show jEq (jMo h.2.1 1) _; rw [e2]; exact jEq_rf) (Or.inr ⟨rfl, fun i => ((hk_ot rfl).trans ((hk_ot rfl).trans rfl))⟩)
        · refine qm_Rp.go 1 (c' := (97, [.ref 118, .int 1, .int hv, .int v110], [.int 0], h)) rfl ?_
          refine qm_Rp.rt (v := (some (.int 0))) (h' := h) rfl ?_
          have hmv : jMv h.2.1 1 = v110 := by unfold jMv; rw [q_hv, q_v6, q_v4, okb_t (show v4.toInt < v6.toInt by omega)]; exact q_v110
          have e := jGo_b (s := 1) (A := A) (K := h.2.1) (c := 1) (by rw [q_hv]; omega) (fun z => by rw [q_v4, q_hv, q_v6] at z; have := congrArg Int32.toInt z; omega) (by rw [hmv, show 1 - 1 = 0 from rfl, q_v111]; exact hk_eqi.mpr (by omega))
          exact k h.2.1 0 (fun _ _ _ => rfl) (by rw [e]; exact hr) (by rw [e]; exact jEq_rf) (Or.inr ⟨rfl, fun _ => rfl⟩)
  · refine qm_Rp.go 1 (c' := (26, [.ref 118, .int 1, .float 0, .float 0], [.int 0], h)) rfl ?_
    refine qm_Rp.rt (v := (some (.int 0))) (h' := h) rfl ?_
    have e := jGo_n (s := 1) (A := A) (K := h.2.1) (c := 1) (by rw [q_hv]; omega)
    exact k h.2.1 0 (fun _ _ _ => rfl) (by rw [e]; exact hr) (by rw [e]; exact jEq_rf) (Or.inr ⟨rfl, fun _ => rfl⟩)
theorem px_works11 {X : Option (Nat × (Nat → Int32))} {Z : Option Value → qm_H → Prop} {h : qm_H} {fu : Nat} (hH : hk_H h) {A : Nat → Nat → Int} (hP : jP 1 (A, h.2.1)) (hr : zR A h.2.1) (b170 : ∀ k, (0 : Int) ≤ (h.2.1 170 k).toInt ∧ (h.2.1 170 k).toInt ≤ 4) (k : ∀ (I : Nat → Nat → Int32) (v : Int32), (∀ o, [150, 151, 152, 153, 154, 155, 156, 172, 173, 174, 175, 176, 177, 178, 179, 180, 181].contains o = false → ∀ i, I o i = h.2.1 o i) → zR (jSt 1 (A, h.2.1) 1).1 I → jEq (jSt 1 (A, h.2.1) 1).2 I → (v.toInt = 1 ∧ I 181 1 = h.2.1 181 1 + 1 ∧ I 181 0 = h.2.1 181 0 ∨ v.toInt = 0 ∧ ∀ i, I 181 i = h.2.1 181 i) → Z (some (.int v)) (h.1, I, h.2.2.1, h.2.2.2)) : qm_Rp fu X cd_362 (qm_ent 4 [.ref 118, .int 1] h) Z := by
  have hP0 := hP
  obtain ⟨p1, p2, p3, ⟨⟨n1, n2⟩, n3, n4, n5⟩, p5⟩ := hP
  have cr := n3 1 (by decide)
  have b9 : -1 ≤ (h.2.1 178 1).toInt ∧ (h.2.1 178 1).toInt ≤ 39 := by
    rcases cr with w | w
    · have w1 : (h.2.1 178 1).toInt = -1 := w.1
      omega
    · have n1 : 0 ≤ (h.2.1 118 75).toInt ∧ (h.2.1 118 75).toInt ≤ 40 := n1
      have w1 : 0 ≤ (h.2.1 178 1).toInt ∧ (h.2.1 178 1).toInt < (h.2.1 118 75).toInt := w.1
      omega
  have b179 : 0 ≤ (h.2.1 179 1).toInt ∧ (h.2.1 179 1).toInt ≤ 1 := by
    rcases cr with w | w
    · have w2 : (h.2.1 179 1).toInt = 0 := w.2
      omega
    · exact w.2.2
  have kz : (-1 : Int32).toInt = -1 := rfl
  refine qm_Rp.go 1 (c' := (1, [.ref 118, .int 1, .float 0, .float 0], [.ref 118], h)) rfl ?_
  refine hp_getr rfl (hH.1 118 (17, 105) rfl) rfl (hH.2 118 87 (some 178) rfl) ?_
  refine qm_Rp.go 1 (c' := (5, [.ref 118, .int 1, .float 0, .float 0], [.int 1, .ref 178], h)) rfl ?_
  refine hp_ial (v := h.2.1 178 1) rfl (hH.1 178 (0, 2) rfl) rfl (fun _ _ => ?_)
  refine qm_Rp.go 1 (c' := (7, [.ref 118, .int 1, .float 0, .float 0], [.int (-1), .int (h.2.1 178 1)], h)) rfl ?_
  refine hp_cne (ix := (h.2.1 178 1).toInt) (iy := -1) rfl rfl rfl (fun z => ?_) (fun z => ?_)
  · refine qm_Rp.go 0 (c' := (15, [.ref 118, .int 1, .float 0, .float 0], [], h)) rfl ?_
    rw [jSt_0 z] at k
    exact px_wrest11 hH hP0 hr rfl b9 b170 n2 b179 k
  · refine qm_Rp.go 2 (c' := (12, [.ref 118, .int 1, .float 0, .float 0], [.int 1, .ref 118], h)) rfl ?_
    rw [jSt_1 z] at k
    have jT : jI (jTk h.2.1 1) := jTk_I (by decide) hP0.2.2.2.1
    have f9 : ∀ o, [172, 173, 174, 178, 179].contains o = false → jTk h.2.1 1 o = h.2.1 o := fun o ho => by
      have m : ∀ q ∈ [172, 173, 174, 178, 179], o ≠ q := fun q hq e => by
        subst e
        rw [List.contains_iff_mem.mpr hq] at ho
        cases ho
      by_cases q : jNx h.2.1 1 < (h.2.1 118 75).toInt.toNat
      · rw [jTk_1 q]
        exact jT1_at.1 o (m 178 (by decide)) (m 179 (by decide)) (m 172 (by decide)) (m 173 (by decide)) (m 174 (by decide))
      · rw [jTk_0 q]
    have hP2 : jP 1 (A, jTk h.2.1 1) := ⟨p1, p2, p3, jT, by show 0 ≤ (jTk h.2.1 1 118 85).toInt; rw [jTk_118]; exact p5⟩
    have cr2 := jT.2.1 1 (by decide)
    refine hp_inv (o := 118) (r := []) (as := [.ref 118, .int 1]) rfl rfl (hH.1 118 (17, 105) rfl) rfl rfl rfl (px_tk1 (h := h) hH (n := h.2.1 118 75) rfl n1 (hk_eqi.mpr (z.trans kz.symm)) (sv := h.2.1 177 0) rfl (hs := h.2.1 178 0) rfl (n2 0 (by decide)) b170 ?_)
    refine px_wrest11 (h := (h.1, jTk h.2.1 1, h.2.2.1, h.2.2.2)) hH hP2 (zR_j hr (fun o ho i => by show jTk h.2.1 1 o i = h.2.1 o i; rw [f9 o (hk_ms rfl ho)])) rfl ?_ (fun q => by show (0 : Int) ≤ (jTk h.2.1 1 170 q).toInt ∧ (jTk h.2.1 1 170 q).toInt ≤ 4; rw [f9 170 rfl]; exact b170 q) jT.1.2 ?_ (fun I v f g1 g2 g3 => k I v (fun o ho i => (f o ho i).trans (by show jTk h.2.1 1 o i = h.2.1 o i; rw [f9 o (hk_ms rfl ho)])) g1 g2 ?_)
    · rcases cr2 with w | w
      · have w1 : (jTk h.2.1 1 178 1).toInt = -1 := w.1
        show -1 ≤ (jTk h.2.1 1 178 1).toInt ∧ (jTk h.2.1 1 178 1).toInt ≤ 39
        omega
      · have n1 : 0 ≤ (jTk h.2.1 1 118 75).toInt ∧ (jTk h.2.1 1 118 75).toInt ≤ 40 := jT.1.1
        have w1 : 0 ≤ (jTk h.2.1 1 178 1).toInt ∧ (jTk h.2.1 1 178 1).toInt < (jTk h.2.1 1 118 75).toInt := w.1
        show -1 ≤ (jTk h.2.1 1 178 1).toInt ∧ (jTk h.2.1 1 178 1).toInt ≤ 39
        omega
    · rcases cr2 with w | w
      · have w2 : (jTk h.2.1 1 179 1).toInt = 0 := w.2
        show 0 ≤ (jTk h.2.1 1 179 1).toInt ∧ (jTk h.2.1 1 179 1).toInt ≤ 1
        omega
      · exact w.2.2
    · have g3 : (v.toInt = 1 ∧ I 181 1 = jTk h.2.1 1 181 1 + 1 ∧ I 181 0 = jTk h.2.1 1 181 0 ∨ v.toInt = 0 ∧ ∀ i, I 181 i = jTk h.2.1 1 181 i) := g3
      rw [f9 181 rfl] at g3
      exact g3
theorem px_wk11 {X : Option (Nat × (Nat → Int32))} {Z : Option Value → qm_H → Prop} {h : qm_H} {fu : Nat} (hH : hk_H h) {A : Nat → Nat → Int} {K : Nat → Nat → Int32} (hP : jP 1 (A, K)) (hr : zR A h.2.1) (je : jEq K h.2.1) (b170 : ∀ k, (0 : Int) ≤ (h.2.1 170 k).toInt ∧ (h.2.1 170 k).toInt ≤ 4) (k : ∀ (I : Nat → Nat → Int32) (v : Int32), (∀ o, [150, 151, 152, 153, 154, 155, 156, 172, 173, 174, 175, 176, 177, 178, 179, 180, 181].contains o = false → ∀ i, I o i = h.2.1 o i) → zR (jSt 1 (A, K) 1).1 I → jEq (jSt 1 (A, K) 1).2 I → (v.toInt = 1 ∧ I 181 1 = h.2.1 181 1 + 1 ∧ I 181 0 = h.2.1 181 0 ∨ v.toInt = 0 ∧ ∀ i, I 181 i = h.2.1 181 i) → Z (some (.int v)) (h.1, I, h.2.2.1, h.2.2.2)) : qm_Rp fu X cd_362 (qm_ent 4 [.ref 118, .int 1] h) Z := px_works11 hH (jEq_P hP je) hr b170 (fun I v f z j a => k I v f (by rw [(jEq_st (s := 1) (A := A) (c := 1) je).1]; exact z) (jEq_tr (jEq_st (s := 1) (A := A) (c := 1) je).2 j) a)
set_option maxHeartbeats 20000000 in
theorem px_rwl1 {X : Option (Nat × (Nat → Int32))} {Z : Option Value → qm_H → Prop} {h : qm_H} (hH : hk_H h) {n : Int32} (b_n : 0 ≤ n.toInt ∧ n.toInt ≤ 200) {q : (Nat → Nat → Int) × (Nat → Nat → Int32)} {sh rs : Int32} (q_sh : h.2.1 118 93 = sh) (q_rs : h.2.1 118 94 = rs) (b_sh : 0 ≤ sh.toInt ∧ sh.toInt ≤ 500) (b_rs : 0 ≤ rs.toInt ∧ rs.toInt ≤ 500) (b170 : ∀ k, (0 : Int) ≤ (h.2.1 170 k).toInt ∧ (h.2.1 170 k).toInt ≤ 4) (k : ∀ (I : Nat → Nat → Int32) (v : Int32), (∀ o, [118, 150, 151, 152, 153, 154, 155, 156, 172, 173, 174, 175, 176, 177, 178, 179, 180, 181].contains o = false → ∀ i, I o i = h.2.1 o i) → (∀ i, [85].contains i = false → I 118 i = h.2.1 118 i) → zR (q).1 I → jEq (q).2 I → v = I 181 0 + I 181 1 - (h.2.1 181 0 + h.2.1 181 1) → Z (some (.int v)) (h.1, I, h.2.2.1, h.2.2.2)) : ∀ (fu : Nat) (p : (Nat → Nat → Int) × (Nat → Nat → Int32)) (I : Nat → Nat → Int32) (m i : Int32) (l4 l5 : Value), ((∀ o, [118, 150, 151, 152, 153, 154, 155, 156, 172, 173, 174, 175, 176, 177, 178, 179, 180, 181].contains o = false → ∀ i, I o i = h.2.1 o i)) → ((∀ i, [85].contains i = false → I 118 i = h.2.1 118 i)) → (zR p.1 I) → (jEq p.2 I) → (jP 1 p) → (jRn 1 (n.toInt.toNat - i.toInt.toNat) p = q) → (0 ≤ i.toInt) → ((p.2 118 85).toInt + (n.toInt - i.toInt) ≤ 1000000000) → (m = I 181 0 + I 181 1 - (h.2.1 181 0 + h.2.1 181 1)) → qm_Rp fu X cd_361 (17, [.ref 118, .int n, .int m, .int i, l4, l5], [], (h.1, I, h.2.2.1, h.2.2.2)) Z := by
  intro fu
  induction fu using Nat.strongRecOn with
  | ind fu ih =>
    intro p I m i l4 l5 e x118 zr je hP hq b_i htb hm
    have kz0 : (0 : Int32).toInt = 0 := rfl
    have kz1 : (1 : Int32).toInt = 1 := rfl
    have kz2 : (2 : Int32).toInt = 2 := rfl
    have kz3 : (3 : Int32).toInt = 3 := rfl
    have kz4 : (4 : Int32).toInt = 4 := rfl
    have kz5 : (5 : Int32).toInt = 5 := rfl
    have kz6 : (6 : Int32).toInt = 6 := rfl
    have kz7 : (7 : Int32).toInt = 7 := rfl
    have kz8 : (8 : Int32).toInt = 8 := rfl
    have kz9 : (9 : Int32).toInt = 9 := rfl
    have kzm1 : ((-1) : Int32).toInt = (-1) := rfl
    have kzm2 : ((-2) : Int32).toInt = (-2) := rfl
    have kzm3 : ((-3) : Int32).toInt = (-3) := rfl
    obtain ⟨tk, q_tk⟩ : ∃ v_, I 118 85 = v_ := ⟨_, rfl⟩
    have t0 : 0 ≤ tk.toInt ∧ tk.toInt + (n.toInt - i.toInt) ≤ 1000000000 := by rw [← q_tk, ← je.2 85 (by decide)]; exact ⟨hP.2.2.2.2, htb⟩
    refine qm_Rp.go1 1 (c' := (19, [.ref 118, .int n, .int m, .int i, l4, l5], [.int n, .int i], (h.1, I, h.2.2.1, h.2.2.2))) rfl (fun g hg => ?_)
    refine hp_cge (ix := i.toInt) (iy := n.toInt) rfl rfl rfl (fun z1 => ?_) (fun z1 => ?_)
    · refine qm_Rp.go 1 (c' := (106, [.ref 118, .int n, .int m, .int i, l4, l5], [.int m], (h.1, I, h.2.2.1, h.2.2.2))) rfl ?_
      refine qm_Rp.rt (v := (some (.int m))) (h' := (h.1, I, h.2.2.1, h.2.2.2)) rfl ?_
      rw [show n.toInt.toNat - i.toInt.toNat = 0 by omega] at hq
      have hq : p = q := hq
      subst hq
      exact k I m e x118 zr je hm
    · refine qm_Rp.go 1 (c' := (23, [.ref 118, .int n, .int m, .int i, l4, l5], [.ref 118], (h.1, I, h.2.2.1, h.2.2.2))) rfl ?_
      refine hp_geti (v := sh) rfl (hH.1 118 (17, 105) rfl) rfl (show (I) 118 93 = _ from ((x118 93 rfl).trans q_sh)) ?_
      refine qm_Rp.go 0 (c' := (26, [.ref 118, .int n, .int m, .int i, l4, l5], [.int sh], (h.1, I, h.2.2.1, h.2.2.2))) rfl ?_
      refine hp_zle (ix := sh.toInt) rfl rfl (fun z2 => ?_) (fun z2 => ?_)
      · refine qm_Rp.go 11 (c' := (74, [.ref 118, .int n, .int m, .int i, .int 0, .int 0], [.int 0, .ref 118], (h.1, I, h.2.2.1, h.2.2.2))) rfl ?_
        refine hp_inv (o := 118) (r := []) (as := [.ref 118, .int 0]) rfl rfl (hH.1 118 (17, 105) rfl) rfl rfl rfl (px_wk01 (h := (h.1, I, h.2.2.1, h.2.2.2)) hH (A := (p).1) (K := (p).2) hP zr je (fun k => by show (0 : Int) ≤ (I 170 k).toInt ∧ (I 170 k).toInt ≤ 4; rw [show I 170 k = h.2.1 170 k from ((e 170 rfl k).trans rfl)]; exact b170 k) (fun I3 v4 f_I3 zr_I3 je_I3 an_v4 => ?_))
        have hP5 : jP 1 (jSt 1 (p) 0) := jSt_P (by decide) hP
        have zr_I3 : zR (jSt 1 (p) 0).1 I3 := zr_I3
        have je_I3 : jEq (jSt 1 (p) 0).2 I3 := je_I3
        rcases an_v4 with ⟨hr, hy, hz⟩ | ⟨hr, hy⟩
        · obtain rfl : v4 = 1 := hk_eqi.mpr (hr.trans rfl)
          have y6 : I3 181 0 = I 181 0 + 1 := hy
          have y6z : I3 181 1 = I 181 1 := hz
          refine qm_Rp.go 2 (c' := (83, [.ref 118, .int n, .int (m + 1), .int i, .int 0, .int 0], [], (h.1, I3, h.2.2.1, h.2.2.2))) rfl ?_
          obtain ⟨v7, q_v7⟩ : ∃ v_, (m + 1) = v_ := ⟨_, rfl⟩
          rw [q_v7]
          refine qm_Rp.go 9 (c' := (74, [.ref 118, .int n, .int v7, .int i, .int 0, .int 1], [.int 1, .ref 118], (h.1, I3, h.2.2.1, h.2.2.2))) rfl ?_
          refine hp_inv (o := 118) (r := []) (as := [.ref 118, .int 1]) rfl rfl (hH.1 118 (17, 105) rfl) rfl rfl rfl (px_wk11 (h := (h.1, I3, h.2.2.1, h.2.2.2)) hH (A := (jSt 1 (p) 0).1) (K := (jSt 1 (p) 0).2) hP5 zr_I3 je_I3 (fun k => by show (0 : Int) ≤ (I3 170 k).toInt ∧ (I3 170 k).toInt ≤ 4; rw [show I3 170 k = h.2.1 170 k from ((f_I3 170 rfl k).trans ((e 170 rfl k).trans rfl))]; exact b170 k) (fun I8 v9 f_I8 zr_I8 je_I8 an_v9 => ?_))
          have hP10 : jP 1 (jSt 1 (jSt 1 (p) 0) 1) := jSt_P (by decide) hP5
          have zr_I8 : zR (jSt 1 (jSt 1 (p) 0) 1).1 I8 := zr_I8
          have je_I8 : jEq (jSt 1 (jSt 1 (p) 0) 1).2 I8 := je_I8
          rcases an_v9 with ⟨hr, hy, hz⟩ | ⟨hr, hy⟩
          · obtain rfl : v9 = 1 := hk_eqi.mpr (hr.trans rfl)
            have y11 : I8 181 1 = I3 181 1 + 1 := hy
            have y11z : I8 181 0 = I3 181 0 := hz
            refine qm_Rp.go 2 (c' := (83, [.ref 118, .int n, .int (v7 + 1), .int i, .int 0, .int 1], [], (h.1, I8, h.2.2.1, h.2.2.2))) rfl ?_
            obtain ⟨v12, q_v12⟩ : ∃ v_, (v7 + 1) = v_ := ⟨_, rfl⟩
            rw [q_v12]
            refine qm_Rp.go 7 (c' := (91, [.ref 118, .int n, .int v12, .int i, .int 0, .int 2], [.ref 118, .ref 118], (h.1, I8, h.2.2.1, h.2.2.2))) rfl ?_
            refine hp_geti (v := tk) rfl (hH.1 118 (17, 105) rfl) rfl (show (I8) 118 85 = _ from ((f_I8 118 rfl 85).trans ((f_I3 118 rfl 85).trans q_tk))) ?_
            refine qm_Rp.go 2 (c' := (96, [.ref 118, .int n, .int v12, .int i, .int 0, .int 2], [.int (tk + 1), .ref 118], (h.1, I8, h.2.2.1, h.2.2.2))) rfl ?_
            obtain ⟨v13, q_v13, e_v13⟩ := hk_add (x := tk) (y := 1) (a := tk.toInt) (b := 1) rfl rfl (by omega) (by omega)
            rw [q_v13]
            refine hp_puti rfl (hH.1 118 (17, 105) rfl) rfl ?_
            refine qm_Rp.go 1 (c' := (102, [.ref 118, .int n, .int v12, .int (i + 1), .int 0, .int 2], [], (h.1, qm_up I8 118 85 v13, h.2.2.1, h.2.2.2))) rfl ?_
            obtain ⟨v14, q_v14, e_v14⟩ := hk_add (x := i) (y := 1) (a := i.toInt) (b := 1) rfl rfl (by omega) (by omega)
            rw [q_v14]
            refine qm_Rp.go 1 (c' := (17, [.ref 118, .int n, .int v12, .int v14, .int 0, .int 2], [], (h.1, qm_up I8 118 85 v13, h.2.2.1, h.2.2.2))) rfl ?_
            have hT : jTi 1 p = jCk (jSt 1 (jSt 1 (p) 0) 1) := jTi_w (fun z => by unfold jRs at z; rw [show p.2 118 93 = sh from (je.2 93 (by decide)).trans ((x118 93 rfl).trans q_sh), show p.2 118 94 = rs from (je.2 94 (by decide)).trans ((x118 94 rfl).trans q_rs), show p.2 118 85 = tk from (je.2 85 (by decide)).trans q_tk] at z; omega)
            have e85 : (jSt 1 (jSt 1 (p) 0) 1).2 118 85 = tk := (je_I8.2 85 (by decide)).trans (show (I8) 118 85 = _ from ((f_I8 118 rfl 85).trans ((f_I3 118 rfl 85).trans q_tk)))
            have eC : (jCk (jSt 1 (jSt 1 (p) 0) 1)).2 = qm_up (jSt 1 (jSt 1 (p) 0) 1).2 118 85 v13 := by show qm_up (jSt 1 (jSt 1 (p) 0) 1).2 118 85 ((jSt 1 (jSt 1 (p) 0) 1).2 118 85 + 1) = _; rw [e85, q_v13]
            have e85p : p.2 118 85 = tk := (je.2 85 (by decide)).trans q_tk
            have hm2 : v12 = (qm_up I8 118 85 v13) 181 0 + (qm_up I8 118 85 v13) 181 1 - (h.2.1 181 0 + h.2.1 181 1) := by
              rw [show (qm_up I8 118 85 v13) 181 = I8 181 from funext fun i => hk_ot rfl]
              rw [y11, y11z, y6, y6z]
              rw [← q_v12, ← q_v7, hm, mi_1]
              exact mi_2
            exact ih g hg (jTi 1 p) (qm_up I8 118 85 v13) v12 v14 _ _ (fun o ho i => ((hk_mod ho rfl).trans ((f_I8 o (hk_ms rfl ho) i).trans ((f_I3 o (hk_ms rfl ho) i).trans ((e o (hk_ms rfl ho) i).trans rfl))))) (fun i hi => ((hk_neq (fun z => by subst z; cases hi)).trans ((f_I8 118 rfl i).trans ((f_I3 118 rfl i).trans ((x118 i (hk_ms rfl hi)).trans rfl))))) (by rw [hT]; exact zR_tk zr_I8) (by rw [hT, eC]; exact jEq_up je_I8) (jTi_P hP (by rw [e85p, q_v13]; omega)) (by rw [← hq, show n.toInt.toNat - i.toInt.toNat = (n.toInt.toNat - v14.toInt.toNat) + 1 by omega]; rfl) (by omega) (by rw [jTi_118, e85p, q_v13]; omega) hm2
          · obtain rfl : v9 = 0 := hk_eqi.mpr (hr.trans rfl)
            have y15 : ∀ i, I8 181 i = I3 181 i := hy
            refine qm_Rp.go 1 (c' := (83, [.ref 118, .int n, .int v7, .int i, .int 0, .int 1], [], (h.1, I8, h.2.2.1, h.2.2.2))) rfl ?_
            refine qm_Rp.go 7 (c' := (91, [.ref 118, .int n, .int v7, .int i, .int 0, .int 2], [.ref 118, .ref 118], (h.1, I8, h.2.2.1, h.2.2.2))) rfl ?_
            refine hp_geti (v := tk) rfl (hH.1 118 (17, 105) rfl) rfl (show (I8) 118 85 = _ from ((f_I8 118 rfl 85).trans ((f_I3 118 rfl 85).trans q_tk))) ?_
            refine qm_Rp.go 2 (c' := (96, [.ref 118, .int n, .int v7, .int i, .int 0, .int 2], [.int (tk + 1), .ref 118], (h.1, I8, h.2.2.1, h.2.2.2))) rfl ?_
            obtain ⟨v16, q_v16, e_v16⟩ := hk_add (x := tk) (y := 1) (a := tk.toInt) (b := 1) rfl rfl (by omega) (by omega)
            rw [q_v16]
            refine hp_puti rfl (hH.1 118 (17, 105) rfl) rfl ?_
            refine qm_Rp.go 1 (c' := (102, [.ref 118, .int n, .int v7, .int (i + 1), .int 0, .int 2], [], (h.1, qm_up I8 118 85 v16, h.2.2.1, h.2.2.2))) rfl ?_
            obtain ⟨v17, q_v17, e_v17⟩ := hk_add (x := i) (y := 1) (a := i.toInt) (b := 1) rfl rfl (by omega) (by omega)
            rw [q_v17]
            refine qm_Rp.go 1 (c' := (17, [.ref 118, .int n, .int v7, .int v17, .int 0, .int 2], [], (h.1, qm_up I8 118 85 v16, h.2.2.1, h.2.2.2))) rfl ?_
            have hT : jTi 1 p = jCk (jSt 1 (jSt 1 (p) 0) 1) := jTi_w (fun z => by unfold jRs at z; rw [show p.2 118 93 = sh from (je.2 93 (by decide)).trans ((x118 93 rfl).trans q_sh), show p.2 118 94 = rs from (je.2 94 (by decide)).trans ((x118 94 rfl).trans q_rs), show p.2 118 85 = tk from (je.2 85 (by decide)).trans q_tk] at z; omega)
            have e85 : (jSt 1 (jSt 1 (p) 0) 1).2 118 85 = tk := (je_I8.2 85 (by decide)).trans (show (I8) 118 85 = _ from ((f_I8 118 rfl 85).trans ((f_I3 118 rfl 85).trans q_tk)))
            have eC : (jCk (jSt 1 (jSt 1 (p) 0) 1)).2 = qm_up (jSt 1 (jSt 1 (p) 0) 1).2 118 85 v16 := by show qm_up (jSt 1 (jSt 1 (p) 0) 1).2 118 85 ((jSt 1 (jSt 1 (p) 0) 1).2 118 85 + 1) = _; rw [e85, q_v16]
            have e85p : p.2 118 85 = tk := (je.2 85 (by decide)).trans q_tk
            have hm2 : v7 = (qm_up I8 118 85 v16) 181 0 + (qm_up I8 118 85 v16) 181 1 - (h.2.1 181 0 + h.2.1 181 1) := by
              rw [show (qm_up I8 118 85 v16) 181 = I8 181 from funext fun i => hk_ot rfl]
              rw [y15 0, y15 1, y6, y6z]
              rw [← q_v7, hm]
              exact mi_1
            exact ih g hg (jTi 1 p) (qm_up I8 118 85 v16) v7 v17 _ _ (fun o ho i => ((hk_mod ho rfl).trans ((f_I8 o (hk_ms rfl ho) i).trans ((f_I3 o (hk_ms rfl ho) i).trans ((e o (hk_ms rfl ho) i).trans rfl))))) (fun i hi => ((hk_neq (fun z => by subst z; cases hi)).trans ((f_I8 118 rfl i).trans ((f_I3 118 rfl i).trans ((x118 i (hk_ms rfl hi)).trans rfl))))) (by rw [hT]; exact zR_tk zr_I8) (by rw [hT, eC]; exact jEq_up je_I8) (jTi_P hP (by rw [e85p, q_v16]; omega)) (by rw [← hq, show n.toInt.toNat - i.toInt.toNat = (n.toInt.toNat - v17.toInt.toNat) + 1 by omega]; rfl) (by omega) (by rw [jTi_118, e85p, q_v16]; omega) hm2
        · obtain rfl : v4 = 0 := hk_eqi.mpr (hr.trans rfl)
          have y18 : ∀ i, I3 181 i = I 181 i := hy
          refine qm_Rp.go 1 (c' := (83, [.ref 118, .int n, .int m, .int i, .int 0, .int 0], [], (h.1, I3, h.2.2.1, h.2.2.2))) rfl ?_
          refine qm_Rp.go 9 (c' := (74, [.ref 118, .int n, .int m, .int i, .int 0, .int 1], [.int 1, .ref 118], (h.1, I3, h.2.2.1, h.2.2.2))) rfl ?_
          refine hp_inv (o := 118) (r := []) (as := [.ref 118, .int 1]) rfl rfl (hH.1 118 (17, 105) rfl) rfl rfl rfl (px_wk11 (h := (h.1, I3, h.2.2.1, h.2.2.2)) hH (A := (jSt 1 (p) 0).1) (K := (jSt 1 (p) 0).2) hP5 zr_I3 je_I3 (fun k => by show (0 : Int) ≤ (I3 170 k).toInt ∧ (I3 170 k).toInt ≤ 4; rw [show I3 170 k = h.2.1 170 k from ((f_I3 170 rfl k).trans ((e 170 rfl k).trans rfl))]; exact b170 k) (fun I19 v20 f_I19 zr_I19 je_I19 an_v20 => ?_))
          have hP21 : jP 1 (jSt 1 (jSt 1 (p) 0) 1) := jSt_P (by decide) hP5
          have zr_I19 : zR (jSt 1 (jSt 1 (p) 0) 1).1 I19 := zr_I19
          have je_I19 : jEq (jSt 1 (jSt 1 (p) 0) 1).2 I19 := je_I19
          rcases an_v20 with ⟨hr, hy, hz⟩ | ⟨hr, hy⟩
          · obtain rfl : v20 = 1 := hk_eqi.mpr (hr.trans rfl)
            have y22 : I19 181 1 = I3 181 1 + 1 := hy
            have y22z : I19 181 0 = I3 181 0 := hz
            refine qm_Rp.go 2 (c' := (83, [.ref 118, .int n, .int (m + 1), .int i, .int 0, .int 1], [], (h.1, I19, h.2.2.1, h.2.2.2))) rfl ?_
            obtain ⟨v23, q_v23⟩ : ∃ v_, (m + 1) = v_ := ⟨_, rfl⟩
            rw [q_v23]
            refine qm_Rp.go 7 (c' := (91, [.ref 118, .int n, .int v23, .int i, .int 0, .int 2], [.ref 118, .ref 118], (h.1, I19, h.2.2.1, h.2.2.2))) rfl ?_
            refine hp_geti (v := tk) rfl (hH.1 118 (17, 105) rfl) rfl (show (I19) 118 85 = _ from ((f_I19 118 rfl 85).trans ((f_I3 118 rfl 85).trans q_tk))) ?_
            refine qm_Rp.go 2 (c' := (96, [.ref 118, .int n, .int v23, .int i, .int 0, .int 2], [.int (tk + 1), .ref 118], (h.1, I19, h.2.2.1, h.2.2.2))) rfl ?_
            obtain ⟨v24, q_v24, e_v24⟩ := hk_add (x := tk) (y := 1) (a := tk.toInt) (b := 1) rfl rfl (by omega) (by omega)
            rw [q_v24]
            refine hp_puti rfl (hH.1 118 (17, 105) rfl) rfl ?_
            refine qm_Rp.go 1 (c' := (102, [.ref 118, .int n, .int v23, .int (i + 1), .int 0, .int 2], [], (h.1, qm_up I19 118 85 v24, h.2.2.1, h.2.2.2))) rfl ?_
            obtain ⟨v25, q_v25, e_v25⟩ := hk_add (x := i) (y := 1) (a := i.toInt) (b := 1) rfl rfl (by omega) (by omega)
            rw [q_v25]
            refine qm_Rp.go 1 (c' := (17, [.ref 118, .int n, .int v23, .int v25, .int 0, .int 2], [], (h.1, qm_up I19 118 85 v24, h.2.2.1, h.2.2.2))) rfl ?_
            have hT : jTi 1 p = jCk (jSt 1 (jSt 1 (p) 0) 1) := jTi_w (fun z => by unfold jRs at z; rw [show p.2 118 93 = sh from (je.2 93 (by decide)).trans ((x118 93 rfl).trans q_sh), show p.2 118 94 = rs from (je.2 94 (by decide)).trans ((x118 94 rfl).trans q_rs), show p.2 118 85 = tk from (je.2 85 (by decide)).trans q_tk] at z; omega)
            have e85 : (jSt 1 (jSt 1 (p) 0) 1).2 118 85 = tk := (je_I19.2 85 (by decide)).trans (show (I19) 118 85 = _ from ((f_I19 118 rfl 85).trans ((f_I3 118 rfl 85).trans q_tk)))
            have eC : (jCk (jSt 1 (jSt 1 (p) 0) 1)).2 = qm_up (jSt 1 (jSt 1 (p) 0) 1).2 118 85 v24 := by show qm_up (jSt 1 (jSt 1 (p) 0) 1).2 118 85 ((jSt 1 (jSt 1 (p) 0) 1).2 118 85 + 1) = _; rw [e85, q_v24]
            have e85p : p.2 118 85 = tk := (je.2 85 (by decide)).trans q_tk
            have hm2 : v23 = (qm_up I19 118 85 v24) 181 0 + (qm_up I19 118 85 v24) 181 1 - (h.2.1 181 0 + h.2.1 181 1) := by
              rw [show (qm_up I19 118 85 v24) 181 = I19 181 from funext fun i => hk_ot rfl]
              rw [y22, y22z, y18 0, y18 1]
              rw [← q_v23, hm]
              exact mi_2
            exact ih g hg (jTi 1 p) (qm_up I19 118 85 v24) v23 v25 _ _ (fun o ho i => ((hk_mod ho rfl).trans ((f_I19 o (hk_ms rfl ho) i).trans ((f_I3 o (hk_ms rfl ho) i).trans ((e o (hk_ms rfl ho) i).trans rfl))))) (fun i hi => ((hk_neq (fun z => by subst z; cases hi)).trans ((f_I19 118 rfl i).trans ((f_I3 118 rfl i).trans ((x118 i (hk_ms rfl hi)).trans rfl))))) (by rw [hT]; exact zR_tk zr_I19) (by rw [hT, eC]; exact jEq_up je_I19) (jTi_P hP (by rw [e85p, q_v24]; omega)) (by rw [← hq, show n.toInt.toNat - i.toInt.toNat = (n.toInt.toNat - v25.toInt.toNat) + 1 by omega]; rfl) (by omega) (by rw [jTi_118, e85p, q_v24]; omega) hm2
          · obtain rfl : v20 = 0 := hk_eqi.mpr (hr.trans rfl)
            have y26 : ∀ i, I19 181 i = I3 181 i := hy
            refine qm_Rp.go 1 (c' := (83, [.ref 118, .int n, .int m, .int i, .int 0, .int 1], [], (h.1, I19, h.2.2.1, h.2.2.2))) rfl ?_
            refine qm_Rp.go 7 (c' := (91, [.ref 118, .int n, .int m, .int i, .int 0, .int 2], [.ref 118, .ref 118], (h.1, I19, h.2.2.1, h.2.2.2))) rfl ?_
            refine hp_geti (v := tk) rfl (hH.1 118 (17, 105) rfl) rfl (show (I19) 118 85 = _ from ((f_I19 118 rfl 85).trans ((f_I3 118 rfl 85).trans q_tk))) ?_
            refine qm_Rp.go 2 (c' := (96, [.ref 118, .int n, .int m, .int i, .int 0, .int 2], [.int (tk + 1), .ref 118], (h.1, I19, h.2.2.1, h.2.2.2))) rfl ?_
            obtain ⟨v27, q_v27, e_v27⟩ := hk_add (x := tk) (y := 1) (a := tk.toInt) (b := 1) rfl rfl (by omega) (by omega)
            rw [q_v27]
            refine hp_puti rfl (hH.1 118 (17, 105) rfl) rfl ?_
            refine qm_Rp.go 1 (c' := (102, [.ref 118, .int n, .int m, .int (i + 1), .int 0, .int 2], [], (h.1, qm_up I19 118 85 v27, h.2.2.1, h.2.2.2))) rfl ?_
            obtain ⟨v28, q_v28, e_v28⟩ := hk_add (x := i) (y := 1) (a := i.toInt) (b := 1) rfl rfl (by omega) (by omega)
            rw [q_v28]
            refine qm_Rp.go 1 (c' := (17, [.ref 118, .int n, .int m, .int v28, .int 0, .int 2], [], (h.1, qm_up I19 118 85 v27, h.2.2.1, h.2.2.2))) rfl ?_
            have hT : jTi 1 p = jCk (jSt 1 (jSt 1 (p) 0) 1) := jTi_w (fun z => by unfold jRs at z; rw [show p.2 118 93 = sh from (je.2 93 (by decide)).trans ((x118 93 rfl).trans q_sh), show p.2 118 94 = rs from (je.2 94 (by decide)).trans ((x118 94 rfl).trans q_rs), show p.2 118 85 = tk from (je.2 85 (by decide)).trans q_tk] at z; omega)
            have e85 : (jSt 1 (jSt 1 (p) 0) 1).2 118 85 = tk := (je_I19.2 85 (by decide)).trans (show (I19) 118 85 = _ from ((f_I19 118 rfl 85).trans ((f_I3 118 rfl 85).trans q_tk)))
            have eC : (jCk (jSt 1 (jSt 1 (p) 0) 1)).2 = qm_up (jSt 1 (jSt 1 (p) 0) 1).2 118 85 v27 := by show qm_up (jSt 1 (jSt 1 (p) 0) 1).2 118 85 ((jSt 1 (jSt 1 (p) 0) 1).2 118 85 + 1) = _; rw [e85, q_v27]
            have e85p : p.2 118 85 = tk := (je.2 85 (by decide)).trans q_tk
            have hm2 : m = (qm_up I19 118 85 v27) 181 0 + (qm_up I19 118 85 v27) 181 1 - (h.2.1 181 0 + h.2.1 181 1) := by
              rw [show (qm_up I19 118 85 v27) 181 = I19 181 from funext fun i => hk_ot rfl]
              rw [y26 0, y26 1, y18 0, y18 1]
              exact hm
            exact ih g hg (jTi 1 p) (qm_up I19 118 85 v27) m v28 _ _ (fun o ho i => ((hk_mod ho rfl).trans ((f_I19 o (hk_ms rfl ho) i).trans ((f_I3 o (hk_ms rfl ho) i).trans ((e o (hk_ms rfl ho) i).trans rfl))))) (fun i hi => ((hk_neq (fun z => by subst z; cases hi)).trans ((f_I19 118 rfl i).trans ((f_I3 118 rfl i).trans ((x118 i (hk_ms rfl hi)).trans rfl))))) (by rw [hT]; exact zR_tk zr_I19) (by rw [hT, eC]; exact jEq_up je_I19) (jTi_P hP (by rw [e85p, q_v27]; omega)) (by rw [← hq, show n.toInt.toNat - i.toInt.toNat = (n.toInt.toNat - v28.toInt.toNat) + 1 by omega]; rfl) (by omega) (by rw [jTi_118, e85p, q_v27]; omega) hm2
      · refine qm_Rp.go 1 (c' := (30, [.ref 118, .int n, .int m, .int i, l4, l5], [.ref 118], (h.1, I, h.2.2.1, h.2.2.2))) rfl ?_
        refine hp_geti (v := tk) rfl (hH.1 118 (17, 105) rfl) rfl q_tk ?_
        refine qm_Rp.go 1 (c' := (34, [.ref 118, .int n, .int m, .int i, l4, l5], [.ref 118, .int tk], (h.1, I, h.2.2.1, h.2.2.2))) rfl ?_
        refine hp_geti (v := sh) rfl (hH.1 118 (17, 105) rfl) rfl (show (I) 118 93 = _ from ((x118 93 rfl).trans q_sh)) ?_
        refine qm_Rp.go 1 (c' := (38, [.ref 118, .int n, .int m, .int i, l4, l5], [.ref 118, .int sh, .int tk], (h.1, I, h.2.2.1, h.2.2.2))) rfl ?_
        refine hp_geti (v := rs) rfl (hH.1 118 (17, 105) rfl) rfl (show (I) 118 94 = _ from ((x118 94 rfl).trans q_rs)) ?_
        refine qm_Rp.go 1 (c' := (42, [.ref 118, .int n, .int m, .int i, l4, l5], [.int (sh + rs), .int tk], (h.1, I, h.2.2.1, h.2.2.2))) rfl ?_
        obtain ⟨v29, q_v29, e_v29⟩ := hk_add (x := sh) (y := rs) (a := sh.toInt) (b := rs.toInt) rfl rfl (by omega) (by omega)
        rw [q_v29]
        refine hp_irem rfl (fun y0_29 => ?_)
        refine qm_Rp.go 0 (c' := (43, [.ref 118, .int n, .int m, .int i, l4, l5], [.int (tk - tk / v29 * v29)], (h.1, I, h.2.2.1, h.2.2.2))) rfl ?_
        obtain ⟨v30, q_v30⟩ : ∃ v_, (tk - tk / v29 * v29) = v_ := ⟨_, rfl⟩
        rw [q_v30]
        have e_v30 : v30.toInt = tk.toInt % v29.toInt := by
          obtain ⟨z, z1, z2⟩ := hk_rem (x := tk) (y := v29) (a := tk.toInt) (b := v29.toInt) rfl rfl (by omega) (by omega)
          rw [← q_v30, z1]
          exact z2
        refine qm_Rp.go 1 (c' := (44, [.ref 118, .int n, .int m, .int i, l4, l5], [.ref 118, .int v30], (h.1, I, h.2.2.1, h.2.2.2))) rfl ?_
        refine hp_geti (v := sh) rfl (hH.1 118 (17, 105) rfl) rfl (show (I) 118 93 = _ from ((x118 93 rfl).trans q_sh)) ?_
        refine qm_Rp.go 0 (c' := (47, [.ref 118, .int n, .int m, .int i, l4, l5], [.int sh, .int v30], (h.1, I, h.2.2.1, h.2.2.2))) rfl ?_
        refine hp_clt (ix := v30.toInt) (iy := sh.toInt) rfl rfl rfl (fun z31 => ?_) (fun z31 => ?_)
        · refine qm_Rp.go 11 (c' := (74, [.ref 118, .int n, .int m, .int i, .int 0, .int 0], [.int 0, .ref 118], (h.1, I, h.2.2.1, h.2.2.2))) rfl ?_
          refine hp_inv (o := 118) (r := []) (as := [.ref 118, .int 0]) rfl rfl (hH.1 118 (17, 105) rfl) rfl rfl rfl (px_wk01 (h := (h.1, I, h.2.2.1, h.2.2.2)) hH (A := (p).1) (K := (p).2) hP zr je (fun k => by show (0 : Int) ≤ (I 170 k).toInt ∧ (I 170 k).toInt ≤ 4; rw [show I 170 k = h.2.1 170 k from ((e 170 rfl k).trans rfl)]; exact b170 k) (fun I32 v33 f_I32 zr_I32 je_I32 an_v33 => ?_))
          have hP34 : jP 1 (jSt 1 (p) 0) := jSt_P (by decide) hP
          have zr_I32 : zR (jSt 1 (p) 0).1 I32 := zr_I32
          have je_I32 : jEq (jSt 1 (p) 0).2 I32 := je_I32
          rcases an_v33 with ⟨hr, hy, hz⟩ | ⟨hr, hy⟩
          · obtain rfl : v33 = 1 := hk_eqi.mpr (hr.trans rfl)
            have y35 : I32 181 0 = I 181 0 + 1 := hy
            have y35z : I32 181 1 = I 181 1 := hz
            refine qm_Rp.go 2 (c' := (83, [.ref 118, .int n, .int (m + 1), .int i, .int 0, .int 0], [], (h.1, I32, h.2.2.1, h.2.2.2))) rfl ?_
            obtain ⟨v36, q_v36⟩ : ∃ v_, (m + 1) = v_ := ⟨_, rfl⟩
            rw [q_v36]
            refine qm_Rp.go 9 (c' := (74, [.ref 118, .int n, .int v36, .int i, .int 0, .int 1], [.int 1, .ref 118], (h.1, I32, h.2.2.1, h.2.2.2))) rfl ?_
            refine hp_inv (o := 118) (r := []) (as := [.ref 118, .int 1]) rfl rfl (hH.1 118 (17, 105) rfl) rfl rfl rfl (px_wk11 (h := (h.1, I32, h.2.2.1, h.2.2.2)) hH (A := (jSt 1 (p) 0).1) (K := (jSt 1 (p) 0).2) hP34 zr_I32 je_I32 (fun k => by show (0 : Int) ≤ (I32 170 k).toInt ∧ (I32 170 k).toInt ≤ 4; rw [show I32 170 k = h.2.1 170 k from ((f_I32 170 rfl k).trans ((e 170 rfl k).trans rfl))]; exact b170 k) (fun I37 v38 f_I37 zr_I37 je_I37 an_v38 => ?_))
            have hP39 : jP 1 (jSt 1 (jSt 1 (p) 0) 1) := jSt_P (by decide) hP34
            have zr_I37 : zR (jSt 1 (jSt 1 (p) 0) 1).1 I37 := zr_I37
            have je_I37 : jEq (jSt 1 (jSt 1 (p) 0) 1).2 I37 := je_I37
            rcases an_v38 with ⟨hr, hy, hz⟩ | ⟨hr, hy⟩
            · obtain rfl : v38 = 1 := hk_eqi.mpr (hr.trans rfl)
              have y40 : I37 181 1 = I32 181 1 + 1 := hy
              have y40z : I37 181 0 = I32 181 0 := hz
              refine qm_Rp.go 2 (c' := (83, [.ref 118, .int n, .int (v36 + 1), .int i, .int 0, .int 1], [], (h.1, I37, h.2.2.1, h.2.2.2))) rfl ?_
              obtain ⟨v41, q_v41⟩ : ∃ v_, (v36 + 1) = v_ := ⟨_, rfl⟩
              rw [q_v41]
              refine qm_Rp.go 7 (c' := (91, [.ref 118, .int n, .int v41, .int i, .int 0, .int 2], [.ref 118, .ref 118], (h.1, I37, h.2.2.1, h.2.2.2))) rfl ?_
              refine hp_geti (v := tk) rfl (hH.1 118 (17, 105) rfl) rfl (show (I37) 118 85 = _ from ((f_I37 118 rfl 85).trans ((f_I32 118 rfl 85).trans q_tk))) ?_
              refine qm_Rp.go 2 (c' := (96, [.ref 118, .int n, .int v41, .int i, .int 0, .int 2], [.int (tk + 1), .ref 118], (h.1, I37, h.2.2.1, h.2.2.2))) rfl ?_
              obtain ⟨v42, q_v42, e_v42⟩ := hk_add (x := tk) (y := 1) (a := tk.toInt) (b := 1) rfl rfl (by omega) (by omega)
              rw [q_v42]
              refine hp_puti rfl (hH.1 118 (17, 105) rfl) rfl ?_
              refine qm_Rp.go 1 (c' := (102, [.ref 118, .int n, .int v41, .int (i + 1), .int 0, .int 2], [], (h.1, qm_up I37 118 85 v42, h.2.2.1, h.2.2.2))) rfl ?_
              obtain ⟨v43, q_v43, e_v43⟩ := hk_add (x := i) (y := 1) (a := i.toInt) (b := 1) rfl rfl (by omega) (by omega)
              rw [q_v43]
              refine qm_Rp.go 1 (c' := (17, [.ref 118, .int n, .int v41, .int v43, .int 0, .int 2], [], (h.1, qm_up I37 118 85 v42, h.2.2.1, h.2.2.2))) rfl ?_
              have hT : jTi 1 p = jCk (jSt 1 (jSt 1 (p) 0) 1) := jTi_w (fun z => by unfold jRs at z; rw [show p.2 118 93 = sh from (je.2 93 (by decide)).trans ((x118 93 rfl).trans q_sh), show p.2 118 94 = rs from (je.2 94 (by decide)).trans ((x118 94 rfl).trans q_rs), show p.2 118 85 = tk from (je.2 85 (by decide)).trans q_tk, ← e_v29, ← e_v30] at z; omega)
              have e85 : (jSt 1 (jSt 1 (p) 0) 1).2 118 85 = tk := (je_I37.2 85 (by decide)).trans (show (I37) 118 85 = _ from ((f_I37 118 rfl 85).trans ((f_I32 118 rfl 85).trans q_tk)))
              have eC : (jCk (jSt 1 (jSt 1 (p) 0) 1)).2 = qm_up (jSt 1 (jSt 1 (p) 0) 1).2 118 85 v42 := by show qm_up (jSt 1 (jSt 1 (p) 0) 1).2 118 85 ((jSt 1 (jSt 1 (p) 0) 1).2 118 85 + 1) = _; rw [e85, q_v42]
              have e85p : p.2 118 85 = tk := (je.2 85 (by decide)).trans q_tk
              have hm2 : v41 = (qm_up I37 118 85 v42) 181 0 + (qm_up I37 118 85 v42) 181 1 - (h.2.1 181 0 + h.2.1 181 1) := by
                rw [show (qm_up I37 118 85 v42) 181 = I37 181 from funext fun i => hk_ot rfl]
                rw [y40, y40z, y35, y35z]
                rw [← q_v41, ← q_v36, hm, mi_1]
                exact mi_2
              exact ih g hg (jTi 1 p) (qm_up I37 118 85 v42) v41 v43 _ _ (fun o ho i => ((hk_mod ho rfl).trans ((f_I37 o (hk_ms rfl ho) i).trans ((f_I32 o (hk_ms rfl ho) i).trans ((e o (hk_ms rfl ho) i).trans rfl))))) (fun i hi => ((hk_neq (fun z => by subst z; cases hi)).trans ((f_I37 118 rfl i).trans ((f_I32 118 rfl i).trans ((x118 i (hk_ms rfl hi)).trans rfl))))) (by rw [hT]; exact zR_tk zr_I37) (by rw [hT, eC]; exact jEq_up je_I37) (jTi_P hP (by rw [e85p, q_v42]; omega)) (by rw [← hq, show n.toInt.toNat - i.toInt.toNat = (n.toInt.toNat - v43.toInt.toNat) + 1 by omega]; rfl) (by omega) (by rw [jTi_118, e85p, q_v42]; omega) hm2
            · obtain rfl : v38 = 0 := hk_eqi.mpr (hr.trans rfl)
              have y44 : ∀ i, I37 181 i = I32 181 i := hy
              refine qm_Rp.go 1 (c' := (83, [.ref 118, .int n, .int v36, .int i, .int 0, .int 1], [], (h.1, I37, h.2.2.1, h.2.2.2))) rfl ?_
              refine qm_Rp.go 7 (c' := (91, [.ref 118, .int n, .int v36, .int i, .int 0, .int 2], [.ref 118, .ref 118], (h.1, I37, h.2.2.1, h.2.2.2))) rfl ?_
              refine hp_geti (v := tk) rfl (hH.1 118 (17, 105) rfl) rfl (show (I37) 118 85 = _ from ((f_I37 118 rfl 85).trans ((f_I32 118 rfl 85).trans q_tk))) ?_
              refine qm_Rp.go 2 (c' := (96, [.ref 118, .int n, .int v36, .int i, .int 0, .int 2], [.int (tk + 1), .ref 118], (h.1, I37, h.2.2.1, h.2.2.2))) rfl ?_
              obtain ⟨v45, q_v45, e_v45⟩ := hk_add (x := tk) (y := 1) (a := tk.toInt) (b := 1) rfl rfl (by omega) (by omega)
              rw [q_v45]
              refine hp_puti rfl (hH.1 118 (17, 105) rfl) rfl ?_
              refine qm_Rp.go 1 (c' := (102, [.ref 118, .int n, .int v36, .int (i + 1), .int 0, .int 2], [], (h.1, qm_up I37 118 85 v45, h.2.2.1, h.2.2.2))) rfl ?_
              obtain ⟨v46, q_v46, e_v46⟩ := hk_add (x := i) (y := 1) (a := i.toInt) (b := 1) rfl rfl (by omega) (by omega)
              rw [q_v46]
              refine qm_Rp.go 1 (c' := (17, [.ref 118, .int n, .int v36, .int v46, .int 0, .int 2], [], (h.1, qm_up I37 118 85 v45, h.2.2.1, h.2.2.2))) rfl ?_
              have hT : jTi 1 p = jCk (jSt 1 (jSt 1 (p) 0) 1) := jTi_w (fun z => by unfold jRs at z; rw [show p.2 118 93 = sh from (je.2 93 (by decide)).trans ((x118 93 rfl).trans q_sh), show p.2 118 94 = rs from (je.2 94 (by decide)).trans ((x118 94 rfl).trans q_rs), show p.2 118 85 = tk from (je.2 85 (by decide)).trans q_tk, ← e_v29, ← e_v30] at z; omega)
              have e85 : (jSt 1 (jSt 1 (p) 0) 1).2 118 85 = tk := (je_I37.2 85 (by decide)).trans (show (I37) 118 85 = _ from ((f_I37 118 rfl 85).trans ((f_I32 118 rfl 85).trans q_tk)))
              have eC : (jCk (jSt 1 (jSt 1 (p) 0) 1)).2 = qm_up (jSt 1 (jSt 1 (p) 0) 1).2 118 85 v45 := by show qm_up (jSt 1 (jSt 1 (p) 0) 1).2 118 85 ((jSt 1 (jSt 1 (p) 0) 1).2 118 85 + 1) = _; rw [e85, q_v45]
              have e85p : p.2 118 85 = tk := (je.2 85 (by decide)).trans q_tk
              have hm2 : v36 = (qm_up I37 118 85 v45) 181 0 + (qm_up I37 118 85 v45) 181 1 - (h.2.1 181 0 + h.2.1 181 1) := by
                rw [show (qm_up I37 118 85 v45) 181 = I37 181 from funext fun i => hk_ot rfl]
                rw [y44 0, y44 1, y35, y35z]
                rw [← q_v36, hm]
                exact mi_1
              exact ih g hg (jTi 1 p) (qm_up I37 118 85 v45) v36 v46 _ _ (fun o ho i => ((hk_mod ho rfl).trans ((f_I37 o (hk_ms rfl ho) i).trans ((f_I32 o (hk_ms rfl ho) i).trans ((e o (hk_ms rfl ho) i).trans rfl))))) (fun i hi => ((hk_neq (fun z => by subst z; cases hi)).trans ((f_I37 118 rfl i).trans ((f_I32 118 rfl i).trans ((x118 i (hk_ms rfl hi)).trans rfl))))) (by rw [hT]; exact zR_tk zr_I37) (by rw [hT, eC]; exact jEq_up je_I37) (jTi_P hP (by rw [e85p, q_v45]; omega)) (by rw [← hq, show n.toInt.toNat - i.toInt.toNat = (n.toInt.toNat - v46.toInt.toNat) + 1 by omega]; rfl) (by omega) (by rw [jTi_118, e85p, q_v45]; omega) hm2
          · obtain rfl : v33 = 0 := hk_eqi.mpr (hr.trans rfl)
            have y47 : ∀ i, I32 181 i = I 181 i := hy
            refine qm_Rp.go 1 (c' := (83, [.ref 118, .int n, .int m, .int i, .int 0, .int 0], [], (h.1, I32, h.2.2.1, h.2.2.2))) rfl ?_
            refine qm_Rp.go 9 (c' := (74, [.ref 118, .int n, .int m, .int i, .int 0, .int 1], [.int 1, .ref 118], (h.1, I32, h.2.2.1, h.2.2.2))) rfl ?_
            refine hp_inv (o := 118) (r := []) (as := [.ref 118, .int 1]) rfl rfl (hH.1 118 (17, 105) rfl) rfl rfl rfl (px_wk11 (h := (h.1, I32, h.2.2.1, h.2.2.2)) hH (A := (jSt 1 (p) 0).1) (K := (jSt 1 (p) 0).2) hP34 zr_I32 je_I32 (fun k => by show (0 : Int) ≤ (I32 170 k).toInt ∧ (I32 170 k).toInt ≤ 4; rw [show I32 170 k = h.2.1 170 k from ((f_I32 170 rfl k).trans ((e 170 rfl k).trans rfl))]; exact b170 k) (fun I48 v49 f_I48 zr_I48 je_I48 an_v49 => ?_))
            have hP50 : jP 1 (jSt 1 (jSt 1 (p) 0) 1) := jSt_P (by decide) hP34
            have zr_I48 : zR (jSt 1 (jSt 1 (p) 0) 1).1 I48 := zr_I48
            have je_I48 : jEq (jSt 1 (jSt 1 (p) 0) 1).2 I48 := je_I48
            rcases an_v49 with ⟨hr, hy, hz⟩ | ⟨hr, hy⟩
            · obtain rfl : v49 = 1 := hk_eqi.mpr (hr.trans rfl)
              have y51 : I48 181 1 = I32 181 1 + 1 := hy
              have y51z : I48 181 0 = I32 181 0 := hz
              refine qm_Rp.go 2 (c' := (83, [.ref 118, .int n, .int (m + 1), .int i, .int 0, .int 1], [], (h.1, I48, h.2.2.1, h.2.2.2))) rfl ?_
              obtain ⟨v52, q_v52⟩ : ∃ v_, (m + 1) = v_ := ⟨_, rfl⟩
              rw [q_v52]
              refine qm_Rp.go 7 (c' := (91, [.ref 118, .int n, .int v52, .int i, .int 0, .int 2], [.ref 118, .ref 118], (h.1, I48, h.2.2.1, h.2.2.2))) rfl ?_
              refine hp_geti (v := tk) rfl (hH.1 118 (17, 105) rfl) rfl (show (I48) 118 85 = _ from ((f_I48 118 rfl 85).trans ((f_I32 118 rfl 85).trans q_tk))) ?_
              refine qm_Rp.go 2 (c' := (96, [.ref 118, .int n, .int v52, .int i, .int 0, .int 2], [.int (tk + 1), .ref 118], (h.1, I48, h.2.2.1, h.2.2.2))) rfl ?_
              obtain ⟨v53, q_v53, e_v53⟩ := hk_add (x := tk) (y := 1) (a := tk.toInt) (b := 1) rfl rfl (by omega) (by omega)
              rw [q_v53]
              refine hp_puti rfl (hH.1 118 (17, 105) rfl) rfl ?_
              refine qm_Rp.go 1 (c' := (102, [.ref 118, .int n, .int v52, .int (i + 1), .int 0, .int 2], [], (h.1, qm_up I48 118 85 v53, h.2.2.1, h.2.2.2))) rfl ?_
              obtain ⟨v54, q_v54, e_v54⟩ := hk_add (x := i) (y := 1) (a := i.toInt) (b := 1) rfl rfl (by omega) (by omega)
              rw [q_v54]
              refine qm_Rp.go 1 (c' := (17, [.ref 118, .int n, .int v52, .int v54, .int 0, .int 2], [], (h.1, qm_up I48 118 85 v53, h.2.2.1, h.2.2.2))) rfl ?_
              have hT : jTi 1 p = jCk (jSt 1 (jSt 1 (p) 0) 1) := jTi_w (fun z => by unfold jRs at z; rw [show p.2 118 93 = sh from (je.2 93 (by decide)).trans ((x118 93 rfl).trans q_sh), show p.2 118 94 = rs from (je.2 94 (by decide)).trans ((x118 94 rfl).trans q_rs), show p.2 118 85 = tk from (je.2 85 (by decide)).trans q_tk, ← e_v29, ← e_v30] at z; omega)
              have e85 : (jSt 1 (jSt 1 (p) 0) 1).2 118 85 = tk := (je_I48.2 85 (by decide)).trans (show (I48) 118 85 = _ from ((f_I48 118 rfl 85).trans ((f_I32 118 rfl 85).trans q_tk)))
              have eC : (jCk (jSt 1 (jSt 1 (p) 0) 1)).2 = qm_up (jSt 1 (jSt 1 (p) 0) 1).2 118 85 v53 := by show qm_up (jSt 1 (jSt 1 (p) 0) 1).2 118 85 ((jSt 1 (jSt 1 (p) 0) 1).2 118 85 + 1) = _; rw [e85, q_v53]
              have e85p : p.2 118 85 = tk := (je.2 85 (by decide)).trans q_tk
              have hm2 : v52 = (qm_up I48 118 85 v53) 181 0 + (qm_up I48 118 85 v53) 181 1 - (h.2.1 181 0 + h.2.1 181 1) := by
                rw [show (qm_up I48 118 85 v53) 181 = I48 181 from funext fun i => hk_ot rfl]
                rw [y51, y51z, y47 0, y47 1]
                rw [← q_v52, hm]
                exact mi_2
              exact ih g hg (jTi 1 p) (qm_up I48 118 85 v53) v52 v54 _ _ (fun o ho i => ((hk_mod ho rfl).trans ((f_I48 o (hk_ms rfl ho) i).trans ((f_I32 o (hk_ms rfl ho) i).trans ((e o (hk_ms rfl ho) i).trans rfl))))) (fun i hi => ((hk_neq (fun z => by subst z; cases hi)).trans ((f_I48 118 rfl i).trans ((f_I32 118 rfl i).trans ((x118 i (hk_ms rfl hi)).trans rfl))))) (by rw [hT]; exact zR_tk zr_I48) (by rw [hT, eC]; exact jEq_up je_I48) (jTi_P hP (by rw [e85p, q_v53]; omega)) (by rw [← hq, show n.toInt.toNat - i.toInt.toNat = (n.toInt.toNat - v54.toInt.toNat) + 1 by omega]; rfl) (by omega) (by rw [jTi_118, e85p, q_v53]; omega) hm2
            · obtain rfl : v49 = 0 := hk_eqi.mpr (hr.trans rfl)
              have y55 : ∀ i, I48 181 i = I32 181 i := hy
              refine qm_Rp.go 1 (c' := (83, [.ref 118, .int n, .int m, .int i, .int 0, .int 1], [], (h.1, I48, h.2.2.1, h.2.2.2))) rfl ?_
              refine qm_Rp.go 7 (c' := (91, [.ref 118, .int n, .int m, .int i, .int 0, .int 2], [.ref 118, .ref 118], (h.1, I48, h.2.2.1, h.2.2.2))) rfl ?_
              refine hp_geti (v := tk) rfl (hH.1 118 (17, 105) rfl) rfl (show (I48) 118 85 = _ from ((f_I48 118 rfl 85).trans ((f_I32 118 rfl 85).trans q_tk))) ?_
              refine qm_Rp.go 2 (c' := (96, [.ref 118, .int n, .int m, .int i, .int 0, .int 2], [.int (tk + 1), .ref 118], (h.1, I48, h.2.2.1, h.2.2.2))) rfl ?_
              obtain ⟨v56, q_v56, e_v56⟩ := hk_add (x := tk) (y := 1) (a := tk.toInt) (b := 1) rfl rfl (by omega) (by omega)
              rw [q_v56]
              refine hp_puti rfl (hH.1 118 (17, 105) rfl) rfl ?_
              refine qm_Rp.go 1 (c' := (102, [.ref 118, .int n, .int m, .int (i + 1), .int 0, .int 2], [], (h.1, qm_up I48 118 85 v56, h.2.2.1, h.2.2.2))) rfl ?_
              obtain ⟨v57, q_v57, e_v57⟩ := hk_add (x := i) (y := 1) (a := i.toInt) (b := 1) rfl rfl (by omega) (by omega)
              rw [q_v57]
              refine qm_Rp.go 1 (c' := (17, [.ref 118, .int n, .int m, .int v57, .int 0, .int 2], [], (h.1, qm_up I48 118 85 v56, h.2.2.1, h.2.2.2))) rfl ?_
              have hT : jTi 1 p = jCk (jSt 1 (jSt 1 (p) 0) 1) := jTi_w (fun z => by unfold jRs at z; rw [show p.2 118 93 = sh from (je.2 93 (by decide)).trans ((x118 93 rfl).trans q_sh), show p.2 118 94 = rs from (je.2 94 (by decide)).trans ((x118 94 rfl).trans q_rs), show p.2 118 85 = tk from (je.2 85 (by decide)).trans q_tk, ← e_v29, ← e_v30] at z; omega)
              have e85 : (jSt 1 (jSt 1 (p) 0) 1).2 118 85 = tk := (je_I48.2 85 (by decide)).trans (show (I48) 118 85 = _ from ((f_I48 118 rfl 85).trans ((f_I32 118 rfl 85).trans q_tk)))
              have eC : (jCk (jSt 1 (jSt 1 (p) 0) 1)).2 = qm_up (jSt 1 (jSt 1 (p) 0) 1).2 118 85 v56 := by show qm_up (jSt 1 (jSt 1 (p) 0) 1).2 118 85 ((jSt 1 (jSt 1 (p) 0) 1).2 118 85 + 1) = _; rw [e85, q_v56]
              have e85p : p.2 118 85 = tk := (je.2 85 (by decide)).trans q_tk
              have hm2 : m = (qm_up I48 118 85 v56) 181 0 + (qm_up I48 118 85 v56) 181 1 - (h.2.1 181 0 + h.2.1 181 1) := by
                rw [show (qm_up I48 118 85 v56) 181 = I48 181 from funext fun i => hk_ot rfl]
                rw [y55 0, y55 1, y47 0, y47 1]
                exact hm
              exact ih g hg (jTi 1 p) (qm_up I48 118 85 v56) m v57 _ _ (fun o ho i => ((hk_mod ho rfl).trans ((f_I48 o (hk_ms rfl ho) i).trans ((f_I32 o (hk_ms rfl ho) i).trans ((e o (hk_ms rfl ho) i).trans rfl))))) (fun i hi => ((hk_neq (fun z => by subst z; cases hi)).trans ((f_I48 118 rfl i).trans ((f_I32 118 rfl i).trans ((x118 i (hk_ms rfl hi)).trans rfl))))) (by rw [hT]; exact zR_tk zr_I48) (by rw [hT, eC]; exact jEq_up je_I48) (jTi_P hP (by rw [e85p, q_v56]; omega)) (by rw [← hq, show n.toInt.toNat - i.toInt.toNat = (n.toInt.toNat - v57.toInt.toNat) + 1 by omega]; rfl) (by omega) (by rw [jTi_118, e85p, q_v56]; omega) hm2
        · refine qm_Rp.go 12 (c' := (91, [.ref 118, .int n, .int m, .int i, .int 1, .int 0], [.ref 118, .ref 118], (h.1, I, h.2.2.1, h.2.2.2))) rfl ?_
          refine hp_geti (v := tk) rfl (hH.1 118 (17, 105) rfl) rfl q_tk ?_
          refine qm_Rp.go 2 (c' := (96, [.ref 118, .int n, .int m, .int i, .int 1, .int 0], [.int (tk + 1), .ref 118], (h.1, I, h.2.2.1, h.2.2.2))) rfl ?_
          obtain ⟨v58, q_v58, e_v58⟩ := hk_add (x := tk) (y := 1) (a := tk.toInt) (b := 1) rfl rfl (by omega) (by omega)
          rw [q_v58]
          refine hp_puti rfl (hH.1 118 (17, 105) rfl) rfl ?_
          refine qm_Rp.go 1 (c' := (102, [.ref 118, .int n, .int m, .int (i + 1), .int 1, .int 0], [], (h.1, qm_up I 118 85 v58, h.2.2.1, h.2.2.2))) rfl ?_
          obtain ⟨v59, q_v59, e_v59⟩ := hk_add (x := i) (y := 1) (a := i.toInt) (b := 1) rfl rfl (by omega) (by omega)
          rw [q_v59]
          refine qm_Rp.go 1 (c' := (17, [.ref 118, .int n, .int m, .int v59, .int 1, .int 0], [], (h.1, qm_up I 118 85 v58, h.2.2.1, h.2.2.2))) rfl ?_
          have hT : jTi 1 p = jCk (p) := jTi_r (by unfold jRs; rw [show p.2 118 93 = sh from (je.2 93 (by decide)).trans ((x118 93 rfl).trans q_sh), show p.2 118 94 = rs from (je.2 94 (by decide)).trans ((x118 94 rfl).trans q_rs), show p.2 118 85 = tk from (je.2 85 (by decide)).trans q_tk, ← e_v29, ← e_v30]; omega)
          have e85 : (p).2 118 85 = tk := (je.2 85 (by decide)).trans q_tk
          have eC : (jCk (p)).2 = qm_up (p).2 118 85 v58 := by show qm_up (p).2 118 85 ((p).2 118 85 + 1) = _; rw [e85, q_v58]
          have e85p : p.2 118 85 = tk := (je.2 85 (by decide)).trans q_tk
          have hm2 : m = (qm_up I 118 85 v58) 181 0 + (qm_up I 118 85 v58) 181 1 - (h.2.1 181 0 + h.2.1 181 1) := by
            rw [show (qm_up I 118 85 v58) 181 = I 181 from funext fun i => hk_ot rfl]
            exact hm
          exact ih g hg (jTi 1 p) (qm_up I 118 85 v58) m v59 _ _ (fun o ho i => ((hk_mod ho rfl).trans ((e o (hk_ms rfl ho) i).trans rfl))) (fun i hi => ((hk_neq (fun z => by subst z; cases hi)).trans ((x118 i (hk_ms rfl hi)).trans rfl))) (by rw [hT]; exact zR_tk zr) (by rw [hT, eC]; exact jEq_up je) (jTi_P hP (by rw [e85p, q_v58]; omega)) (by rw [← hq, show n.toInt.toNat - i.toInt.toNat = (n.toInt.toNat - v59.toInt.toNat) + 1 by omega]; rfl) (by omega) (by rw [jTi_118, e85p, q_v58]; omega) hm2
theorem pz_rwork1 {X : Option (Nat × (Nat → Int32))} {Z : Option Value → qm_H → Prop} {h : qm_H} {fu : Nat} (hH : hk_H h) {n : Int32} {p : (Nat → Nat → Int) × (Nat → Nat → Int32)} (hP : jP 1 p) (zr : zR p.1 h.2.1) (je : jEq p.2 h.2.1) (htb : (p.2 118 85).toInt ≤ 900000000) {sh rs : Int32} (q_sh : h.2.1 118 93 = sh) (q_rs : h.2.1 118 94 = rs) (b_sh : 0 ≤ sh.toInt ∧ sh.toInt ≤ 500) (b_rs : 0 ≤ rs.toInt ∧ rs.toInt ≤ 500) (b170 : ∀ k, (0 : Int) ≤ (h.2.1 170 k).toInt ∧ (h.2.1 170 k).toInt ≤ 4) (k : ∀ (I : Nat → Nat → Int32) (v : Int32), (∀ o, [118, 150, 151, 152, 153, 154, 155, 156, 172, 173, 174, 175, 176, 177, 178, 179, 180, 181].contains o = false → ∀ i, I o i = h.2.1 o i) → (∀ i, [85].contains i = false → I 118 i = h.2.1 118 i) → zR (jWk 1 p n).1 I → jEq (jWk 1 p n).2 I → ((0 ≤ n.toInt ∧ n.toInt ≤ 200) ∧ v = I 181 0 + I 181 1 - (h.2.1 181 0 + h.2.1 181 1) ∨ ¬ (0 ≤ n.toInt ∧ n.toInt ≤ 200) ∧ v = -1) → Z (some (.int v)) (h.1, I, h.2.2.1, h.2.2.2)) : qm_Rp fu X cd_361 (qm_ent 6 [.ref 118, .int n] h) Z := by
  refine qm_Rp.go 0 (c' := (0, [.ref 118, .int n, .float 0, .float 0, .float 0, .float 0], [], h)) rfl ?_
  have kz0 : (0 : Int32).toInt = 0 := rfl
  have kz1 : (1 : Int32).toInt = 1 := rfl
  have kz2 : (2 : Int32).toInt = 2 := rfl
  have kz3 : (3 : Int32).toInt = 3 := rfl
  have kz4 : (4 : Int32).toInt = 4 := rfl
  have kz5 : (5 : Int32).toInt = 5 := rfl
  have kz6 : (6 : Int32).toInt = 6 := rfl
  have kz7 : (7 : Int32).toInt = 7 := rfl
  have kz8 : (8 : Int32).toInt = 8 := rfl
  have kz9 : (9 : Int32).toInt = 9 := rfl
  have kzm1 : ((-1) : Int32).toInt = (-1) := rfl
  have kzm2 : ((-2) : Int32).toInt = (-2) := rfl
  have kzm3 : ((-3) : Int32).toInt = (-3) := rfl
  refine qm_Rp.go 3 (c' := (5, [.ref 118, .int n, .float 0, .float 0, .float 0, .float 0], [.int 200, .int 0, .int n], h)) rfl ?_
  refine qm_Rp.call (j := 270) (as := [.int n, .int 0, .int 200]) (c' := (8, [.ref 118, .int n, .float 0, .float 0, .float 0, .float 0], [], h)) rfl rfl ?_
  refine qm_Rp.go 2 (c' := (2, [.int n, .int 0, .int 200], [.int 0, .int n], h)) rfl ?_
  refine hp_clt (ix := n.toInt) (iy := 0) rfl rfl rfl (fun z1 => ?_) (fun z1 => ?_)
  · refine qm_Rp.go 1 (c' := (15, [.int n, .int 0, .int 200], [.int 0], h)) rfl ?_
    refine qm_Rp.rt (v := (some (.int 0))) (h' := h) rfl ?_
    refine qm_Rp.go 2 (c' := (12, [.ref 118, .int n, .float 0, .float 0, .float 0, .float 0], [.int (-1)], h)) rfl ?_
    refine qm_Rp.rt (v := (some (.int (-1)))) (h' := h) rfl ?_
    have hn : ¬ (0 ≤ n.toInt ∧ n.toInt ≤ 200) := by omega
    exact k h.2.1 (-1) (fun _ _ _ => rfl) (fun _ _ => rfl) (by rw [jWk_0 hn]; exact zr) (by rw [jWk_0 hn]; exact je) (Or.inr ⟨hn, rfl⟩)
  · refine qm_Rp.go 2 (c' := (7, [.int n, .int 0, .int 200], [.int 200, .int n], h)) rfl ?_
    refine hp_cgt (ix := n.toInt) (iy := 200) rfl rfl rfl (fun z2 => ?_) (fun z2 => ?_)
    · refine qm_Rp.go 1 (c' := (15, [.int n, .int 0, .int 200], [.int 0], h)) rfl ?_
      refine qm_Rp.rt (v := (some (.int 0))) (h' := h) rfl ?_
      refine qm_Rp.go 2 (c' := (12, [.ref 118, .int n, .float 0, .float 0, .float 0, .float 0], [.int (-1)], h)) rfl ?_
      refine qm_Rp.rt (v := (some (.int (-1)))) (h' := h) rfl ?_
      have hn : ¬ (0 ≤ n.toInt ∧ n.toInt ≤ 200) := by omega
      exact k h.2.1 (-1) (fun _ _ _ => rfl) (fun _ _ => rfl) (by rw [jWk_0 hn]; exact zr) (by rw [jWk_0 hn]; exact je) (Or.inr ⟨hn, rfl⟩)
    · refine qm_Rp.go 2 (c' := (15, [.int n, .int 0, .int 200], [.int 1], h)) rfl ?_
      refine qm_Rp.rt (v := (some (.int 1))) (h' := h) rfl ?_
      refine qm_Rp.go 5 (c' := (17, [.ref 118, .int n, .int 0, .int 0, .float 0, .float 0], [], h)) rfl ?_
      have hn : 0 ≤ n.toInt ∧ n.toInt ≤ 200 := by omega
      exact px_rwl1 hH hn q_sh q_rs b_sh b_rs b170 (q := jRn 1 n.toInt.toNat p) (fun I v e x zr je hv => k I v e x (by rw [jWk_1 hn]; exact zr) (by rw [jWk_1 hn]; exact je) (Or.inl ⟨hn, hv⟩)) _ p h.2.1 0 0 _ _ (fun _ _ _ => rfl) (fun _ _ => rfl) zr je hP rfl (by decide) (by have z0 : (0 : Int32).toInt = 0 := rfl; omega) (by rw [Int32.sub_self])
