/-! the class's work, in given runs -/
/-- the crane's job is lifted long enough, at its goal, with no wind -/
noncomputable def jFn (K : Nat → Nat → Int32) (c : Nat) : Prop := (K 178 c).toInt ≠ -1 ∧ K 177 c = K 170 (K 178 c).toInt.toNat ∧ ¬ jWn K ∧ ¬ (K 179 c + 1).toInt < 2
/-- behind bringsToEnd: what it answers -/
noncomputable def jBr (K I : Nat → Nat → Int32) (c : Nat) (r : Int32) : Prop := (r.toInt = 0 ∧ ∃ K2, (∀ s A, jGo s A K c = (A, K2)) ∧ zJ K2 I) ∨ (r.toInt = 1 ∧ jFn K c ∧ zJ (jLi K c) I)
theorem jFi_li {K : Nat → Nat → Int32} {c k : Nat} {v : Int32} : jFi K c k v = qm_up (qm_up (qm_up (qm_up (qm_up (qm_up (jLi K c) 176 k v) 172 k 2) 175 k (K 118 85)) 178 c (-1)) 179 c 0) 181 c (K 181 c + 1) := rfl
/-- the class's job cells aside -/
theorem zC_j {A : Nat → Nat → Int} {I I2 : Nat → Nat → Int32} (hc : zC A I) (e : ∀ o, (o < 51 ∨ 97 < o) → ∀ i, I2 o i = I o i) : zC A I2 := by
  obtain ⟨⟨c1, c2, c3, c4, c5, c6, c7, c8⟩, ⟨c9, c10⟩, hp, hs⟩ := hc
  have f : ∀ o, o < 51 → pI I2 o = pI I o := fun o ho => funext fun i => congrArg Int32.toInt (e o (Or.inl ho) i)
  refine ⟨⟨(f 7 (by decide)).trans c1, (f 8 (by decide)).trans c2, (f 9 (by decide)).trans c3, (f 10 (by decide)).trans c4, (f 11 (by decide)).trans c5, (f 36 (by decide)).trans c6, (f 16 (by decide)).trans c7, (f 17 (by decide)).trans c8⟩, ⟨by rw [e 28 (by decide) 4]; exact c9, by rw [e 6 (by decide) 0]; exact c10⟩, ?_, ?_⟩
  · rw [f 12 (by decide), f 13 (by decide), f 14 (by decide)]
    exact hp
  · rw [e 28 (by decide) 5, e 28 (by decide) 6, f 37 (by decide)]
    exact hs
/-- the text in force aside -/
theorem zM_j {t s : Nat} {A A2 : Nat → Nat → Int} {I I2 : Nat → Nat → Int32} (hm : zM t s A I) (ht : ∀ i, I2 t i = I t i) (h18 : A2 118 18 = A 118 18) (e : ∀ o ∈ [127, 128, 129, 131, 132], A2 o = A o) : zM t s A2 I2 := by
  obtain ⟨ms, m0, m1, m2, m3, m4, m6, m7⟩ := hm
  refine ⟨h18.trans ms, ?_, ?_, ?_, ?_, ?_, ?_, ?_⟩
  · rw [ht 0, e 127 (by decide)]; exact m0
  · rw [ht 1, e 128 (by decide)]; exact m1
  · rw [ht 2, e 128 (by decide)]; exact m2
  · rw [ht 3, e 128 (by decide)]; exact m3
  · rw [ht 4, e 129 (by decide)]; exact m4
  · rw [ht 6, e 131 (by decide)]; exact m6
  · rw [ht 7, e 132 (by decide)]; exact m7
theorem px_cown0 {X : Option (Nat × (Nat → Int32))} {Z : Option Value → qm_H → Prop} {h : qm_H} {fu : Nat} (hH : hk_H h) {K : Nat → Nat → Int32} (hz : zJ K h.2.1) (hI : jI K) {so ho y : Int32} (q_so : h.2.1 93 1 = so) (q_ho : h.2.1 94 1 = ho) (k_so : K 177 1 = so) (k_ho : K 178 1 = ho) (io : (ho.toInt = -1 ∨ (0 ≤ ho.toInt ∧ ho.toInt < (K 118 75).toInt)) ∧ (0 ≤ (K 118 75).toInt ∧ (K 118 75).toInt ≤ 40) ∧ (-1 ≤ so.toInt ∧ so.toInt ≤ 4)) (k : ∀ r : Int32, (r.toInt = 1 ∧ jSd K 0 y.toInt ∨ r.toInt = 0 ∧ ¬ jSd K 0 y.toInt) → Z (some (.int r)) h) : qm_Rp fu X cd_207 (qm_ent 6 [.ref 51, .int 0, .int y] h) Z := by
  refine qm_Rp.go 0 (c' := (0, [.ref 51, .int 0, .int y, .float 0, .float 0, .float 0], [], h)) rfl ?_
  have kz0 : (0 : Int32).toInt = 0 := rfl
  have kz1 : (1 : Int32).toInt = 1 := rfl
  have kz2 : (2 : Int32).toInt = 2 := rfl
  have kz3 : (3 : Int32).toInt = 3 := rfl
  have kz4 : (4 : Int32).toInt = 4 := rfl
  have kz5 : (5 : Int32).toInt = 5 := rfl
  have kz6 : (6 : Int32).toInt = 6 := rfl
  have kz7 : (7 : Int32).toInt = 7 := rfl
  have kz8 : (8 : Int32).toInt = 8 := rfl
  have kz9 : (9 : Int32).toInt = 9 := rfl
  have kzm1 : ((-1) : Int32).toInt = (-1) := rfl
  have kzm2 : ((-2) : Int32).toInt = (-2) := rfl
  have kzm3 : ((-3) : Int32).toInt = (-3) := rfl
  refine qm_Rp.go 5 (c' := (5, [.ref 51, .int 0, .int y, .int 1, .float 0, .float 0], [.ref 51], h)) rfl ?_
  refine hp_getr rfl (hH.1 51 (14, 13) rfl) rfl (hH.2 51 3 (some 93) rfl) ?_
  refine qm_Rp.go 1 (c' := (9, [.ref 51, .int 0, .int y, .int 1, .float 0, .float 0], [.int 1, .ref 93], h)) rfl ?_
  refine hp_ial (v := so) rfl (hH.1 93 (0, 2) rfl) q_so (fun ia_0 ib_0 => ?_)
  refine qm_Rp.go 2 (c' := (13, [.ref 51, .int 0, .int y, .int 1, .int so, .float 0], [.ref 51], h)) rfl ?_
  refine hp_getr rfl (hH.1 51 (14, 13) rfl) rfl (hH.2 51 4 (some 94) rfl) ?_
  refine qm_Rp.go 1 (c' := (17, [.ref 51, .int 0, .int y, .int 1, .int so, .float 0], [.int 1, .ref 94], h)) rfl ?_
  refine hp_ial (v := ho) rfl (hH.1 94 (0, 2) rfl) q_ho (fun ia_1 ib_1 => ?_)
  refine qm_Rp.go 1 (c' := (19, [.ref 51, .int 0, .int y, .int 1, .int so, .float 0], [.int (-1), .int ho], h)) rfl ?_
  refine hp_cne (ix := ho.toInt) (iy := (-1)) rfl rfl rfl (fun z3 => ?_) (fun z3 => ?_)
  · refine qm_Rp.go 1 (c' := (28, [.ref 51, .int 0, .int y, .int 1, .int so, .float 0], [.ref 51], h)) rfl ?_
    refine hp_getr rfl (hH.1 51 (14, 13) rfl) rfl (hH.2 51 1 (some 52) rfl) ?_
    refine qm_Rp.go 1 (c' := (32, [.ref 51, .int 0, .int y, .int 1, .int so, .float 0], [.ref 51, .ref 52], h)) rfl ?_
    refine hp_getr rfl (hH.1 51 (14, 13) rfl) rfl (hH.2 51 4 (some 94) rfl) ?_
    refine qm_Rp.go 1 (c' := (36, [.ref 51, .int 0, .int y, .int 1, .int so, .float 0], [.int 1, .ref 94, .ref 52], h)) rfl ?_
    refine hp_ial (v := ho) rfl (hH.1 94 (0, 2) rfl) q_ho (fun ia_3 ib_3 => ?_)
    refine qm_Rp.go 0 (c' := (37, [.ref 51, .int 0, .int y, .int 1, .int so, .float 0], [.int ho, .ref 52], h)) rfl ?_
    refine hp_aal rfl (hH.1 52 (4, 40) rfl) (row_ref hH (by omega)) (fun ia_4 ib_4 => ?_)
    refine qm_Rp.go 1 (c' := (39, [.ref 51, .int 0, .int y, .int 1, .int so, .float 0], [.int 1, .ref (53 + ho.toInt.toNat)], h)) rfl ?_
    obtain ⟨v6, q_v6⟩ : ∃ v_, h.2.1 (53 + ho.toInt.toNat) 1 = v_ := ⟨_, rfl⟩
    refine hp_ial (v := v6) rfl (row_sh hH (by omega)) q_v6 (fun ia_6 ib_6 => ?_)
    refine qm_Rp.go 5 (c' := (49, [.ref 51, .int 0, .int y, .int 1, .int so, .int v6], [.int so, .int y], h)) rfl ?_
    refine hp_cge (ix := y.toInt) (iy := so.toInt) rfl rfl rfl (fun z8 => ?_) (fun z8 => ?_)
    · refine qm_Rp.go 2 (c' := (83, [.ref 51, .int 0, .int y, .int 1, .int so, .int v6], [.int 0], h)) rfl ?_
      refine qm_Rp.rt (v := (some (.int 0))) (h' := h) rfl ?_
      have k_v6 : K 170 ho.toInt.toNat = v6 := ((hz.2.2 ho.toInt.toNat (by omega)).1.1).symm.trans q_v6
      exact k 0 (Or.inr ⟨rfl, fun z => by have z := jSd_0.mp z; rw [k_so, k_ho, k_v6] at z; omega⟩)
    · refine qm_Rp.go 2 (c' := (55, [.ref 51, .int 0, .int y, .int 1, .int so, .int v6], [.int v6, .int y], h)) rfl ?_
      refine hp_cge (ix := y.toInt) (iy := v6.toInt) rfl rfl rfl (fun z9 => ?_) (fun z9 => ?_)
      · refine qm_Rp.go 2 (c' := (83, [.ref 51, .int 0, .int y, .int 1, .int so, .int v6], [.int 0], h)) rfl ?_
        refine qm_Rp.rt (v := (some (.int 0))) (h' := h) rfl ?_
        have k_v6 : K 170 ho.toInt.toNat = v6 := ((hz.2.2 ho.toInt.toNat (by omega)).1.1).symm.trans q_v6
        exact k 0 (Or.inr ⟨rfl, fun z => by have z := jSd_0.mp z; rw [k_so, k_ho, k_v6] at z; omega⟩)
      · refine qm_Rp.go 2 (c' := (83, [.ref 51, .int 0, .int y, .int 1, .int so, .int v6], [.int 1], h)) rfl ?_
        refine qm_Rp.rt (v := (some (.int 1))) (h' := h) rfl ?_
        have k_v6 : K 170 ho.toInt.toNat = v6 := ((hz.2.2 ho.toInt.toNat (by omega)).1.1).symm.trans q_v6
        exact k 1 (Or.inl ⟨rfl, jSd_0.mpr (by rw [k_so, k_ho, k_v6]; omega)⟩)
  · refine qm_Rp.go 7 (c' := (49, [.ref 51, .int 0, .int y, .int 1, .int so, .int so], [.int so, .int y], h)) rfl ?_
    refine hp_cge (ix := y.toInt) (iy := so.toInt) rfl rfl rfl (fun z10 => ?_) (fun z10 => ?_)
    · refine qm_Rp.go 2 (c' := (83, [.ref 51, .int 0, .int y, .int 1, .int so, .int so], [.int 0], h)) rfl ?_
      refine qm_Rp.rt (v := (some (.int 0))) (h' := h) rfl ?_
      exact k 0 (Or.inr ⟨rfl, fun z => by have z := jSd_0.mp z; rw [k_so, k_ho] at z; omega⟩)
    · refine qm_Rp.go 2 (c' := (55, [.ref 51, .int 0, .int y, .int 1, .int so, .int so], [.int so, .int y], h)) rfl ?_
      refine hp_cge (ix := y.toInt) (iy := so.toInt) rfl rfl rfl (fun z11 => by exfalso; omega) (fun z11 => ?_)
      refine qm_Rp.go 2 (c' := (83, [.ref 51, .int 0, .int y, .int 1, .int so, .int so], [.int 1], h)) rfl ?_
      refine qm_Rp.rt (v := (some (.int 1))) (h' := h) rfl ?_
      exact k 1 (Or.inl ⟨rfl, jSd_0.mpr (by rw [k_so, k_ho]; omega)⟩)
set_option maxHeartbeats 20000000 in
theorem px_cskl0 {X : Option (Nat × (Nat → Int32))} {Z : Option Value → qm_H → Prop} {h : qm_H} (hH : hk_H h) {K : Nat → Nat → Int32} (hz : zJ K h.2.1) (hI : jI K) {n tk hv so ho : Int32} (q_n : h.2.1 51 2 = n) (k_n : K 118 75 = n) (b_n : 0 ≤ n.toInt ∧ n.toInt ≤ 40) (q_tk : h.2.1 51 8 = tk) (k_tk : K 118 85 = tk) (k_hv : K 178 0 = hv) (b_hv : hv.toInt = -1) (q_so : h.2.1 93 1 = so) (q_ho : h.2.1 94 1 = ho) (k_so : K 177 1 = so) (k_ho : K 178 1 = ho) (io : (ho.toInt = -1 ∨ (0 ≤ ho.toInt ∧ ho.toInt < n.toInt)) ∧ (0 ≤ n.toInt ∧ n.toInt ≤ 40) ∧ (0 ≤ (K 179 1).toInt ∧ (K 179 1).toInt ≤ 1) ∧ (-1 ≤ so.toInt ∧ so.toInt ≤ 4)) (k : ∀ I : Nat → Nat → Int32, (∀ o, (o < 53 ∨ 97 < o) → ∀ i, I o i = h.2.1 o i) → zJ (jTk K 0) I → Z none (h.1, I, h.2.2.1, h.2.2.2)) : ∀ (fu : Nat) (q : Int32), (0 ≤ q.toInt ∧ q.toInt ≤ n.toInt) → (jFs (jFr K 0) (n.toInt.toNat - q.toInt.toNat) q.toInt.toNat = jNx K 0) → qm_Rp fu X cd_206 (2, [.ref 51, .int 0, .int q], [], h) Z := by
  intro fu
  induction fu using Nat.strongRecOn with
  | ind fu ih =>
    intro q b_q hF
    have kz0 : (0 : Int32).toInt = 0 := rfl
    have kz1 : (1 : Int32).toInt = 1 := rfl
    have kz2 : (2 : Int32).toInt = 2 := rfl
    have kz3 : (3 : Int32).toInt = 3 := rfl
    have kz4 : (4 : Int32).toInt = 4 := rfl
    have kz5 : (5 : Int32).toInt = 5 := rfl
    have kz6 : (6 : Int32).toInt = 6 := rfl
    have kz7 : (7 : Int32).toInt = 7 := rfl
    have kz8 : (8 : Int32).toInt = 8 := rfl
    have kz9 : (9 : Int32).toInt = 9 := rfl
    have kzm1 : ((-1) : Int32).toInt = (-1) := rfl
    have kzm2 : ((-2) : Int32).toInt = (-2) := rfl
    have kzm3 : ((-3) : Int32).toInt = (-3) := rfl
    refine qm_Rp.go1 1 (c' := (4, [.ref 51, .int 0, .int q], [.ref 51, .int q], h)) rfl (fun g hg => ?_)
    refine hp_geti (v := n) rfl (hH.1 51 (14, 13) rfl) rfl q_n ?_
    refine qm_Rp.go 0 (c' := (7, [.ref 51, .int 0, .int q], [.int n, .int q], h)) rfl ?_
    refine hp_cge (ix := q.toInt) (iy := n.toInt) rfl rfl rfl (fun z1 => ?_) (fun z1 => ?_)
    · refine qm_Rp.go 0 (c' := (73, [.ref 51, .int 0, .int q], [], h)) rfl ?_
      refine qm_Rp.rt (v := none) (h' := h) rfl ?_
      rw [show n.toInt.toNat - q.toInt.toNat = 0 by omega] at hF
      have hF : q.toInt.toNat = jNx K 0 := hF
      exact k h.2.1 (fun _ _ _ => rfl) (by rw [jTk_0 (by rw [← hF, k_n]; omega)]; exact hz)
    · refine qm_Rp.go 1 (c' := (11, [.ref 51, .int 0, .int q], [.ref 51], h)) rfl ?_
      refine hp_getr rfl (hH.1 51 (14, 13) rfl) rfl (hH.2 51 1 (some 52) rfl) ?_
      refine qm_Rp.go 1 (c' := (15, [.ref 51, .int 0, .int q], [.int q, .ref 52], h)) rfl ?_
      refine hp_aal rfl (hH.1 52 (4, 40) rfl) (row_ref hH (by omega)) (fun ia_1 ib_1 => ?_)
      refine qm_Rp.go 1 (c' := (17, [.ref 51, .int 0, .int q], [.int 4, .ref (53 + q.toInt.toNat)], h)) rfl ?_
      obtain ⟨v3, q_v3⟩ : ∃ v_, h.2.1 (53 + q.toInt.toNat) 4 = v_ := ⟨_, rfl⟩
      refine hp_ial (v := v3) rfl (row_sh hH (by omega)) q_v3 (fun ia_3 ib_3 => ?_)
      refine qm_Rp.go 0 (c' := (18, [.ref 51, .int 0, .int q], [.int v3], h)) rfl ?_
      have r_q := hz.2.2 q.toInt.toNat (by rw [k_n]; omega)
      have j_q := hI.2.2.2 q.toInt.toNat (by rw [k_n]; omega)
      have f1 : (K 172 q.toInt.toNat).toInt = 0 → v3.toInt = -1 := fun z => by rw [← q_v3]; exact (r_q.2.2.2.1 z).1
      have f2 : (K 172 q.toInt.toNat).toInt ≠ 0 → 0 ≤ v3.toInt := fun z => by rw [← q_v3, (r_q.2.2.2.2.1 z).1]; exact (j_q.2.2.2.1 z).1
      refine qm_Rp.go 1 (c' := (19, [.ref 51, .int 0, .int q], [.int (-1), .int v3], h)) rfl ?_
      refine hp_cne (ix := v3.toInt) (iy := (-1)) rfl rfl rfl (fun z5 => ?_) (fun z5 => ?_)
      · refine qm_Rp.go 1 (c' := (70, [.ref 51, .int 0, .int (q + 1)], [], h)) rfl ?_
        obtain ⟨v6, q_v6, e_v6⟩ := hk_add (x := q) (y := 1) (a := q.toInt) (b := 1) rfl rfl (by omega) (by omega)
        rw [q_v6]
        refine qm_Rp.go 1 (c' := (2, [.ref 51, .int 0, .int v6], [], h)) rfl ?_
        have hF2 : jFs (jFr K 0) (n.toInt.toNat - v6.toInt.toNat) v6.toInt.toNat = jNx K 0 := by rw [← hF, show n.toInt.toNat - q.toInt.toNat = (n.toInt.toNat - v6.toInt.toNat) + 1 by omega, jFs_0 (fun z => by have := f1 z.1; omega), show q.toInt.toNat + 1 = v6.toInt.toNat by omega]
        exact ih g hg v6 (by omega) hF2
      · refine qm_Rp.go 3 (c' := (25, [.ref 51, .int 0, .int q], [.ref 51, .int 0, .ref 51], h)) rfl ?_
        refine hp_getr rfl (hH.1 51 (14, 13) rfl) rfl (hH.2 51 1 (some 52) rfl) ?_
        refine qm_Rp.go 1 (c' := (29, [.ref 51, .int 0, .int q], [.int q, .ref 52, .int 0, .ref 51], h)) rfl ?_
        refine hp_aal rfl (hH.1 52 (4, 40) rfl) (row_ref hH (by omega)) (fun ia_6 ib_6 => ?_)
        refine qm_Rp.go 1 (c' := (31, [.ref 51, .int 0, .int q], [.int 1, .ref (53 + q.toInt.toNat), .int 0, .ref 51], h)) rfl ?_
        obtain ⟨v8, q_v8⟩ : ∃ v_, h.2.1 (53 + q.toInt.toNat) 1 = v_ := ⟨_, rfl⟩
        refine hp_ial (v := v8) rfl (row_sh hH (by omega)) q_v8 (fun ia_8 ib_8 => ?_)
        refine qm_Rp.go 0 (c' := (32, [.ref 51, .int 0, .int q], [.int v8, .int 0, .ref 51], h)) rfl ?_
        have k_v8 : K 170 q.toInt.toNat = v8 := r_q.1.1.symm.trans q_v8
        refine hp_inv (o := 51) (r := []) (as := [.ref 51, .int 0, .int v8]) rfl rfl (hH.1 51 (14, 13) rfl) rfl rfl rfl (px_cown0 (h := h) hH hz hI q_so q_ho k_so k_ho (y := v8) (by rw [k_n]; exact ⟨io.1, io.2.1, io.2.2.2⟩) (fun r10 hr => ?_))
        rcases hr with ⟨hr, hy⟩ | ⟨hr, hy⟩
        · obtain rfl : r10 = 1 := hk_eqi.mpr (hr.trans rfl)
          have y11 := hy
          refine qm_Rp.go 2 (c' := (39, [.ref 51, .int 0, .int q], [.ref 51], h)) rfl ?_
          refine hp_getr rfl (hH.1 51 (14, 13) rfl) rfl (hH.2 51 1 (some 52) rfl) ?_
          refine qm_Rp.go 1 (c' := (43, [.ref 51, .int 0, .int q], [.int q, .ref 52], h)) rfl ?_
          refine hp_aal rfl (hH.1 52 (4, 40) rfl) (row_ref hH (by omega)) (fun ia_11 ib_11 => ?_)
          refine qm_Rp.go 2 (c' := (46, [.ref 51, .int 0, .int q], [.int 0, .int 4, .ref (53 + q.toInt.toNat)], h)) rfl ?_
          refine hp_ias rfl (row_sh hH (by omega)) (fun ia_12 ib_12 => ?_)
          refine qm_Rp.go 1 (c' := (48, [.ref 51, .int 0, .int q], [.ref 51], (h.1, qm_up h.2.1 (53 + q.toInt.toNat) 4 0, h.2.2.1, h.2.2.2))) rfl ?_
          refine hp_getr rfl (hH.1 51 (14, 13) rfl) rfl (hH.2 51 1 (some 52) rfl) ?_
          refine qm_Rp.go 1 (c' := (52, [.ref 51, .int 0, .int q], [.int q, .ref 52], (h.1, qm_up h.2.1 (53 + q.toInt.toNat) 4 0, h.2.2.1, h.2.2.2))) rfl ?_
          refine hp_aal rfl (hH.1 52 (4, 40) rfl) (row_ref hH (by omega)) (fun ia_13 ib_13 => ?_)
          refine qm_Rp.go 2 (c' := (55, [.ref 51, .int 0, .int q], [.ref 51, .int 5, .ref (53 + q.toInt.toNat)], (h.1, qm_up h.2.1 (53 + q.toInt.toNat) 4 0, h.2.2.1, h.2.2.2))) rfl ?_
          refine hp_geti (v := tk) rfl (hH.1 51 (14, 13) rfl) rfl (show (qm_up h.2.1 (53 + q.toInt.toNat) 4 0) 51 8 = _ from ((hk_ot (row_ne (by omega) (by decide)).2).trans q_tk)) ?_
          refine qm_Rp.go 0 (c' := (58, [.ref 51, .int 0, .int q], [.int tk, .int 5, .ref (53 + q.toInt.toNat)], (h.1, qm_up h.2.1 (53 + q.toInt.toNat) 4 0, h.2.2.1, h.2.2.2))) rfl ?_
          refine hp_ias rfl (row_sh hH (by omega)) (fun ia_14 ib_14 => ?_)
          refine qm_Rp.go 1 (c' := (60, [.ref 51, .int 0, .int q], [.ref 51], (h.1, qm_up (qm_up h.2.1 (53 + q.toInt.toNat) 4 0) (53 + q.toInt.toNat) 5 tk, h.2.2.1, h.2.2.2))) rfl ?_
          refine hp_getr rfl (hH.1 51 (14, 13) rfl) rfl (hH.2 51 4 (some 94) rfl) ?_
          refine qm_Rp.go 2 (c' := (65, [.ref 51, .int 0, .int q], [.int q, .int 0, .ref 94], (h.1, qm_up (qm_up h.2.1 (53 + q.toInt.toNat) 4 0) (53 + q.toInt.toNat) 5 tk, h.2.2.1, h.2.2.2))) rfl ?_
          refine hp_ias rfl (hH.1 94 (0, 2) rfl) (fun ia_15 ib_15 => ?_)
          refine qm_Rp.go 0 (c' := (66, [.ref 51, .int 0, .int q], [], (h.1, qm_up (qm_up (qm_up h.2.1 (53 + q.toInt.toNat) 4 0) (53 + q.toInt.toNat) 5 tk) 94 0 q, h.2.2.1, h.2.2.2))) rfl ?_
          refine qm_Rp.rt (v := none) (h' := (h.1, qm_up (qm_up (qm_up h.2.1 (53 + q.toInt.toNat) 4 0) (53 + q.toInt.toNat) 5 tk) 94 0 q, h.2.2.1, h.2.2.2)) rfl ?_
          have h0 : (K 172 q.toInt.toNat).toInt = 0 := Classical.byContradiction (fun z => by have := f2 z; omega)
          have hnx : jNx K 0 = q.toInt.toNat := by rw [← hF, show n.toInt.toNat - q.toInt.toNat = (n.toInt.toNat - q.toInt.toNat - 1) + 1 by omega, jFs_1 ⟨h0, by rw [k_v8]; exact y11⟩]
          refine k (qm_up (qm_up (qm_up h.2.1 (53 + q.toInt.toNat) 4 0) (53 + q.toInt.toNat) 5 tk) 94 0 q) (fun o ho i => ((hk_on (by omega)).trans ((hk_on (by omega)).trans ((hk_on (by omega)).trans rfl)))) ?_
          rw [jTk_1 (by rw [hnx, k_n]; omega), hnx]
          exact zJ_seek (by decide) hz hI (by rw [k_n]; omega) h0 (by rw [k_hv]; omega) (i32_n (by omega)) (by decide) k_tk
        · obtain rfl : r10 = 0 := hk_eqi.mpr (hr.trans rfl)
          have y17 := hy
          refine qm_Rp.go 2 (c' := (70, [.ref 51, .int 0, .int (q + 1)], [], h)) rfl ?_
          obtain ⟨v18, q_v18, e_v18⟩ := hk_add (x := q) (y := 1) (a := q.toInt) (b := 1) rfl rfl (by omega) (by omega)
          rw [q_v18]
          refine qm_Rp.go 1 (c' := (2, [.ref 51, .int 0, .int v18], [], h)) rfl ?_
          have hF2 : jFs (jFr K 0) (n.toInt.toNat - v18.toInt.toNat) v18.toInt.toNat = jNx K 0 := by rw [← hF, show n.toInt.toNat - q.toInt.toNat = (n.toInt.toNat - v18.toInt.toNat) + 1 by omega, jFs_0 (fun z => y17 (by have z := z.2; rw [k_v8] at z; exact z)), show q.toInt.toNat + 1 = v18.toInt.toNat by omega]
          exact ih g hg v18 (by omega) hF2
theorem px_cseek0 {X : Option (Nat × (Nat → Int32))} {Z : Option Value → qm_H → Prop} {h : qm_H} {fu : Nat} (hH : hk_H h) {K : Nat → Nat → Int32} (hz : zJ K h.2.1) (hI : jI K) {n tk hv so ho : Int32} (q_n : h.2.1 51 2 = n) (k_n : K 118 75 = n) (b_n : 0 ≤ n.toInt ∧ n.toInt ≤ 40) (q_tk : h.2.1 51 8 = tk) (k_tk : K 118 85 = tk) (k_hv : K 178 0 = hv) (b_hv : hv.toInt = -1) (q_so : h.2.1 93 1 = so) (q_ho : h.2.1 94 1 = ho) (k_so : K 177 1 = so) (k_ho : K 178 1 = ho) (io : (ho.toInt = -1 ∨ (0 ≤ ho.toInt ∧ ho.toInt < n.toInt)) ∧ (0 ≤ n.toInt ∧ n.toInt ≤ 40) ∧ (0 ≤ (K 179 1).toInt ∧ (K 179 1).toInt ≤ 1) ∧ (-1 ≤ so.toInt ∧ so.toInt ≤ 4)) (k : ∀ I : Nat → Nat → Int32, (∀ o, (o < 53 ∨ 97 < o) → ∀ i, I o i = h.2.1 o i) → zJ (jTk K 0) I → Z none (h.1, I, h.2.2.1, h.2.2.2)) : qm_Rp fu X cd_206 (qm_ent 3 [.ref 51, .int 0] h) Z := by
  refine qm_Rp.go 2 (c' := (2, [.ref 51, .int 0, .int 0], [], h)) rfl ?_
  exact px_cskl0 hH hz hI q_n k_n b_n q_tk k_tk k_hv b_hv q_so q_ho k_so k_ho io k _ 0 ⟨by decide, b_n.1⟩ (by unfold jNx; rw [k_n]; rfl)
theorem px_cb150 {X : Option (Nat × (Nat → Int32))} {Z : Option Value → qm_H → Prop} {h : qm_H} {fu : Nat} (hH : hk_H h) {K : Nat → Nat → Int32} (hz : zJ K h.2.1) (hI : jI K) (k : ∀ (I : Nat → Nat → Int32) (r : Int32), (∀ o, (o < 53 ∨ 97 < o) → ∀ i, I o i = h.2.1 o i) → jBr K I 0 r → Z (some (.int r)) (h.1, I, h.2.2.1, h.2.2.2)) : qm_Rp fu X cd_205 (15, [.ref 51, .int 0, .float 0], [], h) Z := by
  have kz0 : (0 : Int32).toInt = 0 := rfl
  have kz1 : (1 : Int32).toInt = 1 := rfl
  have kz2 : (2 : Int32).toInt = 2 := rfl
  have kz3 : (3 : Int32).toInt = 3 := rfl
  have kz4 : (4 : Int32).toInt = 4 := rfl
  have kz5 : (5 : Int32).toInt = 5 := rfl
  have kz6 : (6 : Int32).toInt = 6 := rfl
  have kz7 : (7 : Int32).toInt = 7 := rfl
  have kz8 : (8 : Int32).toInt = 8 := rfl
  have kz9 : (9 : Int32).toInt = 9 := rfl
  have kzm1 : ((-1) : Int32).toInt = (-1) := rfl
  have kzm2 : ((-2) : Int32).toInt = (-2) := rfl
  have kzm3 : ((-3) : Int32).toInt = (-3) := rfl
  have zc := hz.2.1 0 (by decide)
  have ic := jI_has hI (d := 0) (by decide)
  have zo := hz.2.1 1 (by decide)
  have io := jI_has hI (d := 1) (by decide)
  obtain ⟨sv, q_sv⟩ : ∃ v_, h.2.1 93 0 = v_ := ⟨_, rfl⟩
  have k_sv : K 177 0 = sv := zc.1.symm.trans q_sv
  obtain ⟨hv, q_hv⟩ : ∃ v_, h.2.1 94 0 = v_ := ⟨_, rfl⟩
  have k_hv : K 178 0 = hv := zc.2.1.symm.trans q_hv
  obtain ⟨lv, q_lv⟩ : ∃ v_, h.2.1 95 0 = v_ := ⟨_, rfl⟩
  have k_lv : K 179 0 = lv := zc.2.2.1.symm.trans q_lv
  obtain ⟨so, q_so⟩ : ∃ v_, h.2.1 93 1 = v_ := ⟨_, rfl⟩
  have k_so : K 177 1 = so := zo.1.symm.trans q_so
  obtain ⟨ho, q_ho⟩ : ∃ v_, h.2.1 94 1 = v_ := ⟨_, rfl⟩
  have k_ho : K 178 1 = ho := zo.2.1.symm.trans q_ho
  obtain ⟨n, q_n⟩ : ∃ v_, h.2.1 51 2 = v_ := ⟨_, rfl⟩
  have k_n : K 118 75 = n := hz.1.1.symm.trans q_n
  obtain ⟨tk, q_tk⟩ : ∃ v_, h.2.1 51 8 = v_ := ⟨_, rfl⟩
  have k_tk : K 118 85 = tk := hz.1.2.1.symm.trans q_tk
  obtain ⟨wf, q_wf⟩ : ∃ v_, h.2.1 51 9 = v_ := ⟨_, rfl⟩
  have k_wf : K 118 91 = wf := hz.1.2.2.1.symm.trans q_wf
  obtain ⟨wt, q_wt⟩ : ∃ v_, h.2.1 51 10 = v_ := ⟨_, rfl⟩
  have k_wt : K 118 92 = wt := hz.1.2.2.2.1.symm.trans q_wt
  rw [k_n, k_sv, k_hv, k_lv] at ic
  rw [k_n, k_so, k_ho] at io
  have hj : (K 118 75).toInt ≤ 40 := by rw [k_n]; exact ic.2.1.2
  refine qm_Rp.go 1 (c' := (16, [.ref 51, .int 0, .float 0], [.ref 51], h)) rfl ?_
  refine hp_getr rfl (hH.1 51 (14, 13) rfl) rfl (hH.2 51 4 (some 94) rfl) ?_
  refine qm_Rp.go 1 (c' := (20, [.ref 51, .int 0, .float 0], [.int 0, .ref 94], h)) rfl ?_
  refine hp_ial (v := hv) rfl (hH.1 94 (0, 2) rfl) q_hv (fun ia_0 ib_0 => ?_)
  refine qm_Rp.go 1 (c' := (22, [.ref 51, .int 0, .float 0], [.int (-1), .int hv], h)) rfl ?_
  refine hp_cne (ix := hv.toInt) (iy := (-1)) rfl rfl rfl (fun z2 => ?_) (fun z2 => ?_)
  · refine qm_Rp.go 1 (c' := (28, [.ref 51, .int 0, .float 0], [.ref 51], h)) rfl ?_
    refine hp_getr rfl (hH.1 51 (14, 13) rfl) rfl (hH.2 51 1 (some 52) rfl) ?_
    refine qm_Rp.go 1 (c' := (32, [.ref 51, .int 0, .float 0], [.ref 51, .ref 52], h)) rfl ?_
    refine hp_getr rfl (hH.1 51 (14, 13) rfl) rfl (hH.2 51 4 (some 94) rfl) ?_
    refine qm_Rp.go 1 (c' := (36, [.ref 51, .int 0, .float 0], [.int 0, .ref 94, .ref 52], h)) rfl ?_
    refine hp_ial (v := hv) rfl (hH.1 94 (0, 2) rfl) q_hv (fun ia_2 ib_2 => ?_)
    refine qm_Rp.go 0 (c' := (37, [.ref 51, .int 0, .float 0], [.int hv, .ref 52], h)) rfl ?_
    refine hp_aal rfl (hH.1 52 (4, 40) rfl) (row_ref hH (by omega)) (fun ia_3 ib_3 => ?_)
    refine qm_Rp.go 1 (c' := (39, [.ref 51, .int 0, .float 0], [.int 1, .ref (53 + hv.toInt.toNat)], h)) rfl ?_
    obtain ⟨v5, q_v5⟩ : ∃ v_, h.2.1 (53 + hv.toInt.toNat) 1 = v_ := ⟨_, rfl⟩
    refine hp_ial (v := v5) rfl (row_sh hH (by omega)) q_v5 (fun ia_5 ib_5 => ?_)
    refine qm_Rp.go 0 (c' := (40, [.ref 51, .int 0, .float 0], [.int v5], h)) rfl ?_
    have k_v5 : K 170 hv.toInt.toNat = v5 := ((hz.2.2 hv.toInt.toNat (by rw [k_n]; omega)).1.1).symm.trans q_v5
    have b_v5 := (hI.2.2.2 hv.toInt.toNat (by rw [k_n]; omega)).2.1
    rw [k_v5] at b_v5
    refine qm_Rp.go 3 (c' := (43, [.ref 51, .int 0, .int v5], [.ref 51, .int v5], h)) rfl ?_
    refine hp_getr rfl (hH.1 51 (14, 13) rfl) rfl (hH.2 51 3 (some 93) rfl) ?_
    refine qm_Rp.go 1 (c' := (47, [.ref 51, .int 0, .int v5], [.int 0, .ref 93, .int v5], h)) rfl ?_
    refine hp_ial (v := sv) rfl (hH.1 93 (0, 2) rfl) q_sv (fun ia_6 ib_6 => ?_)
    refine qm_Rp.go 0 (c' := (48, [.ref 51, .int 0, .int v5], [.int sv, .int v5], h)) rfl ?_
    refine hp_ceq (ix := v5.toInt) (iy := sv.toInt) rfl rfl rfl (fun z8 => ?_) (fun z8 => ?_)
    · refine qm_Rp.go 1 (c' := (61, [.ref 51, .int 0, .int v5], [.ref 51], h)) rfl ?_
      refine hp_inv (o := 51) (r := []) (as := [.ref 51]) rfl rfl (hH.1 51 (14, 13) rfl) rfl rfl rfl ?_
      refine qm_Rp.go 1 (c' := (1, [.ref 51], [.ref 51], h)) rfl ?_
      refine hp_geti (v := tk) rfl (hH.1 51 (14, 13) rfl) rfl q_tk ?_
      refine qm_Rp.go 1 (c' := (5, [.ref 51], [.ref 51, .int tk], h)) rfl ?_
      refine hp_geti (v := wf) rfl (hH.1 51 (14, 13) rfl) rfl q_wf ?_
      refine qm_Rp.go 0 (c' := (8, [.ref 51], [.int wf, .int tk], h)) rfl ?_
      refine hp_clt (ix := tk.toInt) (iy := wf.toInt) rfl rfl rfl (fun z9 => ?_) (fun z9 => ?_)
      · refine qm_Rp.go 1 (c' := (27, [.ref 51], [.int 0], h)) rfl ?_
        refine qm_Rp.rt (v := (some (.int 0))) (h' := h) rfl ?_
        refine qm_Rp.go 2 (c' := (68, [.ref 51, .int 0, .int v5], [.ref 51], h)) rfl ?_
        refine hp_getr rfl (hH.1 51 (14, 13) rfl) rfl (hH.2 51 5 (some 95) rfl) ?_
        refine qm_Rp.go 2 (c' := (73, [.ref 51, .int 0, .int v5], [.int 0, .ref 95, .int 0, .ref 95], h)) rfl ?_
        refine hp_ial (v := lv) rfl (hH.1 95 (0, 2) rfl) q_lv (fun ia_9 ib_9 => ?_)
        refine qm_Rp.go 2 (c' := (76, [.ref 51, .int 0, .int v5], [.int (lv + 1), .int 0, .ref 95], h)) rfl ?_
        obtain ⟨v11, q_v11, e_v11⟩ := hk_add (x := lv) (y := 1) (a := lv.toInt) (b := 1) rfl rfl (by omega) (by omega)
        rw [q_v11]
        refine hp_ias rfl (hH.1 95 (0, 2) rfl) (fun ia_11 ib_11 => ?_)
        refine qm_Rp.go 1 (c' := (78, [.ref 51, .int 0, .int v5], [.ref 51], (h.1, qm_up h.2.1 95 0 v11, h.2.2.1, h.2.2.2))) rfl ?_
        refine hp_getr rfl (hH.1 51 (14, 13) rfl) rfl (hH.2 51 5 (some 95) rfl) ?_
        refine qm_Rp.go 1 (c' := (82, [.ref 51, .int 0, .int v5], [.int 0, .ref 95], (h.1, qm_up h.2.1 95 0 v11, h.2.2.1, h.2.2.2))) rfl ?_
        refine hp_ial (v := v11) rfl (hH.1 95 (0, 2) rfl) (show (qm_up h.2.1 95 0 v11) 95 0 = _ from (hk_same)) (fun ia_12 ib_12 => ?_)
        refine qm_Rp.go 1 (c' := (84, [.ref 51, .int 0, .int v5], [.int 2, .int v11], (h.1, qm_up h.2.1 95 0 v11, h.2.2.1, h.2.2.2))) rfl ?_
        refine hp_clt (ix := v11.toInt) (iy := 2) rfl rfl rfl (fun z14 => ?_) (fun z14 => ?_)
        · refine qm_Rp.go 1 (c' := (92, [.ref 51, .int 0, .int v5], [.int 0], (h.1, qm_up h.2.1 95 0 v11, h.2.2.1, h.2.2.2))) rfl ?_
          refine qm_Rp.rt (v := (some (.int 0))) (h' := (h.1, qm_up h.2.1 95 0 v11, h.2.2.1, h.2.2.2)) rfl ?_
          have e2 : jLi K 0 = qm_up K 179 0 v11 := by unfold jLi; rw [k_lv, q_v11]
          have z2 : zJ (jLi K 0) (qm_up h.2.1 95 0 v11) := by rw [e2]; exact zJ_cr (by decide) hz hj
          exact k (qm_up h.2.1 95 0 v11) 0 (fun o ho i => ((hk_on (by omega)).trans rfl)) (Or.inl ⟨rfl, jLi K 0, fun s A => jGo_l (by rw [k_hv]; omega) (by rw [k_sv, k_hv, k_v5]; exact hk_eqi.mpr (by omega)) (fun z => by unfold jWn at z; rw [k_wf, k_tk, k_wt] at z; omega) (by rw [k_lv, q_v11]; omega), z2⟩)
        · refine qm_Rp.go 2 (c' := (92, [.ref 51, .int 0, .int v5], [.int 1], (h.1, qm_up h.2.1 95 0 v11, h.2.2.1, h.2.2.2))) rfl ?_
          refine qm_Rp.rt (v := (some (.int 1))) (h' := (h.1, qm_up h.2.1 95 0 v11, h.2.2.1, h.2.2.2)) rfl ?_
          have e2 : jLi K 0 = qm_up K 179 0 v11 := by unfold jLi; rw [k_lv, q_v11]
          have z2 : zJ (jLi K 0) (qm_up h.2.1 95 0 v11) := by rw [e2]; exact zJ_cr (by decide) hz hj
          exact k (qm_up h.2.1 95 0 v11) 1 (fun o ho i => ((hk_on (by omega)).trans rfl)) (Or.inr ⟨rfl, ⟨(by rw [k_hv]; omega), (by rw [k_sv, k_hv, k_v5]; exact hk_eqi.mpr (by omega)), (fun z => by unfold jWn at z; rw [k_wf, k_tk, k_wt] at z; omega), by rw [k_lv, q_v11]; omega⟩, z2⟩)
      · refine qm_Rp.go 1 (c' := (12, [.ref 51], [.ref 51], h)) rfl ?_
        refine hp_geti (v := tk) rfl (hH.1 51 (14, 13) rfl) rfl q_tk ?_
        refine qm_Rp.go 1 (c' := (16, [.ref 51], [.ref 51, .int tk], h)) rfl ?_
        refine hp_geti (v := wt) rfl (hH.1 51 (14, 13) rfl) rfl q_wt ?_
        refine qm_Rp.go 0 (c' := (19, [.ref 51], [.int wt, .int tk], h)) rfl ?_
        refine hp_cgt (ix := tk.toInt) (iy := wt.toInt) rfl rfl rfl (fun z15 => ?_) (fun z15 => ?_)
        · refine qm_Rp.go 1 (c' := (27, [.ref 51], [.int 0], h)) rfl ?_
          refine qm_Rp.rt (v := (some (.int 0))) (h' := h) rfl ?_
          refine qm_Rp.go 2 (c' := (68, [.ref 51, .int 0, .int v5], [.ref 51], h)) rfl ?_
          refine hp_getr rfl (hH.1 51 (14, 13) rfl) rfl (hH.2 51 5 (some 95) rfl) ?_
          refine qm_Rp.go 2 (c' := (73, [.ref 51, .int 0, .int v5], [.int 0, .ref 95, .int 0, .ref 95], h)) rfl ?_
          refine hp_ial (v := lv) rfl (hH.1 95 (0, 2) rfl) q_lv (fun ia_15 ib_15 => ?_)
          refine qm_Rp.go 2 (c' := (76, [.ref 51, .int 0, .int v5], [.int (lv + 1), .int 0, .ref 95], h)) rfl ?_
          obtain ⟨v17, q_v17, e_v17⟩ := hk_add (x := lv) (y := 1) (a := lv.toInt) (b := 1) rfl rfl (by omega) (by omega)
          rw [q_v17]
          refine hp_ias rfl (hH.1 95 (0, 2) rfl) (fun ia_17 ib_17 => ?_)
          refine qm_Rp.go 1 (c' := (78, [.ref 51, .int 0, .int v5], [.ref 51], (h.1, qm_up h.2.1 95 0 v17, h.2.2.1, h.2.2.2))) rfl ?_
          refine hp_getr rfl (hH.1 51 (14, 13) rfl) rfl (hH.2 51 5 (some 95) rfl) ?_
          refine qm_Rp.go 1 (c' := (82, [.ref 51, .int 0, .int v5], [.int 0, .ref 95], (h.1, qm_up h.2.1 95 0 v17, h.2.2.1, h.2.2.2))) rfl ?_
          refine hp_ial (v := v17) rfl (hH.1 95 (0, 2) rfl) (show (qm_up h.2.1 95 0 v17) 95 0 = _ from (hk_same)) (fun ia_18 ib_18 => ?_)
          refine qm_Rp.go 1 (c' := (84, [.ref 51, .int 0, .int v5], [.int 2, .int v17], (h.1, qm_up h.2.1 95 0 v17, h.2.2.1, h.2.2.2))) rfl ?_
          refine hp_clt (ix := v17.toInt) (iy := 2) rfl rfl rfl (fun z20 => ?_) (fun z20 => ?_)
          · refine qm_Rp.go 1 (c' := (92, [.ref 51, .int 0, .int v5], [.int 0], (h.1, qm_up h.2.1 95 0 v17, h.2.2.1, h.2.2.2))) rfl ?_
            refine qm_Rp.rt (v := (some (.int 0))) (h' := (h.1, qm_up h.2.1 95 0 v17, h.2.2.1, h.2.2.2)) rfl ?_
            have e2 : jLi K 0 = qm_up K 179 0 v17 := by unfold jLi; rw [k_lv, q_v17]
            have z2 : zJ (jLi K 0) (qm_up h.2.1 95 0 v17) := by rw [e2]; exact zJ_cr (by decide) hz hj
            exact k (qm_up h.2.1 95 0 v17) 0 (fun o ho i => ((hk_on (by omega)).trans rfl)) (Or.inl ⟨rfl, jLi K 0, fun s A => jGo_l (by rw [k_hv]; omega) (by rw [k_sv, k_hv, k_v5]; exact hk_eqi.mpr (by omega)) (fun z => by unfold jWn at z; rw [k_wf, k_tk, k_wt] at z; omega) (by rw [k_lv, q_v17]; omega), z2⟩)
          · refine qm_Rp.go 2 (c' := (92, [.ref 51, .int 0, .int v5], [.int 1], (h.1, qm_up h.2.1 95 0 v17, h.2.2.1, h.2.2.2))) rfl ?_
            refine qm_Rp.rt (v := (some (.int 1))) (h' := (h.1, qm_up h.2.1 95 0 v17, h.2.2.1, h.2.2.2)) rfl ?_
            have e2 : jLi K 0 = qm_up K 179 0 v17 := by unfold jLi; rw [k_lv, q_v17]
            have z2 : zJ (jLi K 0) (qm_up h.2.1 95 0 v17) := by rw [e2]; exact zJ_cr (by decide) hz hj
            exact k (qm_up h.2.1 95 0 v17) 1 (fun o ho i => ((hk_on (by omega)).trans rfl)) (Or.inr ⟨rfl, ⟨(by rw [k_hv]; omega), (by rw [k_sv, k_hv, k_v5]; exact hk_eqi.mpr (by omega)), (fun z => by unfold jWn at z; rw [k_wf, k_tk, k_wt] at z; omega), by rw [k_lv, q_v17]; omega⟩, z2⟩)
        · refine qm_Rp.go 2 (c' := (27, [.ref 51], [.int 1], h)) rfl ?_
          refine qm_Rp.rt (v := (some (.int 1))) (h' := h) rfl ?_
          refine qm_Rp.go 2 (c' := (78, [.ref 51, .int 0, .int v5], [.ref 51], h)) rfl ?_
          refine hp_getr rfl (hH.1 51 (14, 13) rfl) rfl (hH.2 51 5 (some 95) rfl) ?_
          refine qm_Rp.go 1 (c' := (82, [.ref 51, .int 0, .int v5], [.int 0, .ref 95], h)) rfl ?_
          refine hp_ial (v := lv) rfl (hH.1 95 (0, 2) rfl) q_lv (fun ia_20 ib_20 => ?_)
          refine qm_Rp.go 1 (c' := (84, [.ref 51, .int 0, .int v5], [.int 2, .int lv], h)) rfl ?_
          refine hp_clt (ix := lv.toInt) (iy := 2) rfl rfl rfl (fun z22 => ?_) (fun z22 => by exfalso; omega)
          refine qm_Rp.go 1 (c' := (92, [.ref 51, .int 0, .int v5], [.int 0], h)) rfl ?_
          refine qm_Rp.rt (v := (some (.int 0))) (h' := h) rfl ?_
          exact k h.2.1 0 (fun _ _ _ => rfl) (Or.inl ⟨rfl, K, fun s A => jGo_w (by rw [k_hv]; omega) (by rw [k_sv, k_hv, k_v5]; exact hk_eqi.mpr (by omega)) (by unfold jWn; rw [k_wf, k_tk, k_wt]; omega), hz⟩)
    · refine qm_Rp.go 3 (c' := (54, [.ref 51, .int 0, .int v5], [.int v5, .int 0, .ref 51], h)) rfl ?_
      refine hp_inv (o := 51) (r := []) (as := [.ref 51, .int 0, .int v5]) rfl rfl (hH.1 51 (14, 13) rfl) rfl rfl rfl ?_
      refine qm_Rp.go 0 (c' := (0, [.ref 51, .int 0, .int v5, .float 0], [], h)) rfl ?_
      refine qm_Rp.go 1 (c' := (1, [.ref 51, .int 0, .int v5, .float 0], [.ref 51], h)) rfl ?_
      refine hp_getr rfl (hH.1 51 (14, 13) rfl) rfl (hH.2 51 3 (some 93) rfl) ?_
      refine qm_Rp.go 1 (c' := (5, [.ref 51, .int 0, .int v5, .float 0], [.int 0, .ref 93], h)) rfl ?_
      refine hp_ial (v := sv) rfl (hH.1 93 (0, 2) rfl) q_sv (fun ia_22 ib_22 => ?_)
      refine qm_Rp.go 1 (c' := (7, [.ref 51, .int 0, .int v5, .float 0], [.int v5, .int sv], h)) rfl ?_
      refine hp_cge (ix := sv.toInt) (iy := v5.toInt) rfl rfl rfl (fun z24 => ?_) (fun z24 => ?_)
      · refine qm_Rp.go 1 (c' := (22, [.ref 51, .int 0, .int v5, .float 0], [.ref 51], h)) rfl ?_
        refine hp_getr rfl (hH.1 51 (14, 13) rfl) rfl (hH.2 51 3 (some 93) rfl) ?_
        refine qm_Rp.go 1 (c' := (26, [.ref 51, .int 0, .int v5, .float 0], [.int 0, .ref 93], h)) rfl ?_
        refine hp_ial (v := sv) rfl (hH.1 93 (0, 2) rfl) q_sv (fun ia_24 ib_24 => ?_)
        refine qm_Rp.go 2 (c' := (29, [.ref 51, .int 0, .int v5, .float 0], [.int (sv - 1)], h)) rfl ?_
        obtain ⟨v26, q_v26, e_v26⟩ := hk_sub (x := sv) (y := 1) (a := sv.toInt) (b := 1) rfl rfl (by omega) (by omega)
        rw [q_v26]
        refine qm_Rp.go 1 (c' := (30, [.ref 51, .int 0, .int v5, .int v26], [], h)) rfl ?_
        refine qm_Rp.go 1 (c' := (31, [.ref 51, .int 0, .int v5, .int v26], [.ref 51], h)) rfl ?_
        refine hp_getr rfl (hH.1 51 (14, 13) rfl) rfl (hH.2 51 3 (some 93) rfl) ?_
        refine qm_Rp.go 3 (c' := (37, [.ref 51, .int 0, .int v5, .int v26], [.int 1, .ref 93], h)) rfl ?_
        refine hp_ial (v := so) rfl (hH.1 93 (0, 2) rfl) q_so (fun ia_26 ib_26 => ?_)
        refine qm_Rp.go 1 (c' := (39, [.ref 51, .int 0, .int v5, .int v26], [.int v26, .int so], h)) rfl ?_
        refine hp_ceq (ix := so.toInt) (iy := v26.toInt) rfl rfl rfl (fun z28 => ?_) (fun z28 => ?_)
        · refine qm_Rp.go 0 (c' := (59, [.ref 51, .int 0, .int v5, .int v26], [], h)) rfl ?_
          refine qm_Rp.rt (v := none) (h' := h) rfl ?_
          refine qm_Rp.go 2 (c' := (78, [.ref 51, .int 0, .int v5], [.ref 51], h)) rfl ?_
          refine hp_getr rfl (hH.1 51 (14, 13) rfl) rfl (hH.2 51 5 (some 95) rfl) ?_
          refine qm_Rp.go 1 (c' := (82, [.ref 51, .int 0, .int v5], [.int 0, .ref 95], h)) rfl ?_
          refine hp_ial (v := lv) rfl (hH.1 95 (0, 2) rfl) q_lv (fun ia_28 ib_28 => ?_)
          refine qm_Rp.go 1 (c' := (84, [.ref 51, .int 0, .int v5], [.int 2, .int lv], h)) rfl ?_
          refine hp_clt (ix := lv.toInt) (iy := 2) rfl rfl rfl (fun z30 => ?_) (fun z30 => by exfalso; omega)
          refine qm_Rp.go 1 (c' := (92, [.ref 51, .int 0, .int v5], [.int 0], h)) rfl ?_
          refine qm_Rp.rt (v := (some (.int 0))) (h' := h) rfl ?_
          have hmv : jMv K 0 = v26 := by unfold jMv; rw [k_hv, k_v5, k_sv, okb_f (show ¬ sv.toInt < v5.toInt by omega)]; exact q_v26
          exact k h.2.1 0 (fun _ _ _ => rfl) (Or.inl ⟨rfl, K, fun s A => jGo_b (by rw [k_hv]; omega) (fun z => by rw [k_sv, k_hv, k_v5] at z; have := congrArg Int32.toInt z; omega) (by rw [hmv, show 1 - 0 = 1 from rfl, k_so]; exact hk_eqi.mpr (by omega)), hz⟩)
        · refine qm_Rp.go 1 (c' := (43, [.ref 51, .int 0, .int v5, .int v26], [.ref 51], h)) rfl ?_
          refine hp_getr rfl (hH.1 51 (14, 13) rfl) rfl (hH.2 51 3 (some 93) rfl) ?_
          refine qm_Rp.go 2 (c' := (48, [.ref 51, .int 0, .int v5, .int v26], [.int v26, .int 0, .ref 93], h)) rfl ?_
          refine hp_ias rfl (hH.1 93 (0, 2) rfl) (fun ia_30 ib_30 => ?_)
          refine qm_Rp.go 1 (c' := (50, [.ref 51, .int 0, .int v5, .int v26], [.ref 51], (h.1, qm_up h.2.1 93 0 v26, h.2.2.1, h.2.2.2))) rfl ?_
          refine hp_getr rfl (hH.1 51 (14, 13) rfl) rfl (hH.2 51 6 (some 96) rfl) ?_
          refine qm_Rp.go 2 (c' := (55, [.ref 51, .int 0, .int v5, .int v26], [.int 0, .ref 96, .int 0, .ref 96], (h.1, qm_up h.2.1 93 0 v26, h.2.2.1, h.2.2.2))) rfl ?_
          obtain ⟨v32, q_v32⟩ : ∃ v_, h.2.1 96 0 = v_ := ⟨_, rfl⟩
          refine hp_ial (v := v32) rfl (hH.1 96 (0, 2) rfl) (show (qm_up h.2.1 93 0 v26) 96 0 = _ from ((hk_ot rfl).trans q_v32)) (fun ia_32 ib_32 => ?_)
          refine qm_Rp.go 2 (c' := (58, [.ref 51, .int 0, .int v5, .int v26], [.int (v32 + 1), .int 0, .ref 96], (h.1, qm_up h.2.1 93 0 v26, h.2.2.1, h.2.2.2))) rfl ?_
          obtain ⟨v34, q_v34⟩ : ∃ v_, (v32 + 1) = v_ := ⟨_, rfl⟩
          rw [q_v34]
          refine hp_ias rfl (hH.1 96 (0, 2) rfl) (fun ia_34 ib_34 => ?_)
          refine qm_Rp.go 0 (c' := (59, [.ref 51, .int 0, .int v5, .int v26], [], (h.1, qm_up (qm_up h.2.1 93 0 v26) 96 0 v34, h.2.2.1, h.2.2.2))) rfl ?_
          refine qm_Rp.rt (v := none) (h' := (h.1, qm_up (qm_up h.2.1 93 0 v26) 96 0 v34, h.2.2.1, h.2.2.2)) rfl ?_
          refine qm_Rp.go 2 (c' := (78, [.ref 51, .int 0, .int v5], [.ref 51], (h.1, qm_up (qm_up h.2.1 93 0 v26) 96 0 v34, h.2.2.1, h.2.2.2))) rfl ?_
          refine hp_getr rfl (hH.1 51 (14, 13) rfl) rfl (hH.2 51 5 (some 95) rfl) ?_
          refine qm_Rp.go 1 (c' := (82, [.ref 51, .int 0, .int v5], [.int 0, .ref 95], (h.1, qm_up (qm_up h.2.1 93 0 v26) 96 0 v34, h.2.2.1, h.2.2.2))) rfl ?_
          refine hp_ial (v := lv) rfl (hH.1 95 (0, 2) rfl) (show (qm_up (qm_up h.2.1 93 0 v26) 96 0 v34) 95 0 = _ from ((hk_ot rfl).trans ((hk_ot rfl).trans q_lv))) (fun ia_35 ib_35 => ?_)
          refine qm_Rp.go 1 (c' := (84, [.ref 51, .int 0, .int v5], [.int 2, .int lv], (h.1, qm_up (qm_up h.2.1 93 0 v26) 96 0 v34, h.2.2.1, h.2.2.2))) rfl ?_
          refine hp_clt (ix := lv.toInt) (iy := 2) rfl rfl rfl (fun z37 => ?_) (fun z37 => by exfalso; omega)
          refine qm_Rp.go 1 (c' := (92, [.ref 51, .int 0, .int v5], [.int 0], (h.1, qm_up (qm_up h.2.1 93 0 v26) 96 0 v34, h.2.2.1, h.2.2.2))) rfl ?_
          refine qm_Rp.rt (v := (some (.int 0))) (h' := (h.1, qm_up (qm_up h.2.1 93 0 v26) 96 0 v34, h.2.2.1, h.2.2.2)) rfl ?_
          have hmv : jMv K 0 = v26 := by unfold jMv; rw [k_hv, k_v5, k_sv, okb_f (show ¬ sv.toInt < v5.toInt by omega)]; exact q_v26
          have e2 : jMo K 0 = qm_up (qm_up K 177 0 v26) 180 0 v34 := by unfold jMo; rw [hmv, show K 180 0 = v32 from zc.2.2.2.1.symm.trans q_v32, q_v34]
          exact k (qm_up (qm_up h.2.1 93 0 v26) 96 0 v34) 0 (fun o ho i => ((hk_on (by omega)).trans ((hk_on (by omega)).trans rfl))) (Or.inl ⟨rfl, jMo K 0, fun s A => jGo_m (by rw [k_hv]; omega) (fun z => by rw [k_sv, k_hv, k_v5] at z; have := congrArg Int32.toInt z; omega) (by rw [hmv, show 1 - 0 = 1 from rfl, k_so]; exact fun z => by have := congrArg Int32.toInt z; omega), by rw [e2]; exact zJ_cr (by decide) (zJ_cr (by decide) hz hj) (by rw [up_o (show (118 : Nat) ≠ 177 by decide)]; exact hj)⟩)
      · refine qm_Rp.go 1 (c' := (11, [.ref 51, .int 0, .int v5, .float 0], [.ref 51], h)) rfl ?_
        refine hp_getr rfl (hH.1 51 (14, 13) rfl) rfl (hH.2 51 3 (some 93) rfl) ?_
        refine qm_Rp.go 1 (c' := (15, [.ref 51, .int 0, .int v5, .float 0], [.int 0, .ref 93], h)) rfl ?_
        refine hp_ial (v := sv) rfl (hH.1 93 (0, 2) rfl) q_sv (fun ia_37 ib_37 => ?_)
        refine qm_Rp.go 2 (c' := (18, [.ref 51, .int 0, .int v5, .float 0], [.int (sv + 1)], h)) rfl ?_
        obtain ⟨v39, q_v39, e_v39⟩ := hk_add (x := sv) (y := 1) (a := sv.toInt) (b := 1) rfl rfl (by omega) (by omega)
        rw [q_v39]
        refine qm_Rp.go 2 (c' := (30, [.ref 51, .int 0, .int v5, .int v39], [], h)) rfl ?_
        refine qm_Rp.go 1 (c' := (31, [.ref 51, .int 0, .int v5, .int v39], [.ref 51], h)) rfl ?_
        refine hp_getr rfl (hH.1 51 (14, 13) rfl) rfl (hH.2 51 3 (some 93) rfl) ?_
        refine qm_Rp.go 3 (c' := (37, [.ref 51, .int 0, .int v5, .int v39], [.int 1, .ref 93], h)) rfl ?_
        refine hp_ial (v := so) rfl (hH.1 93 (0, 2) rfl) q_so (fun ia_39 ib_39 => ?_)
        refine qm_Rp.go 1 (c' := (39, [.ref 51, .int 0, .int v5, .int v39], [.int v39, .int so], h)) rfl ?_
        refine hp_ceq (ix := so.toInt) (iy := v39.toInt) rfl rfl rfl (fun z41 => ?_) (fun z41 => ?_)
        · refine qm_Rp.go 0 (c' := (59, [.ref 51, .int 0, .int v5, .int v39], [], h)) rfl ?_
          refine qm_Rp.rt (v := none) (h' := h) rfl ?_
          refine qm_Rp.go 2 (c' := (78, [.ref 51, .int 0, .int v5], [.ref 51], h)) rfl ?_
          refine hp_getr rfl (hH.1 51 (14, 13) rfl) rfl (hH.2 51 5 (some 95) rfl) ?_
          refine qm_Rp.go 1 (c' := (82, [.ref 51, .int 0, .int v5], [.int 0, .ref 95], h)) rfl ?_
          refine hp_ial (v := lv) rfl (hH.1 95 (0, 2) rfl) q_lv (fun ia_41 ib_41 => ?_)
          refine qm_Rp.go 1 (c' := (84, [.ref 51, .int 0, .int v5], [.int 2, .int lv], h)) rfl ?_
          refine hp_clt (ix := lv.toInt) (iy := 2) rfl rfl rfl (fun z43 => ?_) (fun z43 => by exfalso; omega)
          refine qm_Rp.go 1 (c' := (92, [.ref 51, .int 0, .int v5], [.int 0], h)) rfl ?_
          refine qm_Rp.rt (v := (some (.int 0))) (h' := h) rfl ?_
          have hmv : jMv K 0 = v39 := by unfold jMv; rw [k_hv, k_v5, k_sv, okb_t (show sv.toInt < v5.toInt by omega)]; exact q_v39
          exact k h.2.1 0 (fun _ _ _ => rfl) (Or.inl ⟨rfl, K, fun s A => jGo_b (by rw [k_hv]; omega) (fun z => by rw [k_sv, k_hv, k_v5] at z; have := congrArg Int32.toInt z; omega) (by rw [hmv, show 1 - 0 = 1 from rfl, k_so]; exact hk_eqi.mpr (by omega)), hz⟩)
        · refine qm_Rp.go 1 (c' := (43, [.ref 51, .int 0, .int v5, .int v39], [.ref 51], h)) rfl ?_
          refine hp_getr rfl (hH.1 51 (14, 13) rfl) rfl (hH.2 51 3 (some 93) rfl) ?_
          refine qm_Rp.go 2 (c' := (48, [.ref 51, .int 0, .int v5, .int v39], [.int v39, .int 0, .ref 93], h)) rfl ?_
          refine hp_ias rfl (hH.1 93 (0, 2) rfl) (fun ia_43 ib_43 => ?_)
          refine qm_Rp.go 1 (c' := (50, [.ref 51, .int 0, .int v5, .int v39], [.ref 51], (h.1, qm_up h.2.1 93 0 v39, h.2.2.1, h.2.2.2))) rfl ?_
          refine hp_getr rfl (hH.1 51 (14, 13) rfl) rfl (hH.2 51 6 (some 96) rfl) ?_
          refine qm_Rp.go 2 (c' := (55, [.ref 51, .int 0, .int v5, .int v39], [.int 0, .ref 96, .int 0, .ref 96], (h.1, qm_up h.2.1 93 0 v39, h.2.2.1, h.2.2.2))) rfl ?_
          obtain ⟨v45, q_v45⟩ : ∃ v_, h.2.1 96 0 = v_ := ⟨_, rfl⟩
          refine hp_ial (v := v45) rfl (hH.1 96 (0, 2) rfl) (show (qm_up h.2.1 93 0 v39) 96 0 = _ from ((hk_ot rfl).trans q_v45)) (fun ia_45 ib_45 => ?_)
          refine qm_Rp.go 2 (c' := (58, [.ref 51, .int 0, .int v5, .int v39], [.int (v45 + 1), .int 0, .ref 96], (h.1, qm_up h.2.1 93 0 v39, h.2.2.1, h.2.2.2))) rfl ?_
          obtain ⟨v47, q_v47⟩ : ∃ v_, (v45 + 1) = v_ := ⟨_, rfl⟩
          rw [q_v47]
          refine hp_ias rfl (hH.1 96 (0, 2) rfl) (fun ia_47 ib_47 => ?_)
          refine qm_Rp.go 0 (c' := (59, [.ref 51, .int 0, .int v5, .int v39], [], (h.1, qm_up (qm_up h.2.1 93 0 v39) 96 0 v47, h.2.2.1, h.2.2.2))) rfl ?_
          refine qm_Rp.rt (v := none) (h' := (h.1, qm_up (qm_up h.2.1 93 0 v39) 96 0 v47, h.2.2.1, h.2.2.2)) rfl ?_
          refine qm_Rp.go 2 (c' := (78, [.ref 51, .int 0, .int v5], [.ref 51], (h.1, qm_up (qm_up h.2.1 93 0 v39) 96 0 v47, h.2.2.1, h.2.2.2))) rfl ?_
          refine hp_getr rfl (hH.1 51 (14, 13) rfl) rfl (hH.2 51 5 (some 95) rfl) ?_
          refine qm_Rp.go 1 (c' := (82, [.ref 51, .int 0, .int v5], [.int 0, .ref 95], (h.1, qm_up (qm_up h.2.1 93 0 v39) 96 0 v47, h.2.2.1, h.2.2.2))) rfl ?_
          refine hp_ial (v := lv) rfl (hH.1 95 (0, 2) rfl) (show (qm_up (qm_up h.2.1 93 0 v39) 96 0 v47) 95 0 = _ from ((hk_ot rfl).trans ((hk_ot rfl).trans q_lv))) (fun ia_48 ib_48 => ?_)
          refine qm_Rp.go 1 (c' := (84, [.ref 51, .int 0, .int v5], [.int 2, .int lv], (h.1, qm_up (qm_up h.2.1 93 0 v39) 96 0 v47, h.2.2.1, h.2.2.2))) rfl ?_
          refine hp_clt (ix := lv.toInt) (iy := 2) rfl rfl rfl (fun z50 => ?_) (fun z50 => by exfalso; omega)
          refine qm_Rp.go 1 (c' := (92, [.ref 51, .int 0, .int v5], [.int 0], (h.1, qm_up (qm_up h.2.1 93 0 v39) 96 0 v47, h.2.2.1, h.2.2.2))) rfl ?_
          refine qm_Rp.rt (v := (some (.int 0))) (h' := (h.1, qm_up (qm_up h.2.1 93 0 v39) 96 0 v47, h.2.2.1, h.2.2.2)) rfl ?_
          have hmv : jMv K 0 = v39 := by unfold jMv; rw [k_hv, k_v5, k_sv, okb_t (show sv.toInt < v5.toInt by omega)]; exact q_v39
          have e2 : jMo K 0 = qm_up (qm_up K 177 0 v39) 180 0 v47 := by unfold jMo; rw [hmv, show K 180 0 = v45 from zc.2.2.2.1.symm.trans q_v45, q_v47]
          exact k (qm_up (qm_up h.2.1 93 0 v39) 96 0 v47) 0 (fun o ho i => ((hk_on (by omega)).trans ((hk_on (by omega)).trans rfl))) (Or.inl ⟨rfl, jMo K 0, fun s A => jGo_m (by rw [k_hv]; omega) (fun z => by rw [k_sv, k_hv, k_v5] at z; have := congrArg Int32.toInt z; omega) (by rw [hmv, show 1 - 0 = 1 from rfl, k_so]; exact fun z => by have := congrArg Int32.toInt z; omega), by rw [e2]; exact zJ_cr (by decide) (zJ_cr (by decide) hz hj) (by rw [up_o (show (118 : Nat) ≠ 177 by decide)]; exact hj)⟩)
  · refine qm_Rp.go 1 (c' := (26, [.ref 51, .int 0, .float 0], [.int 0], h)) rfl ?_
    refine qm_Rp.rt (v := (some (.int 0))) (h' := h) rfl ?_
    exact k h.2.1 0 (fun _ _ _ => rfl) (Or.inl ⟨rfl, K, fun s A => jGo_n (by rw [k_hv]; omega), hz⟩)
theorem px_cbr0 {X : Option (Nat × (Nat → Int32))} {Z : Option Value → qm_H → Prop} {h : qm_H} {fu : Nat} (hH : hk_H h) {K : Nat → Nat → Int32} (hz : zJ K h.2.1) (hI : jI K) (k : ∀ (I : Nat → Nat → Int32) (r : Int32), (∀ o, (o < 53 ∨ 97 < o) → ∀ i, I o i = h.2.1 o i) → jBr (bif okb ((K 178 0).toInt = -1) then jTk K 0 else K) I 0 r → Z (some (.int r)) (h.1, I, h.2.2.1, h.2.2.2)) : qm_Rp fu X cd_205 (qm_ent 3 [.ref 51, .int 0] h) Z := by
  refine qm_Rp.go 0 (c' := (0, [.ref 51, .int 0, .float 0], [], h)) rfl ?_
  have kz0 : (0 : Int32).toInt = 0 := rfl
  have kz1 : (1 : Int32).toInt = 1 := rfl
  have kz2 : (2 : Int32).toInt = 2 := rfl
  have kz3 : (3 : Int32).toInt = 3 := rfl
  have kz4 : (4 : Int32).toInt = 4 := rfl
  have kz5 : (5 : Int32).toInt = 5 := rfl
  have kz6 : (6 : Int32).toInt = 6 := rfl
  have kz7 : (7 : Int32).toInt = 7 := rfl
  have kz8 : (8 : Int32).toInt = 8 := rfl
  have kz9 : (9 : Int32).toInt = 9 := rfl
  have kzm1 : ((-1) : Int32).toInt = (-1) := rfl
  have kzm2 : ((-2) : Int32).toInt = (-2) := rfl
  have kzm3 : ((-3) : Int32).toInt = (-3) := rfl
  have zc := hz.2.1 0 (by decide)
  have ic := jI_has hI (d := 0) (by decide)
  have zo := hz.2.1 1 (by decide)
  have io := jI_has hI (d := 1) (by decide)
  obtain ⟨sv, q_sv⟩ : ∃ v_, h.2.1 93 0 = v_ := ⟨_, rfl⟩
  have k_sv : K 177 0 = sv := zc.1.symm.trans q_sv
  obtain ⟨hv, q_hv⟩ : ∃ v_, h.2.1 94 0 = v_ := ⟨_, rfl⟩
  have k_hv : K 178 0 = hv := zc.2.1.symm.trans q_hv
  obtain ⟨lv, q_lv⟩ : ∃ v_, h.2.1 95 0 = v_ := ⟨_, rfl⟩
  have k_lv : K 179 0 = lv := zc.2.2.1.symm.trans q_lv
  obtain ⟨so, q_so⟩ : ∃ v_, h.2.1 93 1 = v_ := ⟨_, rfl⟩
  have k_so : K 177 1 = so := zo.1.symm.trans q_so
  obtain ⟨ho, q_ho⟩ : ∃ v_, h.2.1 94 1 = v_ := ⟨_, rfl⟩
  have k_ho : K 178 1 = ho := zo.2.1.symm.trans q_ho
  obtain ⟨n, q_n⟩ : ∃ v_, h.2.1 51 2 = v_ := ⟨_, rfl⟩
  have k_n : K 118 75 = n := hz.1.1.symm.trans q_n
  obtain ⟨tk, q_tk⟩ : ∃ v_, h.2.1 51 8 = v_ := ⟨_, rfl⟩
  have k_tk : K 118 85 = tk := hz.1.2.1.symm.trans q_tk
  obtain ⟨wf, q_wf⟩ : ∃ v_, h.2.1 51 9 = v_ := ⟨_, rfl⟩
  have k_wf : K 118 91 = wf := hz.1.2.2.1.symm.trans q_wf
  obtain ⟨wt, q_wt⟩ : ∃ v_, h.2.1 51 10 = v_ := ⟨_, rfl⟩
  have k_wt : K 118 92 = wt := hz.1.2.2.2.1.symm.trans q_wt
  rw [k_n, k_sv, k_hv, k_lv] at ic
  rw [k_n, k_so, k_ho] at io
  refine qm_Rp.go 1 (c' := (1, [.ref 51, .int 0, .float 0], [.ref 51], h)) rfl ?_
  refine hp_getr rfl (hH.1 51 (14, 13) rfl) rfl (hH.2 51 4 (some 94) rfl) ?_
  refine qm_Rp.go 1 (c' := (5, [.ref 51, .int 0, .float 0], [.int 0, .ref 94], h)) rfl ?_
  refine hp_ial (v := hv) rfl (hH.1 94 (0, 2) rfl) q_hv (fun ia_0 ib_0 => ?_)
  refine qm_Rp.go 1 (c' := (7, [.ref 51, .int 0, .float 0], [.int (-1), .int hv], h)) rfl ?_
  refine hp_cne (ix := hv.toInt) (iy := (-1)) rfl rfl rfl (fun z2 => ?_) (fun z2 => ?_)
  · refine qm_Rp.go 0 (c' := (15, [.ref 51, .int 0, .float 0], [], h)) rfl ?_
    exact px_cb150 hH hz hI (fun I r f b => k I r f (by rw [okb_f (show ¬ (K 178 0).toInt = -1 by rw [k_hv]; omega)]; exact b))
  · refine qm_Rp.go 2 (c' := (12, [.ref 51, .int 0, .float 0], [.int 0, .ref 51], h)) rfl ?_
    refine hp_inv (o := 51) (r := []) (as := [.ref 51, .int 0]) rfl rfl (hH.1 51 (14, 13) rfl) rfl rfl rfl (px_cseek0 (h := h) hH hz hI q_n k_n ic.2.1 q_tk k_tk k_hv (by omega) q_so q_ho k_so k_ho io (fun I1 f1 z1 => ?_))
    refine qm_Rp.go 0 (c' := (15, [.ref 51, .int 0, .float 0], [], (h.1, I1, h.2.2.1, h.2.2.2))) rfl ?_
    exact px_cb150 (h := (h.1, I1, h.2.2.1, h.2.2.2)) hH z1 (jTk_I (by decide) hI) (fun I r f b => k I r (fun o ho i => (f o ho i).trans (f1 o ho i)) (by rw [okb_t (show (K 178 0).toInt = -1 by rw [k_hv]; omega)]; exact b))
theorem px_cown1 {X : Option (Nat × (Nat → Int32))} {Z : Option Value → qm_H → Prop} {h : qm_H} {fu : Nat} (hH : hk_H h) {K : Nat → Nat → Int32} (hz : zJ K h.2.1) (hI : jI K) {so ho y : Int32} (q_so : h.2.1 93 0 = so) (q_ho : h.2.1 94 0 = ho) (k_so : K 177 0 = so) (k_ho : K 178 0 = ho) (io : (ho.toInt = -1 ∨ (0 ≤ ho.toInt ∧ ho.toInt < (K 118 75).toInt)) ∧ (0 ≤ (K 118 75).toInt ∧ (K 118 75).toInt ≤ 40) ∧ (-1 ≤ so.toInt ∧ so.toInt ≤ 4)) (k : ∀ r : Int32, (r.toInt = 1 ∧ jSd K 1 y.toInt ∨ r.toInt = 0 ∧ ¬ jSd K 1 y.toInt) → Z (some (.int r)) h) : qm_Rp fu X cd_207 (qm_ent 6 [.ref 51, .int 1, .int y] h) Z := by
  refine qm_Rp.go 0 (c' := (0, [.ref 51, .int 1, .int y, .float 0, .float 0, .float 0], [], h)) rfl ?_
  have kz0 : (0 : Int32).toInt = 0 := rfl
  have kz1 : (1 : Int32).toInt = 1 := rfl
  have kz2 : (2 : Int32).toInt = 2 := rfl
  have kz3 : (3 : Int32).toInt = 3 := rfl
  have kz4 : (4 : Int32).toInt = 4 := rfl
  have kz5 : (5 : Int32).toInt = 5 := rfl
  have kz6 : (6 : Int32).toInt = 6 := rfl
  have kz7 : (7 : Int32).toInt = 7 := rfl
  have kz8 : (8 : Int32).toInt = 8 := rfl
  have kz9 : (9 : Int32).toInt = 9 := rfl
  have kzm1 : ((-1) : Int32).toInt = (-1) := rfl
  have kzm2 : ((-2) : Int32).toInt = (-2) := rfl
  have kzm3 : ((-3) : Int32).toInt = (-3) := rfl
  refine qm_Rp.go 5 (c' := (5, [.ref 51, .int 1, .int y, .int 0, .float 0, .float 0], [.ref 51], h)) rfl ?_
  refine hp_getr rfl (hH.1 51 (14, 13) rfl) rfl (hH.2 51 3 (some 93) rfl) ?_
  refine qm_Rp.go 1 (c' := (9, [.ref 51, .int 1, .int y, .int 0, .float 0, .float 0], [.int 0, .ref 93], h)) rfl ?_
  refine hp_ial (v := so) rfl (hH.1 93 (0, 2) rfl) q_so (fun ia_0 ib_0 => ?_)
  refine qm_Rp.go 2 (c' := (13, [.ref 51, .int 1, .int y, .int 0, .int so, .float 0], [.ref 51], h)) rfl ?_
  refine hp_getr rfl (hH.1 51 (14, 13) rfl) rfl (hH.2 51 4 (some 94) rfl) ?_
  refine qm_Rp.go 1 (c' := (17, [.ref 51, .int 1, .int y, .int 0, .int so, .float 0], [.int 0, .ref 94], h)) rfl ?_
  refine hp_ial (v := ho) rfl (hH.1 94 (0, 2) rfl) q_ho (fun ia_1 ib_1 => ?_)
  refine qm_Rp.go 1 (c' := (19, [.ref 51, .int 1, .int y, .int 0, .int so, .float 0], [.int (-1), .int ho], h)) rfl ?_
  refine hp_cne (ix := ho.toInt) (iy := (-1)) rfl rfl rfl (fun z3 => ?_) (fun z3 => ?_)
  · refine qm_Rp.go 1 (c' := (28, [.ref 51, .int 1, .int y, .int 0, .int so, .float 0], [.ref 51], h)) rfl ?_
    refine hp_getr rfl (hH.1 51 (14, 13) rfl) rfl (hH.2 51 1 (some 52) rfl) ?_
    refine qm_Rp.go 1 (c' := (32, [.ref 51, .int 1, .int y, .int 0, .int so, .float 0], [.ref 51, .ref 52], h)) rfl ?_
    refine hp_getr rfl (hH.1 51 (14, 13) rfl) rfl (hH.2 51 4 (some 94) rfl) ?_
    refine qm_Rp.go 1 (c' := (36, [.ref 51, .int 1, .int y, .int 0, .int so, .float 0], [.int 0, .ref 94, .ref 52], h)) rfl ?_
    refine hp_ial (v := ho) rfl (hH.1 94 (0, 2) rfl) q_ho (fun ia_3 ib_3 => ?_)
    refine qm_Rp.go 0 (c' := (37, [.ref 51, .int 1, .int y, .int 0, .int so, .float 0], [.int ho, .ref 52], h)) rfl ?_
    refine hp_aal rfl (hH.1 52 (4, 40) rfl) (row_ref hH (by omega)) (fun ia_4 ib_4 => ?_)
    refine qm_Rp.go 1 (c' := (39, [.ref 51, .int 1, .int y, .int 0, .int so, .float 0], [.int 1, .ref (53 + ho.toInt.toNat)], h)) rfl ?_
    obtain ⟨v6, q_v6⟩ : ∃ v_, h.2.1 (53 + ho.toInt.toNat) 1 = v_ := ⟨_, rfl⟩
    refine hp_ial (v := v6) rfl (row_sh hH (by omega)) q_v6 (fun ia_6 ib_6 => ?_)
    refine qm_Rp.go 5 (c' := (69, [.ref 51, .int 1, .int y, .int 0, .int so, .int v6], [.int so, .int y], h)) rfl ?_
    refine hp_cle (ix := y.toInt) (iy := so.toInt) rfl rfl rfl (fun z8 => ?_) (fun z8 => ?_)
    · refine qm_Rp.go 1 (c' := (83, [.ref 51, .int 1, .int y, .int 0, .int so, .int v6], [.int 0], h)) rfl ?_
      refine qm_Rp.rt (v := (some (.int 0))) (h' := h) rfl ?_
      have k_v6 : K 170 ho.toInt.toNat = v6 := ((hz.2.2 ho.toInt.toNat (by omega)).1.1).symm.trans q_v6
      exact k 0 (Or.inr ⟨rfl, fun z => by have z := jSd_1.mp z; rw [k_so, k_ho, k_v6] at z; omega⟩)
    · refine qm_Rp.go 2 (c' := (75, [.ref 51, .int 1, .int y, .int 0, .int so, .int v6], [.int v6, .int y], h)) rfl ?_
      refine hp_cle (ix := y.toInt) (iy := v6.toInt) rfl rfl rfl (fun z9 => ?_) (fun z9 => ?_)
      · refine qm_Rp.go 1 (c' := (83, [.ref 51, .int 1, .int y, .int 0, .int so, .int v6], [.int 0], h)) rfl ?_
        refine qm_Rp.rt (v := (some (.int 0))) (h' := h) rfl ?_
        have k_v6 : K 170 ho.toInt.toNat = v6 := ((hz.2.2 ho.toInt.toNat (by omega)).1.1).symm.trans q_v6
        exact k 0 (Or.inr ⟨rfl, fun z => by have z := jSd_1.mp z; rw [k_so, k_ho, k_v6] at z; omega⟩)
      · refine qm_Rp.go 2 (c' := (83, [.ref 51, .int 1, .int y, .int 0, .int so, .int v6], [.int 1], h)) rfl ?_
        refine qm_Rp.rt (v := (some (.int 1))) (h' := h) rfl ?_
        have k_v6 : K 170 ho.toInt.toNat = v6 := ((hz.2.2 ho.toInt.toNat (by omega)).1.1).symm.trans q_v6
        exact k 1 (Or.inl ⟨rfl, jSd_1.mpr (by rw [k_so, k_ho, k_v6]; omega)⟩)
  · refine qm_Rp.go 7 (c' := (69, [.ref 51, .int 1, .int y, .int 0, .int so, .int so], [.int so, .int y], h)) rfl ?_
    refine hp_cle (ix := y.toInt) (iy := so.toInt) rfl rfl rfl (fun z10 => ?_) (fun z10 => ?_)
    · refine qm_Rp.go 1 (c' := (83, [.ref 51, .int 1, .int y, .int 0, .int so, .int so], [.int 0], h)) rfl ?_
      refine qm_Rp.rt (v := (some (.int 0))) (h' := h) rfl ?_
      exact k 0 (Or.inr ⟨rfl, fun z => by have z := jSd_1.mp z; rw [k_so, k_ho] at z; omega⟩)
    · refine qm_Rp.go 2 (c' := (75, [.ref 51, .int 1, .int y, .int 0, .int so, .int so], [.int so, .int y], h)) rfl ?_
      refine hp_cle (ix := y.toInt) (iy := so.toInt) rfl rfl rfl (fun z11 => by exfalso; omega) (fun z11 => ?_)
      refine qm_Rp.go 2 (c' := (83, [.ref 51, .int 1, .int y, .int 0, .int so, .int so], [.int 1], h)) rfl ?_
      refine qm_Rp.rt (v := (some (.int 1))) (h' := h) rfl ?_
      exact k 1 (Or.inl ⟨rfl, jSd_1.mpr (by rw [k_so, k_ho]; omega)⟩)
set_option maxHeartbeats 20000000 in
theorem px_cskl1 {X : Option (Nat × (Nat → Int32))} {Z : Option Value → qm_H → Prop} {h : qm_H} (hH : hk_H h) {K : Nat → Nat → Int32} (hz : zJ K h.2.1) (hI : jI K) {n tk hv so ho : Int32} (q_n : h.2.1 51 2 = n) (k_n : K 118 75 = n) (b_n : 0 ≤ n.toInt ∧ n.toInt ≤ 40) (q_tk : h.2.1 51 8 = tk) (k_tk : K 118 85 = tk) (k_hv : K 178 1 = hv) (b_hv : hv.toInt = -1) (q_so : h.2.1 93 0 = so) (q_ho : h.2.1 94 0 = ho) (k_so : K 177 0 = so) (k_ho : K 178 0 = ho) (io : (ho.toInt = -1 ∨ (0 ≤ ho.toInt ∧ ho.toInt < n.toInt)) ∧ (0 ≤ n.toInt ∧ n.toInt ≤ 40) ∧ (0 ≤ (K 179 0).toInt ∧ (K 179 0).toInt ≤ 1) ∧ (-1 ≤ so.toInt ∧ so.toInt ≤ 4)) (k : ∀ I : Nat → Nat → Int32, (∀ o, (o < 53 ∨ 97 < o) → ∀ i, I o i = h.2.1 o i) → zJ (jTk K 1) I → Z none (h.1, I, h.2.2.1, h.2.2.2)) : ∀ (fu : Nat) (q : Int32), (0 ≤ q.toInt ∧ q.toInt ≤ n.toInt) → (jFs (jFr K 1) (n.toInt.toNat - q.toInt.toNat) q.toInt.toNat = jNx K 1) → qm_Rp fu X cd_206 (2, [.ref 51, .int 1, .int q], [], h) Z := by
  intro fu
  induction fu using Nat.strongRecOn with
  | ind fu ih =>
    intro q b_q hF
    have kz0 : (0 : Int32).toInt = 0 := rfl
    have kz1 : (1 : Int32).toInt = 1 := rfl
    have kz2 : (2 : Int32).toInt = 2 := rfl
    have kz3 : (3 : Int32).toInt = 3 := rfl
    have kz4 : (4 : Int32).toInt = 4 := rfl
    have kz5 : (5 : Int32).toInt = 5 := rfl
    have kz6 : (6 : Int32).toInt = 6 := rfl
    have kz7 : (7 : Int32).toInt = 7 := rfl
    have kz8 : (8 : Int32).toInt = 8 := rfl
    have kz9 : (9 : Int32).toInt = 9 := rfl
    have kzm1 : ((-1) : Int32).toInt = (-1) := rfl
    have kzm2 : ((-2) : Int32).toInt = (-2) := rfl
    have kzm3 : ((-3) : Int32).toInt = (-3) := rfl
    refine qm_Rp.go1 1 (c' := (4, [.ref 51, .int 1, .int q], [.ref 51, .int q], h)) rfl (fun g hg => ?_)
    refine hp_geti (v := n) rfl (hH.1 51 (14, 13) rfl) rfl q_n ?_
    refine qm_Rp.go 0 (c' := (7, [.ref 51, .int 1, .int q], [.int n, .int q], h)) rfl ?_
    refine hp_cge (ix := q.toInt) (iy := n.toInt) rfl rfl rfl (fun z1 => ?_) (fun z1 => ?_)
    · refine qm_Rp.go 0 (c' := (73, [.ref 51, .int 1, .int q], [], h)) rfl ?_
      refine qm_Rp.rt (v := none) (h' := h) rfl ?_
      rw [show n.toInt.toNat - q.toInt.toNat = 0 by omega] at hF
      have hF : q.toInt.toNat = jNx K 1 := hF
      exact k h.2.1 (fun _ _ _ => rfl) (by rw [jTk_0 (by rw [← hF, k_n]; omega)]; exact hz)
    · refine qm_Rp.go 1 (c' := (11, [.ref 51, .int 1, .int q], [.ref 51], h)) rfl ?_
      refine hp_getr rfl (hH.1 51 (14, 13) rfl) rfl (hH.2 51 1 (some 52) rfl) ?_
      refine qm_Rp.go 1 (c' := (15, [.ref 51, .int 1, .int q], [.int q, .ref 52], h)) rfl ?_
      refine hp_aal rfl (hH.1 52 (4, 40) rfl) (row_ref hH (by omega)) (fun ia_1 ib_1 => ?_)
      refine qm_Rp.go 1 (c' := (17, [.ref 51, .int 1, .int q], [.int 4, .ref (53 + q.toInt.toNat)], h)) rfl ?_
      obtain ⟨v3, q_v3⟩ : ∃ v_, h.2.1 (53 + q.toInt.toNat) 4 = v_ := ⟨_, rfl⟩
      refine hp_ial (v := v3) rfl (row_sh hH (by omega)) q_v3 (fun ia_3 ib_3 => ?_)
      refine qm_Rp.go 0 (c' := (18, [.ref 51, .int 1, .int q], [.int v3], h)) rfl ?_
      have r_q := hz.2.2 q.toInt.toNat (by rw [k_n]; omega)
      have j_q := hI.2.2.2 q.toInt.toNat (by rw [k_n]; omega)
      have f1 : (K 172 q.toInt.toNat).toInt = 0 → v3.toInt = -1 := fun z => by rw [← q_v3]; exact (r_q.2.2.2.1 z).1
      have f2 : (K 172 q.toInt.toNat).toInt ≠ 0 → 0 ≤ v3.toInt := fun z => by rw [← q_v3, (r_q.2.2.2.2.1 z).1]; exact (j_q.2.2.2.1 z).1
      refine qm_Rp.go 1 (c' := (19, [.ref 51, .int 1, .int q], [.int (-1), .int v3], h)) rfl ?_
      refine hp_cne (ix := v3.toInt) (iy := (-1)) rfl rfl rfl (fun z5 => ?_) (fun z5 => ?_)
      · refine qm_Rp.go 1 (c' := (70, [.ref 51, .int 1, .int (q + 1)], [], h)) rfl ?_
        obtain ⟨v6, q_v6, e_v6⟩ := hk_add (x := q) (y := 1) (a := q.toInt) (b := 1) rfl rfl (by omega) (by omega)
        rw [q_v6]
        refine qm_Rp.go 1 (c' := (2, [.ref 51, .int 1, .int v6], [], h)) rfl ?_
        have hF2 : jFs (jFr K 1) (n.toInt.toNat - v6.toInt.toNat) v6.toInt.toNat = jNx K 1 := by rw [← hF, show n.toInt.toNat - q.toInt.toNat = (n.toInt.toNat - v6.toInt.toNat) + 1 by omega, jFs_0 (fun z => by have := f1 z.1; omega), show q.toInt.toNat + 1 = v6.toInt.toNat by omega]
        exact ih g hg v6 (by omega) hF2
      · refine qm_Rp.go 3 (c' := (25, [.ref 51, .int 1, .int q], [.ref 51, .int 1, .ref 51], h)) rfl ?_
        refine hp_getr rfl (hH.1 51 (14, 13) rfl) rfl (hH.2 51 1 (some 52) rfl) ?_
        refine qm_Rp.go 1 (c' := (29, [.ref 51, .int 1, .int q], [.int q, .ref 52, .int 1, .ref 51], h)) rfl ?_
        refine hp_aal rfl (hH.1 52 (4, 40) rfl) (row_ref hH (by omega)) (fun ia_6 ib_6 => ?_)
        refine qm_Rp.go 1 (c' := (31, [.ref 51, .int 1, .int q], [.int 1, .ref (53 + q.toInt.toNat), .int 1, .ref 51], h)) rfl ?_
        obtain ⟨v8, q_v8⟩ : ∃ v_, h.2.1 (53 + q.toInt.toNat) 1 = v_ := ⟨_, rfl⟩
        refine hp_ial (v := v8) rfl (row_sh hH (by omega)) q_v8 (fun ia_8 ib_8 => ?_)
        refine qm_Rp.go 0 (c' := (32, [.ref 51, .int 1, .int q], [.int v8, .int 1, .ref 51], h)) rfl ?_
        have k_v8 : K 170 q.toInt.toNat = v8 := r_q.1.1.symm.trans q_v8
        refine hp_inv (o := 51) (r := []) (as := [.ref 51, .int 1, .int v8]) rfl rfl (hH.1 51 (14, 13) rfl) rfl rfl rfl (px_cown1 (h := h) hH hz hI q_so q_ho k_so k_ho (y := v8) (by rw [k_n]; exact ⟨io.1, io.2.1, io.2.2.2⟩) (fun r10 hr => ?_))
        rcases hr with ⟨hr, hy⟩ | ⟨hr, hy⟩
        · obtain rfl : r10 = 1 := hk_eqi.mpr (hr.trans rfl)
          have y11 := hy
          refine qm_Rp.go 2 (c' := (39, [.ref 51, .int 1, .int q], [.ref 51], h)) rfl ?_
          refine hp_getr rfl (hH.1 51 (14, 13) rfl) rfl (hH.2 51 1 (some 52) rfl) ?_
          refine qm_Rp.go 1 (c' := (43, [.ref 51, .int 1, .int q], [.int q, .ref 52], h)) rfl ?_
          refine hp_aal rfl (hH.1 52 (4, 40) rfl) (row_ref hH (by omega)) (fun ia_11 ib_11 => ?_)
          refine qm_Rp.go 2 (c' := (46, [.ref 51, .int 1, .int q], [.int 1, .int 4, .ref (53 + q.toInt.toNat)], h)) rfl ?_
          refine hp_ias rfl (row_sh hH (by omega)) (fun ia_12 ib_12 => ?_)
          refine qm_Rp.go 1 (c' := (48, [.ref 51, .int 1, .int q], [.ref 51], (h.1, qm_up h.2.1 (53 + q.toInt.toNat) 4 1, h.2.2.1, h.2.2.2))) rfl ?_
          refine hp_getr rfl (hH.1 51 (14, 13) rfl) rfl (hH.2 51 1 (some 52) rfl) ?_
          refine qm_Rp.go 1 (c' := (52, [.ref 51, .int 1, .int q], [.int q, .ref 52], (h.1, qm_up h.2.1 (53 + q.toInt.toNat) 4 1, h.2.2.1, h.2.2.2))) rfl ?_
          refine hp_aal rfl (hH.1 52 (4, 40) rfl) (row_ref hH (by omega)) (fun ia_13 ib_13 => ?_)
          refine qm_Rp.go 2 (c' := (55, [.ref 51, .int 1, .int q], [.ref 51, .int 5, .ref (53 + q.toInt.toNat)], (h.1, qm_up h.2.1 (53 + q.toInt.toNat) 4 1, h.2.2.1, h.2.2.2))) rfl ?_
          refine hp_geti (v := tk) rfl (hH.1 51 (14, 13) rfl) rfl (show (qm_up h.2.1 (53 + q.toInt.toNat) 4 1) 51 8 = _ from ((hk_ot (row_ne (by omega) (by decide)).2).trans q_tk)) ?_
          refine qm_Rp.go 0 (c' := (58, [.ref 51, .int 1, .int q], [.int tk, .int 5, .ref (53 + q.toInt.toNat)], (h.1, qm_up h.2.1 (53 + q.toInt.toNat) 4 1, h.2.2.1, h.2.2.2))) rfl ?_
          refine hp_ias rfl (row_sh hH (by omega)) (fun ia_14 ib_14 => ?_)
          refine qm_Rp.go 1 (c' := (60, [.ref 51, .int 1, .int q], [.ref 51], (h.1, qm_up (qm_up h.2.1 (53 + q.toInt.toNat) 4 1) (53 + q.toInt.toNat) 5 tk, h.2.2.1, h.2.2.2))) rfl ?_
          refine hp_getr rfl (hH.1 51 (14, 13) rfl) rfl (hH.2 51 4 (some 94) rfl) ?_
          refine qm_Rp.go 2 (c' := (65, [.ref 51, .int 1, .int q], [.int q, .int 1, .ref 94], (h.1, qm_up (qm_up h.2.1 (53 + q.toInt.toNat) 4 1) (53 + q.toInt.toNat) 5 tk, h.2.2.1, h.2.2.2))) rfl ?_
          refine hp_ias rfl (hH.1 94 (0, 2) rfl) (fun ia_15 ib_15 => ?_)
          refine qm_Rp.go 0 (c' := (66, [.ref 51, .int 1, .int q], [], (h.1, qm_up (qm_up (qm_up h.2.1 (53 + q.toInt.toNat) 4 1) (53 + q.toInt.toNat) 5 tk) 94 1 q, h.2.2.1, h.2.2.2))) rfl ?_
          refine qm_Rp.rt (v := none) (h' := (h.1, qm_up (qm_up (qm_up h.2.1 (53 + q.toInt.toNat) 4 1) (53 + q.toInt.toNat) 5 tk) 94 1 q, h.2.2.1, h.2.2.2)) rfl ?_
          have h0 : (K 172 q.toInt.toNat).toInt = 0 := Classical.byContradiction (fun z => by have := f2 z; omega)
          have hnx : jNx K 1 = q.toInt.toNat := by rw [← hF, show n.toInt.toNat - q.toInt.toNat = (n.toInt.toNat - q.toInt.toNat - 1) + 1 by omega, jFs_1 ⟨h0, by rw [k_v8]; exact y11⟩]
          refine k (qm_up (qm_up (qm_up h.2.1 (53 + q.toInt.toNat) 4 1) (53 + q.toInt.toNat) 5 tk) 94 1 q) (fun o ho i => ((hk_on (by omega)).trans ((hk_on (by omega)).trans ((hk_on (by omega)).trans rfl)))) ?_
          rw [jTk_1 (by rw [hnx, k_n]; omega), hnx]
          exact zJ_seek (by decide) hz hI (by rw [k_n]; omega) h0 (by rw [k_hv]; omega) (i32_n (by omega)) (by decide) k_tk
        · obtain rfl : r10 = 0 := hk_eqi.mpr (hr.trans rfl)
          have y17 := hy
          refine qm_Rp.go 2 (c' := (70, [.ref 51, .int 1, .int (q + 1)], [], h)) rfl ?_
          obtain ⟨v18, q_v18, e_v18⟩ := hk_add (x := q) (y := 1) (a := q.toInt) (b := 1) rfl rfl (by omega) (by omega)
          rw [q_v18]
          refine qm_Rp.go 1 (c' := (2, [.ref 51, .int 1, .int v18], [], h)) rfl ?_
          have hF2 : jFs (jFr K 1) (n.toInt.toNat - v18.toInt.toNat) v18.toInt.toNat = jNx K 1 := by rw [← hF, show n.toInt.toNat - q.toInt.toNat = (n.toInt.toNat - v18.toInt.toNat) + 1 by omega, jFs_0 (fun z => y17 (by have z := z.2; rw [k_v8] at z; exact z)), show q.toInt.toNat + 1 = v18.toInt.toNat by omega]
          exact ih g hg v18 (by omega) hF2
theorem px_cseek1 {X : Option (Nat × (Nat → Int32))} {Z : Option Value → qm_H → Prop} {h : qm_H} {fu : Nat} (hH : hk_H h) {K : Nat → Nat → Int32} (hz : zJ K h.2.1) (hI : jI K) {n tk hv so ho : Int32} (q_n : h.2.1 51 2 = n) (k_n : K 118 75 = n) (b_n : 0 ≤ n.toInt ∧ n.toInt ≤ 40) (q_tk : h.2.1 51 8 = tk) (k_tk : K 118 85 = tk) (k_hv : K 178 1 = hv) (b_hv : hv.toInt = -1) (q_so : h.2.1 93 0 = so) (q_ho : h.2.1 94 0 = ho) (k_so : K 177 0 = so) (k_ho : K 178 0 = ho) (io : (ho.toInt = -1 ∨ (0 ≤ ho.toInt ∧ ho.toInt < n.toInt)) ∧ (0 ≤ n.toInt ∧ n.toInt ≤ 40) ∧ (0 ≤ (K 179 0).toInt ∧ (K 179 0).toInt ≤ 1) ∧ (-1 ≤ so.toInt ∧ so.toInt ≤ 4)) (k : ∀ I : Nat → Nat → Int32, (∀ o, (o < 53 ∨ 97 < o) → ∀ i, I o i = h.2.1 o i) → zJ (jTk K 1) I → Z none (h.1, I, h.2.2.1, h.2.2.2)) : qm_Rp fu X cd_206 (qm_ent 3 [.ref 51, .int 1] h) Z := by
  refine qm_Rp.go 2 (c' := (2, [.ref 51, .int 1, .int 0], [], h)) rfl ?_
  exact px_cskl1 hH hz hI q_n k_n b_n q_tk k_tk k_hv b_hv q_so q_ho k_so k_ho io k _ 0 ⟨by decide, b_n.1⟩ (by unfold jNx; rw [k_n]; rfl)
theorem px_cb151 {X : Option (Nat × (Nat → Int32))} {Z : Option Value → qm_H → Prop} {h : qm_H} {fu : Nat} (hH : hk_H h) {K : Nat → Nat → Int32} (hz : zJ K h.2.1) (hI : jI K) (k : ∀ (I : Nat → Nat → Int32) (r : Int32), (∀ o, (o < 53 ∨ 97 < o) → ∀ i, I o i = h.2.1 o i) → jBr K I 1 r → Z (some (.int r)) (h.1, I, h.2.2.1, h.2.2.2)) : qm_Rp fu X cd_205 (15, [.ref 51, .int 1, .float 0], [], h) Z := by
  have kz0 : (0 : Int32).toInt = 0 := rfl
  have kz1 : (1 : Int32).toInt = 1 := rfl
  have kz2 : (2 : Int32).toInt = 2 := rfl
  have kz3 : (3 : Int32).toInt = 3 := rfl
  have kz4 : (4 : Int32).toInt = 4 := rfl
  have kz5 : (5 : Int32).toInt = 5 := rfl
  have kz6 : (6 : Int32).toInt = 6 := rfl
  have kz7 : (7 : Int32).toInt = 7 := rfl
  have kz8 : (8 : Int32).toInt = 8 := rfl
  have kz9 : (9 : Int32).toInt = 9 := rfl
  have kzm1 : ((-1) : Int32).toInt = (-1) := rfl
  have kzm2 : ((-2) : Int32).toInt = (-2) := rfl
  have kzm3 : ((-3) : Int32).toInt = (-3) := rfl
  have zc := hz.2.1 1 (by decide)
  have ic := jI_has hI (d := 1) (by decide)
  have zo := hz.2.1 0 (by decide)
  have io := jI_has hI (d := 0) (by decide)
  obtain ⟨sv, q_sv⟩ : ∃ v_, h.2.1 93 1 = v_ := ⟨_, rfl⟩
  have k_sv : K 177 1 = sv := zc.1.symm.trans q_sv
  obtain ⟨hv, q_hv⟩ : ∃ v_, h.2.1 94 1 = v_ := ⟨_, rfl⟩
  have k_hv : K 178 1 = hv := zc.2.1.symm.trans q_hv
  obtain ⟨lv, q_lv⟩ : ∃ v_, h.2.1 95 1 = v_ := ⟨_, rfl⟩
  have k_lv : K 179 1 = lv := zc.2.2.1.symm.trans q_lv
  obtain ⟨so, q_so⟩ : ∃ v_, h.2.1 93 0 = v_ := ⟨_, rfl⟩
  have k_so : K 177 0 = so := zo.1.symm.trans q_so
  obtain ⟨ho, q_ho⟩ : ∃ v_, h.2.1 94 0 = v_ := ⟨_, rfl⟩
  have k_ho : K 178 0 = ho := zo.2.1.symm.trans q_ho
  obtain ⟨n, q_n⟩ : ∃ v_, h.2.1 51 2 = v_ := ⟨_, rfl⟩
  have k_n : K 118 75 = n := hz.1.1.symm.trans q_n
  obtain ⟨tk, q_tk⟩ : ∃ v_, h.2.1 51 8 = v_ := ⟨_, rfl⟩
  have k_tk : K 118 85 = tk := hz.1.2.1.symm.trans q_tk
  obtain ⟨wf, q_wf⟩ : ∃ v_, h.2.1 51 9 = v_ := ⟨_, rfl⟩
  have k_wf : K 118 91 = wf := hz.1.2.2.1.symm.trans q_wf
  obtain ⟨wt, q_wt⟩ : ∃ v_, h.2.1 51 10 = v_ := ⟨_, rfl⟩
  have k_wt : K 118 92 = wt := hz.1.2.2.2.1.symm.trans q_wt
  rw [k_n, k_sv, k_hv, k_lv] at ic
  rw [k_n, k_so, k_ho] at io
  have hj : (K 118 75).toInt ≤ 40 := by rw [k_n]; exact ic.2.1.2
  refine qm_Rp.go 1 (c' := (16, [.ref 51, .int 1, .float 0], [.ref 51], h)) rfl ?_
  refine hp_getr rfl (hH.1 51 (14, 13) rfl) rfl (hH.2 51 4 (some 94) rfl) ?_
  refine qm_Rp.go 1 (c' := (20, [.ref 51, .int 1, .float 0], [.int 1, .ref 94], h)) rfl ?_
  refine hp_ial (v := hv) rfl (hH.1 94 (0, 2) rfl) q_hv (fun ia_0 ib_0 => ?_)
  refine qm_Rp.go 1 (c' := (22, [.ref 51, .int 1, .float 0], [.int (-1), .int hv], h)) rfl ?_
  refine hp_cne (ix := hv.toInt) (iy := (-1)) rfl rfl rfl (fun z2 => ?_) (fun z2 => ?_)
  · refine qm_Rp.go 1 (c' := (28, [.ref 51, .int 1, .float 0], [.ref 51], h)) rfl ?_
    refine hp_getr rfl (hH.1 51 (14, 13) rfl) rfl (hH.2 51 1 (some 52) rfl) ?_
    refine qm_Rp.go 1 (c' := (32, [.ref 51, .int 1, .float 0], [.ref 51, .ref 52], h)) rfl ?_
    refine hp_getr rfl (hH.1 51 (14, 13) rfl) rfl (hH.2 51 4 (some 94) rfl) ?_
    refine qm_Rp.go 1 (c' := (36, [.ref 51, .int 1, .float 0], [.int 1, .ref 94, .ref 52], h)) rfl ?_
    refine hp_ial (v := hv) rfl (hH.1 94 (0, 2) rfl) q_hv (fun ia_2 ib_2 => ?_)
    refine qm_Rp.go 0 (c' := (37, [.ref 51, .int 1, .float 0], [.int hv, .ref 52], h)) rfl ?_
    refine hp_aal rfl (hH.1 52 (4, 40) rfl) (row_ref hH (by omega)) (fun ia_3 ib_3 => ?_)
    refine qm_Rp.go 1 (c' := (39, [.ref 51, .int 1, .float 0], [.int 1, .ref (53 + hv.toInt.toNat)], h)) rfl ?_
    obtain ⟨v5, q_v5⟩ : ∃ v_, h.2.1 (53 + hv.toInt.toNat) 1 = v_ := ⟨_, rfl⟩
    refine hp_ial (v := v5) rfl (row_sh hH (by omega)) q_v5 (fun ia_5 ib_5 => ?_)
    refine qm_Rp.go 0 (c' := (40, [.ref 51, .int 1, .float 0], [.int v5], h)) rfl ?_
    have k_v5 : K 170 hv.toInt.toNat = v5 := ((hz.2.2 hv.toInt.toNat (by rw [k_n]; omega)).1.1).symm.trans q_v5
    have b_v5 := (hI.2.2.2 hv.toInt.toNat (by rw [k_n]; omega)).2.1
    rw [k_v5] at b_v5
    refine qm_Rp.go 3 (c' := (43, [.ref 51, .int 1, .int v5], [.ref 51, .int v5], h)) rfl ?_
    refine hp_getr rfl (hH.1 51 (14, 13) rfl) rfl (hH.2 51 3 (some 93) rfl) ?_
    refine qm_Rp.go 1 (c' := (47, [.ref 51, .int 1, .int v5], [.int 1, .ref 93, .int v5], h)) rfl ?_
    refine hp_ial (v := sv) rfl (hH.1 93 (0, 2) rfl) q_sv (fun ia_6 ib_6 => ?_)
    refine qm_Rp.go 0 (c' := (48, [.ref 51, .int 1, .int v5], [.int sv, .int v5], h)) rfl ?_
    refine hp_ceq (ix := v5.toInt) (iy := sv.toInt) rfl rfl rfl (fun z8 => ?_) (fun z8 => ?_)
    · refine qm_Rp.go 1 (c' := (61, [.ref 51, .int 1, .int v5], [.ref 51], h)) rfl ?_
      refine hp_inv (o := 51) (r := []) (as := [.ref 51]) rfl rfl (hH.1 51 (14, 13) rfl) rfl rfl rfl ?_
      refine qm_Rp.go 1 (c' := (1, [.ref 51], [.ref 51], h)) rfl ?_
      refine hp_geti (v := tk) rfl (hH.1 51 (14, 13) rfl) rfl q_tk ?_
      refine qm_Rp.go 1 (c' := (5, [.ref 51], [.ref 51, .int tk], h)) rfl ?_
      refine hp_geti (v := wf) rfl (hH.1 51 (14, 13) rfl) rfl q_wf ?_
      refine qm_Rp.go 0 (c' := (8, [.ref 51], [.int wf, .int tk], h)) rfl ?_
      refine hp_clt (ix := tk.toInt) (iy := wf.toInt) rfl rfl rfl (fun z9 => ?_) (fun z9 => ?_)
      · refine qm_Rp.go 1 (c' := (27, [.ref 51], [.int 0], h)) rfl ?_
        refine qm_Rp.rt (v := (some (.int 0))) (h' := h) rfl ?_
        refine qm_Rp.go 2 (c' := (68, [.ref 51, .int 1, .int v5], [.ref 51], h)) rfl ?_
        refine hp_getr rfl (hH.1 51 (14, 13) rfl) rfl (hH.2 51 5 (some 95) rfl) ?_
        refine qm_Rp.go 2 (c' := (73, [.ref 51, .int 1, .int v5], [.int 1, .ref 95, .int 1, .ref 95], h)) rfl ?_
        refine hp_ial (v := lv) rfl (hH.1 95 (0, 2) rfl) q_lv (fun ia_9 ib_9 => ?_)
        refine qm_Rp.go 2 (c' := (76, [.ref 51, .int 1, .int v5], [.int (lv + 1), .int 1, .ref 95], h)) rfl ?_
        obtain ⟨v11, q_v11, e_v11⟩ := hk_add (x := lv) (y := 1) (a := lv.toInt) (b := 1) rfl rfl (by omega) (by omega)
        rw [q_v11]
        refine hp_ias rfl (hH.1 95 (0, 2) rfl) (fun ia_11 ib_11 => ?_)
        refine qm_Rp.go 1 (c' := (78, [.ref 51, .int 1, .int v5], [.ref 51], (h.1, qm_up h.2.1 95 1 v11, h.2.2.1, h.2.2.2))) rfl ?_
        refine hp_getr rfl (hH.1 51 (14, 13) rfl) rfl (hH.2 51 5 (some 95) rfl) ?_
        refine qm_Rp.go 1 (c' := (82, [.ref 51, .int 1, .int v5], [.int 1, .ref 95], (h.1, qm_up h.2.1 95 1 v11, h.2.2.1, h.2.2.2))) rfl ?_
        refine hp_ial (v := v11) rfl (hH.1 95 (0, 2) rfl) (show (qm_up h.2.1 95 1 v11) 95 1 = _ from (hk_same)) (fun ia_12 ib_12 => ?_)
        refine qm_Rp.go 1 (c' := (84, [.ref 51, .int 1, .int v5], [.int 2, .int v11], (h.1, qm_up h.2.1 95 1 v11, h.2.2.1, h.2.2.2))) rfl ?_
        refine hp_clt (ix := v11.toInt) (iy := 2) rfl rfl rfl (fun z14 => ?_) (fun z14 => ?_)
        · refine qm_Rp.go 1 (c' := (92, [.ref 51, .int 1, .int v5], [.int 0], (h.1, qm_up h.2.1 95 1 v11, h.2.2.1, h.2.2.2))) rfl ?_
          refine qm_Rp.rt (v := (some (.int 0))) (h' := (h.1, qm_up h.2.1 95 1 v11, h.2.2.1, h.2.2.2)) rfl ?_
          have e2 : jLi K 1 = qm_up K 179 1 v11 := by unfold jLi; rw [k_lv, q_v11]
          have z2 : zJ (jLi K 1) (qm_up h.2.1 95 1 v11) := by rw [e2]; exact zJ_cr (by decide) hz hj
          exact k (qm_up h.2.1 95 1 v11) 0 (fun o ho i => ((hk_on (by omega)).trans rfl)) (Or.inl ⟨rfl, jLi K 1, fun s A => jGo_l (by rw [k_hv]; omega) (by rw [k_sv, k_hv, k_v5]; exact hk_eqi.mpr (by omega)) (fun z => by unfold jWn at z; rw [k_wf, k_tk, k_wt] at z; omega) (by rw [k_lv, q_v11]; omega), z2⟩)
        · refine qm_Rp.go 2 (c' := (92, [.ref 51, .int 1, .int v5], [.int 1], (h.1, qm_up h.2.1 95 1 v11, h.2.2.1, h.2.2.2))) rfl ?_
          refine qm_Rp.rt (v := (some (.int 1))) (h' := (h.1, qm_up h.2.1 95 1 v11, h.2.2.1, h.2.2.2)) rfl ?_
          have e2 : jLi K 1 = qm_up K 179 1 v11 := by unfold jLi; rw [k_lv, q_v11]
          have z2 : zJ (jLi K 1) (qm_up h.2.1 95 1 v11) := by rw [e2]; exact zJ_cr (by decide) hz hj
          exact k (qm_up h.2.1 95 1 v11) 1 (fun o ho i => ((hk_on (by omega)).trans rfl)) (Or.inr ⟨rfl, ⟨(by rw [k_hv]; omega), (by rw [k_sv, k_hv, k_v5]; exact hk_eqi.mpr (by omega)), (fun z => by unfold jWn at z; rw [k_wf, k_tk, k_wt] at z; omega), by rw [k_lv, q_v11]; omega⟩, z2⟩)
      · refine qm_Rp.go 1 (c' := (12, [.ref 51], [.ref 51], h)) rfl ?_
        refine hp_geti (v := tk) rfl (hH.1 51 (14, 13) rfl) rfl q_tk ?_
        refine qm_Rp.go 1 (c' := (16, [.ref 51], [.ref 51, .int tk], h)) rfl ?_
        refine hp_geti (v := wt) rfl (hH.1 51 (14, 13) rfl) rfl q_wt ?_
        refine qm_Rp.go 0 (c' := (19, [.ref 51], [.int wt, .int tk], h)) rfl ?_
        refine hp_cgt (ix := tk.toInt) (iy := wt.toInt) rfl rfl rfl (fun z15 => ?_) (fun z15 => ?_)
        · refine qm_Rp.go 1 (c' := (27, [.ref 51], [.int 0], h)) rfl ?_
          refine qm_Rp.rt (v := (some (.int 0))) (h' := h) rfl ?_
          refine qm_Rp.go 2 (c' := (68, [.ref 51, .int 1, .int v5], [.ref 51], h)) rfl ?_
          refine hp_getr rfl (hH.1 51 (14, 13) rfl) rfl (hH.2 51 5 (some 95) rfl) ?_
          refine qm_Rp.go 2 (c' := (73, [.ref 51, .int 1, .int v5], [.int 1, .ref 95, .int 1, .ref 95], h)) rfl ?_
          refine hp_ial (v := lv) rfl (hH.1 95 (0, 2) rfl) q_lv (fun ia_15 ib_15 => ?_)
          refine qm_Rp.go 2 (c' := (76, [.ref 51, .int 1, .int v5], [.int (lv + 1), .int 1, .ref 95], h)) rfl ?_
          obtain ⟨v17, q_v17, e_v17⟩ := hk_add (x := lv) (y := 1) (a := lv.toInt) (b := 1) rfl rfl (by omega) (by omega)
          rw [q_v17]
          refine hp_ias rfl (hH.1 95 (0, 2) rfl) (fun ia_17 ib_17 => ?_)
          refine qm_Rp.go 1 (c' := (78, [.ref 51, .int 1, .int v5], [.ref 51], (h.1, qm_up h.2.1 95 1 v17, h.2.2.1, h.2.2.2))) rfl ?_
          refine hp_getr rfl (hH.1 51 (14, 13) rfl) rfl (hH.2 51 5 (some 95) rfl) ?_
          refine qm_Rp.go 1 (c' := (82, [.ref 51, .int 1, .int v5], [.int 1, .ref 95], (h.1, qm_up h.2.1 95 1 v17, h.2.2.1, h.2.2.2))) rfl ?_
          refine hp_ial (v := v17) rfl (hH.1 95 (0, 2) rfl) (show (qm_up h.2.1 95 1 v17) 95 1 = _ from (hk_same)) (fun ia_18 ib_18 => ?_)
          refine qm_Rp.go 1 (c' := (84, [.ref 51, .int 1, .int v5], [.int 2, .int v17], (h.1, qm_up h.2.1 95 1 v17, h.2.2.1, h.2.2.2))) rfl ?_
          refine hp_clt (ix := v17.toInt) (iy := 2) rfl rfl rfl (fun z20 => ?_) (fun z20 => ?_)
          · refine qm_Rp.go 1 (c' := (92, [.ref 51, .int 1, .int v5], [.int 0], (h.1, qm_up h.2.1 95 1 v17, h.2.2.1, h.2.2.2))) rfl ?_
            refine qm_Rp.rt (v := (some (.int 0))) (h' := (h.1, qm_up h.2.1 95 1 v17, h.2.2.1, h.2.2.2)) rfl ?_
            have e2 : jLi K 1 = qm_up K 179 1 v17 := by unfold jLi; rw [k_lv, q_v17]
            have z2 : zJ (jLi K 1) (qm_up h.2.1 95 1 v17) := by rw [e2]; exact zJ_cr (by decide) hz hj
            exact k (qm_up h.2.1 95 1 v17) 0 (fun o ho i => ((hk_on (by omega)).trans rfl)) (Or.inl ⟨rfl, jLi K 1, fun s A => jGo_l (by rw [k_hv]; omega) (by rw [k_sv, k_hv, k_v5]; exact hk_eqi.mpr (by omega)) (fun z => by unfold jWn at z; rw [k_wf, k_tk, k_wt] at z; omega) (by rw [k_lv, q_v17]; omega), z2⟩)
          · refine qm_Rp.go 2 (c' := (92, [.ref 51, .int 1, .int v5], [.int 1], (h.1, qm_up h.2.1 95 1 v17, h.2.2.1, h.2.2.2))) rfl ?_
            refine qm_Rp.rt (v := (some (.int 1))) (h' := (h.1, qm_up h.2.1 95 1 v17, h.2.2.1, h.2.2.2)) rfl ?_
            have e2 : jLi K 1 = qm_up K 179 1 v17 := by unfold jLi; rw [k_lv, q_v17]
            have z2 : zJ (jLi K 1) (qm_up h.2.1 95 1 v17) := by rw [e2]; exact zJ_cr (by decide) hz hj
            exact k (qm_up h.2.1 95 1 v17) 1 (fun o ho i => ((hk_on (by omega)).trans rfl)) (Or.inr ⟨rfl, ⟨(by rw [k_hv]; omega), (by rw [k_sv, k_hv, k_v5]; exact hk_eqi.mpr (by omega)), (fun z => by unfold jWn at z; rw [k_wf, k_tk, k_wt] at z; omega), by rw [k_lv, q_v17]; omega⟩, z2⟩)
        · refine qm_Rp.go 2 (c' := (27, [.ref 51], [.int 1], h)) rfl ?_
          refine qm_Rp.rt (v := (some (.int 1))) (h' := h) rfl ?_
          refine qm_Rp.go 2 (c' := (78, [.ref 51, .int 1, .int v5], [.ref 51], h)) rfl ?_
          refine hp_getr rfl (hH.1 51 (14, 13) rfl) rfl (hH.2 51 5 (some 95) rfl) ?_
          refine qm_Rp.go 1 (c' := (82, [.ref 51, .int 1, .int v5], [.int 1, .ref 95], h)) rfl ?_
          refine hp_ial (v := lv) rfl (hH.1 95 (0, 2) rfl) q_lv (fun ia_20 ib_20 => ?_)
          refine qm_Rp.go 1 (c' := (84, [.ref 51, .int 1, .int v5], [.int 2, .int lv], h)) rfl ?_
          refine hp_clt (ix := lv.toInt) (iy := 2) rfl rfl rfl (fun z22 => ?_) (fun z22 => by exfalso; omega)
          refine qm_Rp.go 1 (c' := (92, [.ref 51, .int 1, .int v5], [.int 0], h)) rfl ?_
          refine qm_Rp.rt (v := (some (.int 0))) (h' := h) rfl ?_
          exact k h.2.1 0 (fun _ _ _ => rfl) (Or.inl ⟨rfl, K, fun s A => jGo_w (by rw [k_hv]; omega) (by rw [k_sv, k_hv, k_v5]; exact hk_eqi.mpr (by omega)) (by unfold jWn; rw [k_wf, k_tk, k_wt]; omega), hz⟩)
    · refine qm_Rp.go 3 (c' := (54, [.ref 51, .int 1, .int v5], [.int v5, .int 1, .ref 51], h)) rfl ?_
      refine hp_inv (o := 51) (r := []) (as := [.ref 51, .int 1, .int v5]) rfl rfl (hH.1 51 (14, 13) rfl) rfl rfl rfl ?_
      refine qm_Rp.go 0 (c' := (0, [.ref 51, .int 1, .int v5, .float 0], [], h)) rfl ?_
      refine qm_Rp.go 1 (c' := (1, [.ref 51, .int 1, .int v5, .float 0], [.ref 51], h)) rfl ?_
      refine hp_getr rfl (hH.1 51 (14, 13) rfl) rfl (hH.2 51 3 (some 93) rfl) ?_
      refine qm_Rp.go 1 (c' := (5, [.ref 51, .int 1, .int v5, .float 0], [.int 1, .ref 93], h)) rfl ?_
      refine hp_ial (v := sv) rfl (hH.1 93 (0, 2) rfl) q_sv (fun ia_22 ib_22 => ?_)
      refine qm_Rp.go 1 (c' := (7, [.ref 51, .int 1, .int v5, .float 0], [.int v5, .int sv], h)) rfl ?_
      refine hp_cge (ix := sv.toInt) (iy := v5.toInt) rfl rfl rfl (fun z24 => ?_) (fun z24 => ?_)
      · refine qm_Rp.go 1 (c' := (22, [.ref 51, .int 1, .int v5, .float 0], [.ref 51], h)) rfl ?_
        refine hp_getr rfl (hH.1 51 (14, 13) rfl) rfl (hH.2 51 3 (some 93) rfl) ?_
        refine qm_Rp.go 1 (c' := (26, [.ref 51, .int 1, .int v5, .float 0], [.int 1, .ref 93], h)) rfl ?_
        refine hp_ial (v := sv) rfl (hH.1 93 (0, 2) rfl) q_sv (fun ia_24 ib_24 => ?_)
        refine qm_Rp.go 2 (c' := (29, [.ref 51, .int 1, .int v5, .float 0], [.int (sv - 1)], h)) rfl ?_
        obtain ⟨v26, q_v26, e_v26⟩ := hk_sub (x := sv) (y := 1) (a := sv.toInt) (b := 1) rfl rfl (by omega) (by omega)
        rw [q_v26]
        refine qm_Rp.go 1 (c' := (30, [.ref 51, .int 1, .int v5, .int v26], [], h)) rfl ?_
        refine qm_Rp.go 1 (c' := (31, [.ref 51, .int 1, .int v5, .int v26], [.ref 51], h)) rfl ?_
        refine hp_getr rfl (hH.1 51 (14, 13) rfl) rfl (hH.2 51 3 (some 93) rfl) ?_
        refine qm_Rp.go 3 (c' := (37, [.ref 51, .int 1, .int v5, .int v26], [.int 0, .ref 93], h)) rfl ?_
        refine hp_ial (v := so) rfl (hH.1 93 (0, 2) rfl) q_so (fun ia_26 ib_26 => ?_)
        refine qm_Rp.go 1 (c' := (39, [.ref 51, .int 1, .int v5, .int v26], [.int v26, .int so], h)) rfl ?_
        refine hp_ceq (ix := so.toInt) (iy := v26.toInt) rfl rfl rfl (fun z28 => ?_) (fun z28 => ?_)
        · refine qm_Rp.go 0 (c' := (59, [.ref 51, .int 1, .int v5, .int v26], [], h)) rfl ?_
          refine qm_Rp.rt (v := none) (h' := h) rfl ?_
          refine qm_Rp.go 2 (c' := (78, [.ref 51, .int 1, .int v5], [.ref 51], h)) rfl ?_
          refine hp_getr rfl (hH.1 51 (14, 13) rfl) rfl (hH.2 51 5 (some 95) rfl) ?_
          refine qm_Rp.go 1 (c' := (82, [.ref 51, .int 1, .int v5], [.int 1, .ref 95], h)) rfl ?_
          refine hp_ial (v := lv) rfl (hH.1 95 (0, 2) rfl) q_lv (fun ia_28 ib_28 => ?_)
          refine qm_Rp.go 1 (c' := (84, [.ref 51, .int 1, .int v5], [.int 2, .int lv], h)) rfl ?_
          refine hp_clt (ix := lv.toInt) (iy := 2) rfl rfl rfl (fun z30 => ?_) (fun z30 => by exfalso; omega)
          refine qm_Rp.go 1 (c' := (92, [.ref 51, .int 1, .int v5], [.int 0], h)) rfl ?_
          refine qm_Rp.rt (v := (some (.int 0))) (h' := h) rfl ?_
          have hmv : jMv K 1 = v26 := by unfold jMv; rw [k_hv, k_v5, k_sv, okb_f (show ¬ sv.toInt < v5.toInt by omega)]; exact q_v26
          exact k h.2.1 0 (fun _ _ _ => rfl) (Or.inl ⟨rfl, K, fun s A => jGo_b (by rw [k_hv]; omega) (fun z => by rw [k_sv, k_hv, k_v5] at z; have := congrArg Int32.toInt z; omega) (by rw [hmv, show 1 - 1 = 0 from rfl, k_so]; exact hk_eqi.mpr (by omega)), hz⟩)
        · refine qm_Rp.go 1 (c' := (43, [.ref 51, .int 1, .int v5, .int v26], [.ref 51], h)) rfl ?_
          refine hp_getr rfl (hH.1 51 (14, 13) rfl) rfl (hH.2 51 3 (some 93) rfl) ?_
          refine qm_Rp.go 2 (c' := (48, [.ref 51, .int 1, .int v5, .int v26], [.int v26, .int 1, .ref 93], h)) rfl ?_
          refine hp_ias rfl (hH.1 93 (0, 2) rfl) (fun ia_30 ib_30 => ?_)
          refine qm_Rp.go 1 (c' := (50, [.ref 51, .int 1, .int v5, .int v26], [.ref 51], (h.1, qm_up h.2.1 93 1 v26, h.2.2.1, h.2.2.2))) rfl ?_
          refine hp_getr rfl (hH.1 51 (14, 13) rfl) rfl (hH.2 51 6 (some 96) rfl) ?_
          refine qm_Rp.go 2 (c' := (55, [.ref 51, .int 1, .int v5, .int v26], [.int 1, .ref 96, .int 1, .ref 96], (h.1, qm_up h.2.1 93 1 v26, h.2.2.1, h.2.2.2))) rfl ?_
          obtain ⟨v32, q_v32⟩ : ∃ v_, h.2.1 96 1 = v_ := ⟨_, rfl⟩
          refine hp_ial (v := v32) rfl (hH.1 96 (0, 2) rfl) (show (qm_up h.2.1 93 1 v26) 96 1 = _ from ((hk_ot rfl).trans q_v32)) (fun ia_32 ib_32 => ?_)
          refine qm_Rp.go 2 (c' := (58, [.ref 51, .int 1, .int v5, .int v26], [.int (v32 + 1), .int 1, .ref 96], (h.1, qm_up h.2.1 93 1 v26, h.2.2.1, h.2.2.2))) rfl ?_
          obtain ⟨v34, q_v34⟩ : ∃ v_, (v32 + 1) = v_ := ⟨_, rfl⟩
          rw [q_v34]
          refine hp_ias rfl (hH.1 96 (0, 2) rfl) (fun ia_34 ib_34 => ?_)
          refine qm_Rp.go 0 (c' := (59, [.ref 51, .int 1, .int v5, .int v26], [], (h.1, qm_up (qm_up h.2.1 93 1 v26) 96 1 v34, h.2.2.1, h.2.2.2))) rfl ?_
          refine qm_Rp.rt (v := none) (h' := (h.1, qm_up (qm_up h.2.1 93 1 v26) 96 1 v34, h.2.2.1, h.2.2.2)) rfl ?_
          refine qm_Rp.go 2 (c' := (78, [.ref 51, .int 1, .int v5], [.ref 51], (h.1, qm_up (qm_up h.2.1 93 1 v26) 96 1 v34, h.2.2.1, h.2.2.2))) rfl ?_
          refine hp_getr rfl (hH.1 51 (14, 13) rfl) rfl (hH.2 51 5 (some 95) rfl) ?_
          refine qm_Rp.go 1 (c' := (82, [.ref 51, .int 1, .int v5], [.int 1, .ref 95], (h.1, qm_up (qm_up h.2.1 93 1 v26) 96 1 v34, h.2.2.1, h.2.2.2))) rfl ?_
          refine hp_ial (v := lv) rfl (hH.1 95 (0, 2) rfl) (show (qm_up (qm_up h.2.1 93 1 v26) 96 1 v34) 95 1 = _ from ((hk_ot rfl).trans ((hk_ot rfl).trans q_lv))) (fun ia_35 ib_35 => ?_)
          refine qm_Rp.go 1 (c' := (84, [.ref 51, .int 1, .int v5], [.int 2, .int lv], (h.1, qm_up (qm_up h.2.1 93 1 v26) 96 1 v34, h.2.2.1, h.2.2.2))) rfl ?_
          refine hp_clt (ix := lv.toInt) (iy := 2) rfl rfl rfl (fun z37 => ?_) (fun z37 => by exfalso; omega)
          refine qm_Rp.go 1 (c' := (92, [.ref 51, .int 1, .int v5], [.int 0], (h.1, qm_up (qm_up h.2.1 93 1 v26) 96 1 v34, h.2.2.1, h.2.2.2))) rfl ?_
          refine qm_Rp.rt (v := (some (.int 0))) (h' := (h.1, qm_up (qm_up h.2.1 93 1 v26) 96 1 v34, h.2.2.1, h.2.2.2)) rfl ?_
          have hmv : jMv K 1 = v26 := by unfold jMv; rw [k_hv, k_v5, k_sv, okb_f (show ¬ sv.toInt < v5.toInt by omega)]; exact q_v26
          have e2 : jMo K 1 = qm_up (qm_up K 177 1 v26) 180 1 v34 := by unfold jMo; rw [hmv, show K 180 1 = v32 from zc.2.2.2.1.symm.trans q_v32, q_v34]
          exact k (qm_up (qm_up h.2.1 93 1 v26) 96 1 v34) 0 (fun o ho i => ((hk_on (by omega)).trans ((hk_on (by omega)).trans rfl))) (Or.inl ⟨rfl, jMo K 1, fun s A => jGo_m (by rw [k_hv]; omega) (fun z => by rw [k_sv, k_hv, k_v5] at z; have := congrArg Int32.toInt z; omega) (by rw [hmv, show 1 - 1 = 0 from rfl, k_so]; exact fun z => by have := congrArg Int32.toInt z; omega), by rw [e2]; exact zJ_cr (by decide) (zJ_cr (by decide) hz hj) (by rw [up_o (show (118 : Nat) ≠ 177 by decide)]; exact hj)⟩)
      · refine qm_Rp.go 1 (c' := (11, [.ref 51, .int 1, .int v5, .float 0], [.ref 51], h)) rfl ?_
        refine hp_getr rfl (hH.1 51 (14, 13) rfl) rfl (hH.2 51 3 (some 93) rfl) ?_
        refine qm_Rp.go 1 (c' := (15, [.ref 51, .int 1, .int v5, .float 0], [.int 1, .ref 93], h)) rfl ?_
        refine hp_ial (v := sv) rfl (hH.1 93 (0, 2) rfl) q_sv (fun ia_37 ib_37 => ?_)
        refine qm_Rp.go 2 (c' := (18, [.ref 51, .int 1, .int v5, .float 0], [.int (sv + 1)], h)) rfl ?_
        obtain ⟨v39, q_v39, e_v39⟩ := hk_add (x := sv) (y := 1) (a := sv.toInt) (b := 1) rfl rfl (by omega) (by omega)
        rw [q_v39]
        refine qm_Rp.go 2 (c' := (30, [.ref 51, .int 1, .int v5, .int v39], [], h)) rfl ?_
        refine qm_Rp.go 1 (c' := (31, [.ref 51, .int 1, .int v5, .int v39], [.ref 51], h)) rfl ?_
        refine hp_getr rfl (hH.1 51 (14, 13) rfl) rfl (hH.2 51 3 (some 93) rfl) ?_
        refine qm_Rp.go 3 (c' := (37, [.ref 51, .int 1, .int v5, .int v39], [.int 0, .ref 93], h)) rfl ?_
        refine hp_ial (v := so) rfl (hH.1 93 (0, 2) rfl) q_so (fun ia_39 ib_39 => ?_)
        refine qm_Rp.go 1 (c' := (39, [.ref 51, .int 1, .int v5, .int v39], [.int v39, .int so], h)) rfl ?_
        refine hp_ceq (ix := so.toInt) (iy := v39.toInt) rfl rfl rfl (fun z41 => ?_) (fun z41 => ?_)
        · refine qm_Rp.go 0 (c' := (59, [.ref 51, .int 1, .int v5, .int v39], [], h)) rfl ?_
          refine qm_Rp.rt (v := none) (h' := h) rfl ?_
          refine qm_Rp.go 2 (c' := (78, [.ref 51, .int 1, .int v5], [.ref 51], h)) rfl ?_
          refine hp_getr rfl (hH.1 51 (14, 13) rfl) rfl (hH.2 51 5 (some 95) rfl) ?_
          refine qm_Rp.go 1 (c' := (82, [.ref 51, .int 1, .int v5], [.int 1, .ref 95], h)) rfl ?_
          refine hp_ial (v := lv) rfl (hH.1 95 (0, 2) rfl) q_lv (fun ia_41 ib_41 => ?_)
          refine qm_Rp.go 1 (c' := (84, [.ref 51, .int 1, .int v5], [.int 2, .int lv], h)) rfl ?_
          refine hp_clt (ix := lv.toInt) (iy := 2) rfl rfl rfl (fun z43 => ?_) (fun z43 => by exfalso; omega)
          refine qm_Rp.go 1 (c' := (92, [.ref 51, .int 1, .int v5], [.int 0], h)) rfl ?_
          refine qm_Rp.rt (v := (some (.int 0))) (h' := h) rfl ?_
          have hmv : jMv K 1 = v39 := by unfold jMv; rw [k_hv, k_v5, k_sv, okb_t (show sv.toInt < v5.toInt by omega)]; exact q_v39
          exact k h.2.1 0 (fun _ _ _ => rfl) (Or.inl ⟨rfl, K, fun s A => jGo_b (by rw [k_hv]; omega) (fun z => by rw [k_sv, k_hv, k_v5] at z; have := congrArg Int32.toInt z; omega) (by rw [hmv, show 1 - 1 = 0 from rfl, k_so]; exact hk_eqi.mpr (by omega)), hz⟩)
        · refine qm_Rp.go 1 (c' := (43, [.ref 51, .int 1, .int v5, .int v39], [.ref 51], h)) rfl ?_
          refine hp_getr rfl (hH.1 51 (14, 13) rfl) rfl (hH.2 51 3 (some 93) rfl) ?_
          refine qm_Rp.go 2 (c' := (48, [.ref 51, .int 1, .int v5, .int v39], [.int v39, .int 1, .ref 93], h)) rfl ?_
          refine hp_ias rfl (hH.1 93 (0, 2) rfl) (fun ia_43 ib_43 => ?_)
          refine qm_Rp.go 1 (c' := (50, [.ref 51, .int 1, .int v5, .int v39], [.ref 51], (h.1, qm_up h.2.1 93 1 v39, h.2.2.1, h.2.2.2))) rfl ?_
          refine hp_getr rfl (hH.1 51 (14, 13) rfl) rfl (hH.2 51 6 (some 96) rfl) ?_
          refine qm_Rp.go 2 (c' := (55, [.ref 51, .int 1, .int v5, .int v39], [.int 1, .ref 96, .int 1, .ref 96], (h.1, qm_up h.2.1 93 1 v39, h.2.2.1, h.2.2.2))) rfl ?_
          obtain ⟨v45, q_v45⟩ : ∃ v_, h.2.1 96 1 = v_ := ⟨_, rfl⟩
          refine hp_ial (v := v45) rfl (hH.1 96 (0, 2) rfl) (show (qm_up h.2.1 93 1 v39) 96 1 = _ from ((hk_ot rfl).trans q_v45)) (fun ia_45 ib_45 => ?_)
          refine qm_Rp.go 2 (c' := (58, [.ref 51, .int 1, .int v5, .int v39], [.int (v45 + 1), .int 1, .ref 96], (h.1, qm_up h.2.1 93 1 v39, h.2.2.1, h.2.2.2))) rfl ?_
          obtain ⟨v47, q_v47⟩ : ∃ v_, (v45 + 1) = v_ := ⟨_, rfl⟩
          rw [q_v47]
          refine hp_ias rfl (hH.1 96 (0, 2) rfl) (fun ia_47 ib_47 => ?_)
          refine qm_Rp.go 0 (c' := (59, [.ref 51, .int 1, .int v5, .int v39], [], (h.1, qm_up (qm_up h.2.1 93 1 v39) 96 1 v47, h.2.2.1, h.2.2.2))) rfl ?_
          refine qm_Rp.rt (v := none) (h' := (h.1, qm_up (qm_up h.2.1 93 1 v39) 96 1 v47, h.2.2.1, h.2.2.2)) rfl ?_
          refine qm_Rp.go 2 (c' := (78, [.ref 51, .int 1, .int v5], [.ref 51], (h.1, qm_up (qm_up h.2.1 93 1 v39) 96 1 v47, h.2.2.1, h.2.2.2))) rfl ?_
          refine hp_getr rfl (hH.1 51 (14, 13) rfl) rfl (hH.2 51 5 (some 95) rfl) ?_
          refine qm_Rp.go 1 (c' := (82, [.ref 51, .int 1, .int v5], [.int 1, .ref 95], (h.1, qm_up (qm_up h.2.1 93 1 v39) 96 1 v47, h.2.2.1, h.2.2.2))) rfl ?_
          refine hp_ial (v := lv) rfl (hH.1 95 (0, 2) rfl) (show (qm_up (qm_up h.2.1 93 1 v39) 96 1 v47) 95 1 = _ from ((hk_ot rfl).trans ((hk_ot rfl).trans q_lv))) (fun ia_48 ib_48 => ?_)
          refine qm_Rp.go 1 (c' := (84, [.ref 51, .int 1, .int v5], [.int 2, .int lv], (h.1, qm_up (qm_up h.2.1 93 1 v39) 96 1 v47, h.2.2.1, h.2.2.2))) rfl ?_
          refine hp_clt (ix := lv.toInt) (iy := 2) rfl rfl rfl (fun z50 => ?_) (fun z50 => by exfalso; omega)
          refine qm_Rp.go 1 (c' := (92, [.ref 51, .int 1, .int v5], [.int 0], (h.1, qm_up (qm_up h.2.1 93 1 v39) 96 1 v47, h.2.2.1, h.2.2.2))) rfl ?_
          refine qm_Rp.rt (v := (some (.int 0))) (h' := (h.1, qm_up (qm_up h.2.1 93 1 v39) 96 1 v47, h.2.2.1, h.2.2.2)) rfl ?_
          have hmv : jMv K 1 = v39 := by unfold jMv; rw [k_hv, k_v5, k_sv, okb_t (show sv.toInt < v5.toInt by omega)]; exact q_v39
          have e2 : jMo K 1 = qm_up (qm_up K 177 1 v39) 180 1 v47 := by unfold jMo; rw [hmv, show K 180 1 = v45 from zc.2.2.2.1.symm.trans q_v45, q_v47]
          exact k (qm_up (qm_up h.2.1 93 1 v39) 96 1 v47) 0 (fun o ho i => ((hk_on (by omega)).trans ((hk_on (by omega)).trans rfl))) (Or.inl ⟨rfl, jMo K 1, fun s A => jGo_m (by rw [k_hv]; omega) (fun z => by rw [k_sv, k_hv, k_v5] at z; have := congrArg Int32.toInt z; omega) (by rw [hmv, show 1 - 1 = 0 from rfl, k_so]; exact fun z => by have := congrArg Int32.toInt z; omega), by rw [e2]; exact zJ_cr (by decide) (zJ_cr (by decide) hz hj) (by rw [up_o (show (118 : Nat) ≠ 177 by decide)]; exact hj)⟩)
  · refine qm_Rp.go 1 (c' := (26, [.ref 51, .int 1, .float 0], [.int 0], h)) rfl ?_
    refine qm_Rp.rt (v := (some (.int 0))) (h' := h) rfl ?_
    exact k h.2.1 0 (fun _ _ _ => rfl) (Or.inl ⟨rfl, K, fun s A => jGo_n (by rw [k_hv]; omega), hz⟩)
theorem px_cbr1 {X : Option (Nat × (Nat → Int32))} {Z : Option Value → qm_H → Prop} {h : qm_H} {fu : Nat} (hH : hk_H h) {K : Nat → Nat → Int32} (hz : zJ K h.2.1) (hI : jI K) (k : ∀ (I : Nat → Nat → Int32) (r : Int32), (∀ o, (o < 53 ∨ 97 < o) → ∀ i, I o i = h.2.1 o i) → jBr (bif okb ((K 178 1).toInt = -1) then jTk K 1 else K) I 1 r → Z (some (.int r)) (h.1, I, h.2.2.1, h.2.2.2)) : qm_Rp fu X cd_205 (qm_ent 3 [.ref 51, .int 1] h) Z := by
  refine qm_Rp.go 0 (c' := (0, [.ref 51, .int 1, .float 0], [], h)) rfl ?_
  have kz0 : (0 : Int32).toInt = 0 := rfl
  have kz1 : (1 : Int32).toInt = 1 := rfl
  have kz2 : (2 : Int32).toInt = 2 := rfl
  have kz3 : (3 : Int32).toInt = 3 := rfl
  have kz4 : (4 : Int32).toInt = 4 := rfl
  have kz5 : (5 : Int32).toInt = 5 := rfl
  have kz6 : (6 : Int32).toInt = 6 := rfl
  have kz7 : (7 : Int32).toInt = 7 := rfl
  have kz8 : (8 : Int32).toInt = 8 := rfl
  have kz9 : (9 : Int32).toInt = 9 := rfl
  have kzm1 : ((-1) : Int32).toInt = (-1) := rfl
  have kzm2 : ((-2) : Int32).toInt = (-2) := rfl
  have kzm3 : ((-3) : Int32).toInt = (-3) := rfl
  have zc := hz.2.1 1 (by decide)
  have ic := jI_has hI (d := 1) (by decide)
  have zo := hz.2.1 0 (by decide)
  have io := jI_has hI (d := 0) (by decide)
  obtain ⟨sv, q_sv⟩ : ∃ v_, h.2.1 93 1 = v_ := ⟨_, rfl⟩
  have k_sv : K 177 1 = sv := zc.1.symm.trans q_sv
  obtain ⟨hv, q_hv⟩ : ∃ v_, h.2.1 94 1 = v_ := ⟨_, rfl⟩
  have k_hv : K 178 1 = hv := zc.2.1.symm.trans q_hv
  obtain ⟨lv, q_lv⟩ : ∃ v_, h.2.1 95 1 = v_ := ⟨_, rfl⟩
  have k_lv : K 179 1 = lv := zc.2.2.1.symm.trans q_lv
  obtain ⟨so, q_so⟩ : ∃ v_, h.2.1 93 0 = v_ := ⟨_, rfl⟩
  have k_so : K 177 0 = so := zo.1.symm.trans q_so
  obtain ⟨ho, q_ho⟩ : ∃ v_, h.2.1 94 0 = v_ := ⟨_, rfl⟩
  have k_ho : K 178 0 = ho := zo.2.1.symm.trans q_ho
  obtain ⟨n, q_n⟩ : ∃ v_, h.2.1 51 2 = v_ := ⟨_, rfl⟩
  have k_n : K 118 75 = n := hz.1.1.symm.trans q_n
  obtain ⟨tk, q_tk⟩ : ∃ v_, h.2.1 51 8 = v_ := ⟨_, rfl⟩
  have k_tk : K 118 85 = tk := hz.1.2.1.symm.trans q_tk
  obtain ⟨wf, q_wf⟩ : ∃ v_, h.2.1 51 9 = v_ := ⟨_, rfl⟩
  have k_wf : K 118 91 = wf := hz.1.2.2.1.symm.trans q_wf
  obtain ⟨wt, q_wt⟩ : ∃ v_, h.2.1 51 10 = v_ := ⟨_, rfl⟩
  have k_wt : K 118 92 = wt := hz.1.2.2.2.1.symm.trans q_wt
  rw [k_n, k_sv, k_hv, k_lv] at ic
  rw [k_n, k_so, k_ho] at io
  refine qm_Rp.go 1 (c' := (1, [.ref 51, .int 1, .float 0], [.ref 51], h)) rfl ?_
  refine hp_getr rfl (hH.1 51 (14, 13) rfl) rfl (hH.2 51 4 (some 94) rfl) ?_
  refine qm_Rp.go 1 (c' := (5, [.ref 51, .int 1, .float 0], [.int 1, .ref 94], h)) rfl ?_
  refine hp_ial (v := hv) rfl (hH.1 94 (0, 2) rfl) q_hv (fun ia_0 ib_0 => ?_)
  refine qm_Rp.go 1 (c' := (7, [.ref 51, .int 1, .float 0], [.int (-1), .int hv], h)) rfl ?_
  refine hp_cne (ix := hv.toInt) (iy := (-1)) rfl rfl rfl (fun z2 => ?_) (fun z2 => ?_)
  · refine qm_Rp.go 0 (c' := (15, [.ref 51, .int 1, .float 0], [], h)) rfl ?_
    exact px_cb151 hH hz hI (fun I r f b => k I r f (by rw [okb_f (show ¬ (K 178 1).toInt = -1 by rw [k_hv]; omega)]; exact b))
  · refine qm_Rp.go 2 (c' := (12, [.ref 51, .int 1, .float 0], [.int 1, .ref 51], h)) rfl ?_
    refine hp_inv (o := 51) (r := []) (as := [.ref 51, .int 1]) rfl rfl (hH.1 51 (14, 13) rfl) rfl rfl rfl (px_cseek1 (h := h) hH hz hI q_n k_n ic.2.1 q_tk k_tk k_hv (by omega) q_so q_ho k_so k_ho io (fun I1 f1 z1 => ?_))
    refine qm_Rp.go 0 (c' := (15, [.ref 51, .int 1, .float 0], [], (h.1, I1, h.2.2.1, h.2.2.2))) rfl ?_
    exact px_cb151 (h := (h.1, I1, h.2.2.1, h.2.2.2)) hH z1 (jTk_I (by decide) hI) (fun I r f b => k I r (fun o ho i => (f o ho i).trans (f1 o ho i)) (by rw [okb_t (show (K 178 1).toInt = -1 by rw [k_hv]; omega)]; exact b))
theorem px_cfin029 {X : Option (Nat × (Nat → Int32))} {Z : Option Value → qm_H → Prop} {h : qm_H} {fu : Nat} (hH : hk_H h) (hT2 : h.2.2.2 28 2 = some 29) {A : Nat → Nat → Int} {K : Nat → Nat → Int32} (hi : zI 0 A) (hc : zC A h.2.1) (hm : zM 29 0 A h.2.1) (hI : jI K) (hF : jFn K 0) (hz : zJ (jLi K 0) h.2.1) (k : ∀ I : Nat → Nat → Int32, (∀ o, (o < 53 ∨ 97 < o) → [11, 12, 13, 14, 16, 17, 28, 36, 37].contains o = false → ∀ i, I o i = h.2.1 o i) → zC (jGo 0 A K 0).1 I → zJ (jGo 0 A K 0).2 I → Z none (h.1, I, h.2.2.1, h.2.2.2)) : qm_Rp fu X cd_210 (qm_ent 3 [.ref 51, .int 0] h) Z := by
  refine qm_Rp.go 0 (c' := (0, [.ref 51, .int 0, .float 0], [], h)) rfl ?_
  have kz0 : (0 : Int32).toInt = 0 := rfl
  have kz1 : (1 : Int32).toInt = 1 := rfl
  have kz2 : (2 : Int32).toInt = 2 := rfl
  have kz3 : (3 : Int32).toInt = 3 := rfl
  have kz4 : (4 : Int32).toInt = 4 := rfl
  have kz5 : (5 : Int32).toInt = 5 := rfl
  have kz6 : (6 : Int32).toInt = 6 := rfl
  have kz7 : (7 : Int32).toInt = 7 := rfl
  have kz8 : (8 : Int32).toInt = 8 := rfl
  have kz9 : (9 : Int32).toInt = 9 := rfl
  have kzm1 : ((-1) : Int32).toInt = (-1) := rfl
  have kzm2 : ((-2) : Int32).toInt = (-2) := rfl
  have kzm3 : ((-3) : Int32).toInt = (-3) := rfl
  have l168 : jLi K 0 168 = K 168 := up_o (show (168 : Nat) ≠ 179 by decide)
  have l169 : jLi K 0 169 = K 169 := up_o (show (169 : Nat) ≠ 179 by decide)
  have l170 : jLi K 0 170 = K 170 := up_o (show (170 : Nat) ≠ 179 by decide)
  have l171 : jLi K 0 171 = K 171 := up_o (show (171 : Nat) ≠ 179 by decide)
  have l172 : jLi K 0 172 = K 172 := up_o (show (172 : Nat) ≠ 179 by decide)
  have l173 : jLi K 0 173 = K 173 := up_o (show (173 : Nat) ≠ 179 by decide)
  have l174 : jLi K 0 174 = K 174 := up_o (show (174 : Nat) ≠ 179 by decide)
  have l175 : jLi K 0 175 = K 175 := up_o (show (175 : Nat) ≠ 179 by decide)
  have l176 : jLi K 0 176 = K 176 := up_o (show (176 : Nat) ≠ 179 by decide)
  have l177 : jLi K 0 177 = K 177 := up_o (show (177 : Nat) ≠ 179 by decide)
  have l178 : jLi K 0 178 = K 178 := up_o (show (178 : Nat) ≠ 179 by decide)
  have l180 : jLi K 0 180 = K 180 := up_o (show (180 : Nat) ≠ 179 by decide)
  have l181 : jLi K 0 181 0 = K 181 0 := congrFun (up_o (show (181 : Nat) ≠ 179 by decide)) 0
  have l118 : jLi K 0 118 = K 118 := up_o (show (118 : Nat) ≠ 179 by decide)
  have e75 : jLi K 0 118 75 = K 118 75 := congrFun l118 75
  have zc := hz.2.1 0 (by decide)
  have ic := jI_has hI (d := 0) (by decide)
  obtain ⟨n, k_n⟩ : ∃ v_, K 118 75 = v_ := ⟨_, rfl⟩
  obtain ⟨hv, q_hv⟩ : ∃ v_, h.2.1 94 0 = v_ := ⟨_, rfl⟩
  have k_hv : K 178 0 = hv := (congrFun l178 0).symm.trans (zc.2.1.symm.trans q_hv)
  obtain ⟨tk, q_tk⟩ : ∃ v_, h.2.1 51 8 = v_ := ⟨_, rfl⟩
  have k_tk : K 118 85 = tk := (congrFun l118 85).symm.trans (hz.1.2.1.symm.trans q_tk)
  have hne : hv.toInt ≠ -1 := by rw [← k_hv]; exact hF.1
  rw [k_hv, k_n] at ic
  have hj : (jLi K 0 118 75).toInt ≤ 40 := by rw [e75, k_n]; exact ic.2.1.2
  have jr := hI.2.2.2 hv.toInt.toNat (by rw [k_n]; omega)
  have i172 : (K 172 hv.toInt.toNat).toInt = 1 := by have w := (hI.2.1 0 (by decide)).resolve_left (fun z => hF.1 z.1); rw [k_hv] at w; exact w.2.1
  refine qm_Rp.go 1 (c' := (1, [.ref 51, .int 0, .float 0], [.ref 51], h)) rfl ?_
  refine hp_getr rfl (hH.1 51 (14, 13) rfl) rfl (hH.2 51 1 (some 52) rfl) ?_
  refine qm_Rp.go 1 (c' := (5, [.ref 51, .int 0, .float 0], [.ref 51, .ref 52], h)) rfl ?_
  refine hp_getr rfl (hH.1 51 (14, 13) rfl) rfl (hH.2 51 4 (some 94) rfl) ?_
  refine qm_Rp.go 1 (c' := (9, [.ref 51, .int 0, .float 0], [.int 0, .ref 94, .ref 52], h)) rfl ?_
  refine hp_ial (v := hv) rfl (hH.1 94 (0, 2) rfl) q_hv (fun ia_0 ib_0 => ?_)
  refine qm_Rp.go 0 (c' := (10, [.ref 51, .int 0, .float 0], [.int hv, .ref 52], h)) rfl ?_
  refine hp_aal rfl (hH.1 52 (4, 40) rfl) (row_ref hH (by omega)) (fun ia_1 ib_1 => ?_)
  refine qm_Rp.go 5 (c' := (17, [.ref 51, .int 0, .ref (53 + hv.toInt.toNat)], [.int 0, .ref (53 + hv.toInt.toNat), .int 7, .ref (53 + hv.toInt.toNat)], h)) rfl ?_
  obtain ⟨v3, q_v3⟩ : ∃ v_, h.2.1 (53 + hv.toInt.toNat) 0 = v_ := ⟨_, rfl⟩
  refine hp_ial (v := v3) rfl (row_sh hH (by omega)) q_v3 (fun ia_3 ib_3 => ?_)
  refine qm_Rp.go 1 (c' := (19, [.ref 51, .int 0, .ref (53 + hv.toInt.toNat)], [.int (-1), .int v3, .int 7, .ref (53 + hv.toInt.toNat)], h)) rfl ?_
  refine hp_cne (ix := v3.toInt) (iy := (-1)) rfl rfl rfl (fun z5 => ?_) (fun z5 => ?_)
  · refine qm_Rp.go 1 (c' := (42, [.ref 51, .int 0, .ref (53 + hv.toInt.toNat)], [.ref 51, .int 7, .ref (53 + hv.toInt.toNat)], h)) rfl ?_
    refine hp_getr rfl (hH.1 51 (14, 13) rfl) rfl (hH.2 51 0 (some 28) rfl) ?_
    refine qm_Rp.go 2 (c' := (47, [.ref 51, .int 0, .ref (53 + hv.toInt.toNat)], [.int 0, .ref (53 + hv.toInt.toNat), .ref 28, .int 7, .ref (53 + hv.toInt.toNat)], h)) rfl ?_
    refine hp_ial (v := v3) rfl (row_sh hH (by omega)) q_v3 (fun ia_5 ib_5 => ?_)
    refine qm_Rp.go 2 (c' := (50, [.ref 51, .int 0, .ref (53 + hv.toInt.toNat)], [.int 1, .ref (53 + hv.toInt.toNat), .int v3, .ref 28, .int 7, .ref (53 + hv.toInt.toNat)], h)) rfl ?_
    obtain ⟨v7, q_v7⟩ : ∃ v_, h.2.1 (53 + hv.toInt.toNat) 1 = v_ := ⟨_, rfl⟩
    refine hp_ial (v := v7) rfl (row_sh hH (by omega)) q_v7 (fun ia_7 ib_7 => ?_)
    refine qm_Rp.go 2 (c' := (53, [.ref 51, .int 0, .ref (53 + hv.toInt.toNat)], [.int 2, .ref (53 + hv.toInt.toNat), .int v7, .int v3, .ref 28, .int 7, .ref (53 + hv.toInt.toNat)], h)) rfl ?_
    obtain ⟨v9, q_v9⟩ : ∃ v_, h.2.1 (53 + hv.toInt.toNat) 2 = v_ := ⟨_, rfl⟩
    refine hp_ial (v := v9) rfl (row_sh hH (by omega)) q_v9 (fun ia_9 ib_9 => ?_)
    refine qm_Rp.go 0 (c' := (54, [.ref 51, .int 0, .ref (53 + hv.toInt.toNat)], [.int v9, .int v7, .int v3, .ref 28, .int 7, .ref (53 + hv.toInt.toNat)], h)) rfl ?_
    refine hp_inv (o := 28) (r := [.int 7, .ref (53 + hv.toInt.toNat)]) (as := [.ref 28, .int v3, .int v7, .int v9]) rfl rfl (hH.1 28 (9, 8) rfl) rfl rfl rfl (pz_cload29 (h := h) hH hT2 hi hc hm (fun I11 v12 f_I11 zc_I11 e_v12 => ?_))
    refine qm_Rp.go 0 (c' := (57, [.ref 51, .int 0, .ref (53 + hv.toInt.toNat)], [.int v12, .int 7, .ref (53 + hv.toInt.toNat)], (h.1, I11, h.2.2.1, h.2.2.2))) rfl ?_
    refine hp_ias rfl (row_sh hH (by omega)) (fun ia_12 ib_12 => ?_)
    refine qm_Rp.go 3 (c' := (62, [.ref 51, .int 0, .ref (53 + hv.toInt.toNat)], [.ref 51, .int 6, .ref (53 + hv.toInt.toNat)], (h.1, qm_up I11 (53 + hv.toInt.toNat) 7 v12, h.2.2.1, h.2.2.2))) rfl ?_
    refine hp_geti (v := tk) rfl (hH.1 51 (14, 13) rfl) rfl (show (qm_up I11 (53 + hv.toInt.toNat) 7 v12) 51 8 = _ from ((hk_ot (row_ne (by omega) (by decide)).2).trans ((f_I11 51 rfl 8).trans q_tk))) ?_
    refine qm_Rp.go 0 (c' := (65, [.ref 51, .int 0, .ref (53 + hv.toInt.toNat)], [.int tk, .int 6, .ref (53 + hv.toInt.toNat)], (h.1, qm_up I11 (53 + hv.toInt.toNat) 7 v12, h.2.2.1, h.2.2.2))) rfl ?_
    refine hp_ias rfl (row_sh hH (by omega)) (fun ia_13 ib_13 => ?_)
    refine qm_Rp.go 1 (c' := (67, [.ref 51, .int 0, .ref (53 + hv.toInt.toNat)], [.ref 51], (h.1, qm_up (qm_up I11 (53 + hv.toInt.toNat) 7 v12) (53 + hv.toInt.toNat) 6 tk, h.2.2.1, h.2.2.2))) rfl ?_
    refine hp_getr rfl (hH.1 51 (14, 13) rfl) rfl (hH.2 51 4 (some 94) rfl) ?_
    refine qm_Rp.go 2 (c' := (72, [.ref 51, .int 0, .ref (53 + hv.toInt.toNat)], [.int (-1), .int 0, .ref 94], (h.1, qm_up (qm_up I11 (53 + hv.toInt.toNat) 7 v12) (53 + hv.toInt.toNat) 6 tk, h.2.2.1, h.2.2.2))) rfl ?_
    refine hp_ias rfl (hH.1 94 (0, 2) rfl) (fun ia_14 ib_14 => ?_)
    refine qm_Rp.go 1 (c' := (74, [.ref 51, .int 0, .ref (53 + hv.toInt.toNat)], [.ref 51], (h.1, qm_up (qm_up (qm_up I11 (53 + hv.toInt.toNat) 7 v12) (53 + hv.toInt.toNat) 6 tk) 94 0 (-1), h.2.2.1, h.2.2.2))) rfl ?_
    refine hp_getr rfl (hH.1 51 (14, 13) rfl) rfl (hH.2 51 5 (some 95) rfl) ?_
    refine qm_Rp.go 2 (c' := (79, [.ref 51, .int 0, .ref (53 + hv.toInt.toNat)], [.int 0, .int 0, .ref 95], (h.1, qm_up (qm_up (qm_up I11 (53 + hv.toInt.toNat) 7 v12) (53 + hv.toInt.toNat) 6 tk) 94 0 (-1), h.2.2.1, h.2.2.2))) rfl ?_
    refine hp_ias rfl (hH.1 95 (0, 2) rfl) (fun ia_15 ib_15 => ?_)
    refine qm_Rp.go 1 (c' := (81, [.ref 51, .int 0, .ref (53 + hv.toInt.toNat)], [.ref 51], (h.1, qm_up (qm_up (qm_up (qm_up I11 (53 + hv.toInt.toNat) 7 v12) (53 + hv.toInt.toNat) 6 tk) 94 0 (-1)) 95 0 0, h.2.2.1, h.2.2.2))) rfl ?_
    refine hp_getr rfl (hH.1 51 (14, 13) rfl) rfl (hH.2 51 7 (some 97) rfl) ?_
    refine qm_Rp.go 2 (c' := (86, [.ref 51, .int 0, .ref (53 + hv.toInt.toNat)], [.int 0, .ref 97, .int 0, .ref 97], (h.1, qm_up (qm_up (qm_up (qm_up I11 (53 + hv.toInt.toNat) 7 v12) (53 + hv.toInt.toNat) 6 tk) 94 0 (-1)) 95 0 0, h.2.2.1, h.2.2.2))) rfl ?_
    obtain ⟨v17, q_v17⟩ : ∃ v_, h.2.1 97 0 = v_ := ⟨_, rfl⟩
    refine hp_ial (v := v17) rfl (hH.1 97 (0, 2) rfl) (show (qm_up (qm_up (qm_up (qm_up I11 (53 + hv.toInt.toNat) 7 v12) (53 + hv.toInt.toNat) 6 tk) 94 0 (-1)) 95 0 0) 97 0 = _ from ((hk_ot rfl).trans ((hk_ot rfl).trans ((hk_ot (row_ne (by omega) (by decide)).2).trans ((hk_ot (row_ne (by omega) (by decide)).2).trans ((f_I11 97 rfl 0).trans q_v17)))))) (fun ia_17 ib_17 => ?_)
    refine qm_Rp.go 2 (c' := (89, [.ref 51, .int 0, .ref (53 + hv.toInt.toNat)], [.int (v17 + 1), .int 0, .ref 97], (h.1, qm_up (qm_up (qm_up (qm_up I11 (53 + hv.toInt.toNat) 7 v12) (53 + hv.toInt.toNat) 6 tk) 94 0 (-1)) 95 0 0, h.2.2.1, h.2.2.2))) rfl ?_
    obtain ⟨v19, q_v19⟩ : ∃ v_, (v17 + 1) = v_ := ⟨_, rfl⟩
    rw [q_v19]
    refine hp_ias rfl (hH.1 97 (0, 2) rfl) (fun ia_19 ib_19 => ?_)
    refine qm_Rp.go 0 (c' := (90, [.ref 51, .int 0, .ref (53 + hv.toInt.toNat)], [], (h.1, qm_up (qm_up (qm_up (qm_up (qm_up I11 (53 + hv.toInt.toNat) 7 v12) (53 + hv.toInt.toNat) 6 tk) 94 0 (-1)) 95 0 0) 97 0 v19, h.2.2.1, h.2.2.2))) rfl ?_
    refine qm_Rp.rt (v := none) (h' := (h.1, qm_up (qm_up (qm_up (qm_up (qm_up I11 (53 + hv.toInt.toNat) 7 v12) (53 + hv.toInt.toNat) 6 tk) 94 0 (-1)) 95 0 0) 97 0 v19, h.2.2.1, h.2.2.2)) rfl ?_
    have r_h := hz.2.2 hv.toInt.toNat (by rw [e75, k_n]; omega)
    unfold rwC at r_h
    rw [l168, l169, l170, l171, l172, l173, l174, l175, l176] at r_h
    have s0 : (K 168 hv.toInt.toNat).toInt = 0 := Classical.byContradiction (fun z => by have a := (r_h.2.2.1 z).1; rw [q_v3] at a; omega)
    have k169 : K 169 hv.toInt.toNat = v3 := (r_h.2.1 s0).symm.trans q_v3
    have k170 : K 170 hv.toInt.toNat = v7 := r_h.1.1.symm.trans q_v7
    have k171 : K 171 hv.toInt.toNat = v9 := r_h.1.2.symm.trans q_v9
    have eR : jRe 0 A K hv.toInt.toNat = v12.toInt := by unfold jRe; rw [okb_t s0, k169, k170, k171]; exact e_v12.symm
    have eS : zC (jSh 0 A K hv.toInt.toNat) I11 := by unfold jSh; rw [okb_t s0, k169, k170, k171]; exact zc_I11
    have e := jGo_f (s := 0) (A := A) (K := K) (c := 0) hF.1 hF.2.1 hF.2.2.1 hF.2.2.2
    rw [k_hv, eR, Int32.ofInt_toInt] at e
    have z1 := zJ_row (v := v12) (tk := tk) (zJ_fr hz hj f_I11 (by decide)) (show hv.toInt.toNat < 40 by omega) (show (jLi K 0 172 hv.toInt.toNat).toInt ≠ 0 by rw [l172, i172]; decide)
    have e2 : jFi K 0 hv.toInt.toNat v12 = qm_up (qm_up (qm_up (qm_up (qm_up (qm_up (jLi K 0) 176 hv.toInt.toNat v12) 172 hv.toInt.toNat 2) 175 hv.toInt.toNat tk) 178 0 (-1)) 179 0 0) 181 0 v19 := by rw [jFi_li, k_tk, show K 181 0 = v17 from l181.symm.trans (zc.2.2.2.2.symm.trans q_v17), q_v19]
    have hj1 : ((qm_up (qm_up (qm_up (jLi K 0) 176 hv.toInt.toNat v12) 172 hv.toInt.toNat 2) 175 hv.toInt.toNat tk) 118 75).toInt ≤ 40 := by rw [up_o (show (118 : Nat) ≠ 175 by decide), up_o (show (118 : Nat) ≠ 172 by decide), up_o (show (118 : Nat) ≠ 176 by decide)]; exact hj
    have z2 := zJ_cr (o := 94) (o' := 178) (c := 0) (v := -1) (by decide) z1 hj1
    have z3 := zJ_cr (o := 95) (o' := 179) (c := 0) (v := 0) (by decide) z2 (by rw [up_o (show (118 : Nat) ≠ 178 by decide)]; exact hj1)
    have z4 := zJ_cr (o := 97) (o' := 181) (c := 0) (v := v19) (by decide) z3 (by rw [up_o (show (118 : Nat) ≠ 179 by decide), up_o (show (118 : Nat) ≠ 178 by decide)]; exact hj1)
    exact k (qm_up (qm_up (qm_up (qm_up (qm_up I11 (53 + hv.toInt.toNat) 7 v12) (53 + hv.toInt.toNat) 6 tk) 94 0 (-1)) 95 0 0) 97 0 v19) (fun o ho ho2 i => ((hk_on (by omega)).trans ((hk_on (by omega)).trans ((hk_on (by omega)).trans ((hk_on (by omega)).trans ((hk_on (by omega)).trans (f_I11 o ho2 i))))))) (by rw [e]; exact zC_j eS (fun o ho i => ((hk_on (by omega)).trans ((hk_on (by omega)).trans ((hk_on (by omega)).trans ((hk_on (by omega)).trans ((hk_on (by omega)).trans rfl))))))) (by rw [e]; show zJ (jFi K 0 hv.toInt.toNat v12) _; rw [e2]; exact z4)
  · refine qm_Rp.go 1 (c' := (23, [.ref 51, .int 0, .ref (53 + hv.toInt.toNat)], [.ref 51, .int 7, .ref (53 + hv.toInt.toNat)], h)) rfl ?_
    refine hp_getr rfl (hH.1 51 (14, 13) rfl) rfl (hH.2 51 0 (some 28) rfl) ?_
    refine qm_Rp.go 2 (c' := (28, [.ref 51, .int 0, .ref (53 + hv.toInt.toNat)], [.int 1, .ref (53 + hv.toInt.toNat), .ref 28, .int 7, .ref (53 + hv.toInt.toNat)], h)) rfl ?_
    obtain ⟨v21, q_v21⟩ : ∃ v_, h.2.1 (53 + hv.toInt.toNat) 1 = v_ := ⟨_, rfl⟩
    refine hp_ial (v := v21) rfl (row_sh hH (by omega)) q_v21 (fun ia_21 ib_21 => ?_)
    refine qm_Rp.go 2 (c' := (31, [.ref 51, .int 0, .ref (53 + hv.toInt.toNat)], [.int 2, .ref (53 + hv.toInt.toNat), .int v21, .ref 28, .int 7, .ref (53 + hv.toInt.toNat)], h)) rfl ?_
    obtain ⟨v23, q_v23⟩ : ∃ v_, h.2.1 (53 + hv.toInt.toNat) 2 = v_ := ⟨_, rfl⟩
    refine hp_ial (v := v23) rfl (row_sh hH (by omega)) q_v23 (fun ia_23 ib_23 => ?_)
    refine qm_Rp.go 2 (c' := (34, [.ref 51, .int 0, .ref (53 + hv.toInt.toNat)], [.int 3, .ref (53 + hv.toInt.toNat), .int v23, .int v21, .ref 28, .int 7, .ref (53 + hv.toInt.toNat)], h)) rfl ?_
    obtain ⟨v25, q_v25⟩ : ∃ v_, h.2.1 (53 + hv.toInt.toNat) 3 = v_ := ⟨_, rfl⟩
    refine hp_ial (v := v25) rfl (row_sh hH (by omega)) q_v25 (fun ia_25 ib_25 => ?_)
    refine qm_Rp.go 0 (c' := (35, [.ref 51, .int 0, .ref (53 + hv.toInt.toNat)], [.int v25, .int v23, .int v21, .ref 28, .int 7, .ref (53 + hv.toInt.toNat)], h)) rfl ?_
    refine hp_inv (o := 28) (r := [.int 7, .ref (53 + hv.toInt.toNat)]) (as := [.ref 28, .int v21, .int v23, .int v25]) rfl rfl (hH.1 28 (9, 8) rfl) rfl rfl rfl (pz_cunl29 (h := h) hH hT2 hi hc hm (fun I27 v28 f_I27 zc_I27 e_v28 => ?_))
    refine qm_Rp.go 1 (c' := (57, [.ref 51, .int 0, .ref (53 + hv.toInt.toNat)], [.int v28, .int 7, .ref (53 + hv.toInt.toNat)], (h.1, I27, h.2.2.1, h.2.2.2))) rfl ?_
    refine hp_ias rfl (row_sh hH (by omega)) (fun ia_28 ib_28 => ?_)
    refine qm_Rp.go 3 (c' := (62, [.ref 51, .int 0, .ref (53 + hv.toInt.toNat)], [.ref 51, .int 6, .ref (53 + hv.toInt.toNat)], (h.1, qm_up I27 (53 + hv.toInt.toNat) 7 v28, h.2.2.1, h.2.2.2))) rfl ?_
    refine hp_geti (v := tk) rfl (hH.1 51 (14, 13) rfl) rfl (show (qm_up I27 (53 + hv.toInt.toNat) 7 v28) 51 8 = _ from ((hk_ot (row_ne (by omega) (by decide)).2).trans ((f_I27 51 rfl 8).trans q_tk))) ?_
    refine qm_Rp.go 0 (c' := (65, [.ref 51, .int 0, .ref (53 + hv.toInt.toNat)], [.int tk, .int 6, .ref (53 + hv.toInt.toNat)], (h.1, qm_up I27 (53 + hv.toInt.toNat) 7 v28, h.2.2.1, h.2.2.2))) rfl ?_
    refine hp_ias rfl (row_sh hH (by omega)) (fun ia_29 ib_29 => ?_)
    refine qm_Rp.go 1 (c' := (67, [.ref 51, .int 0, .ref (53 + hv.toInt.toNat)], [.ref 51], (h.1, qm_up (qm_up I27 (53 + hv.toInt.toNat) 7 v28) (53 + hv.toInt.toNat) 6 tk, h.2.2.1, h.2.2.2))) rfl ?_
    refine hp_getr rfl (hH.1 51 (14, 13) rfl) rfl (hH.2 51 4 (some 94) rfl) ?_
    refine qm_Rp.go 2 (c' := (72, [.ref 51, .int 0, .ref (53 + hv.toInt.toNat)], [.int (-1), .int 0, .ref 94], (h.1, qm_up (qm_up I27 (53 + hv.toInt.toNat) 7 v28) (53 + hv.toInt.toNat) 6 tk, h.2.2.1, h.2.2.2))) rfl ?_
    refine hp_ias rfl (hH.1 94 (0, 2) rfl) (fun ia_30 ib_30 => ?_)
    refine qm_Rp.go 1 (c' := (74, [.ref 51, .int 0, .ref (53 + hv.toInt.toNat)], [.ref 51], (h.1, qm_up (qm_up (qm_up I27 (53 + hv.toInt.toNat) 7 v28) (53 + hv.toInt.toNat) 6 tk) 94 0 (-1), h.2.2.1, h.2.2.2))) rfl ?_
    refine hp_getr rfl (hH.1 51 (14, 13) rfl) rfl (hH.2 51 5 (some 95) rfl) ?_
    refine qm_Rp.go 2 (c' := (79, [.ref 51, .int 0, .ref (53 + hv.toInt.toNat)], [.int 0, .int 0, .ref 95], (h.1, qm_up (qm_up (qm_up I27 (53 + hv.toInt.toNat) 7 v28) (53 + hv.toInt.toNat) 6 tk) 94 0 (-1), h.2.2.1, h.2.2.2))) rfl ?_
    refine hp_ias rfl (hH.1 95 (0, 2) rfl) (fun ia_31 ib_31 => ?_)
    refine qm_Rp.go 1 (c' := (81, [.ref 51, .int 0, .ref (53 + hv.toInt.toNat)], [.ref 51], (h.1, qm_up (qm_up (qm_up (qm_up I27 (53 + hv.toInt.toNat) 7 v28) (53 + hv.toInt.toNat) 6 tk) 94 0 (-1)) 95 0 0, h.2.2.1, h.2.2.2))) rfl ?_
    refine hp_getr rfl (hH.1 51 (14, 13) rfl) rfl (hH.2 51 7 (some 97) rfl) ?_
    refine qm_Rp.go 2 (c' := (86, [.ref 51, .int 0, .ref (53 + hv.toInt.toNat)], [.int 0, .ref 97, .int 0, .ref 97], (h.1, qm_up (qm_up (qm_up (qm_up I27 (53 + hv.toInt.toNat) 7 v28) (53 + hv.toInt.toNat) 6 tk) 94 0 (-1)) 95 0 0, h.2.2.1, h.2.2.2))) rfl ?_
    obtain ⟨v33, q_v33⟩ : ∃ v_, h.2.1 97 0 = v_ := ⟨_, rfl⟩
    refine hp_ial (v := v33) rfl (hH.1 97 (0, 2) rfl) (show (qm_up (qm_up (qm_up (qm_up I27 (53 + hv.toInt.toNat) 7 v28) (53 + hv.toInt.toNat) 6 tk) 94 0 (-1)) 95 0 0) 97 0 = _ from ((hk_ot rfl).trans ((hk_ot rfl).trans ((hk_ot (row_ne (by omega) (by decide)).2).trans ((hk_ot (row_ne (by omega) (by decide)).2).trans ((f_I27 97 rfl 0).trans q_v33)))))) (fun ia_33 ib_33 => ?_)
    refine qm_Rp.go 2 (c' := (89, [.ref 51, .int 0, .ref (53 + hv.toInt.toNat)], [.int (v33 + 1), .int 0, .ref 97], (h.1, qm_up (qm_up (qm_up (qm_up I27 (53 + hv.toInt.toNat) 7 v28) (53 + hv.toInt.toNat) 6 tk) 94 0 (-1)) 95 0 0, h.2.2.1, h.2.2.2))) rfl ?_
    obtain ⟨v35, q_v35⟩ : ∃ v_, (v33 + 1) = v_ := ⟨_, rfl⟩
    rw [q_v35]
    refine hp_ias rfl (hH.1 97 (0, 2) rfl) (fun ia_35 ib_35 => ?_)
    refine qm_Rp.go 0 (c' := (90, [.ref 51, .int 0, .ref (53 + hv.toInt.toNat)], [], (h.1, qm_up (qm_up (qm_up (qm_up (qm_up I27 (53 + hv.toInt.toNat) 7 v28) (53 + hv.toInt.toNat) 6 tk) 94 0 (-1)) 95 0 0) 97 0 v35, h.2.2.1, h.2.2.2))) rfl ?_
    refine qm_Rp.rt (v := none) (h' := (h.1, qm_up (qm_up (qm_up (qm_up (qm_up I27 (53 + hv.toInt.toNat) 7 v28) (53 + hv.toInt.toNat) 6 tk) 94 0 (-1)) 95 0 0) 97 0 v35, h.2.2.1, h.2.2.2)) rfl ?_
    have r_h := hz.2.2 hv.toInt.toNat (by rw [e75, k_n]; omega)
    unfold rwC at r_h
    rw [l168, l169, l170, l171, l172, l173, l174, l175, l176] at r_h
    have s0 : (K 168 hv.toInt.toNat).toInt ≠ 0 := fun z => by have a := r_h.2.1 z; rw [q_v3] at a; have b := (jr.2.2.1 z).1; rw [← a] at b; omega
    have k169 : K 169 hv.toInt.toNat = v25 := ((r_h.2.2.1 s0).2).symm.trans q_v25
    have k170 : K 170 hv.toInt.toNat = v21 := r_h.1.1.symm.trans q_v21
    have k171 : K 171 hv.toInt.toNat = v23 := r_h.1.2.symm.trans q_v23
    have eR : jRe 0 A K hv.toInt.toNat = v28.toInt := by unfold jRe; rw [okb_f s0, k169, k170, k171]; exact e_v28.symm
    have eS : zC (jSh 0 A K hv.toInt.toNat) I27 := by unfold jSh; rw [okb_f s0, k169, k170, k171]; exact zc_I27
    have e := jGo_f (s := 0) (A := A) (K := K) (c := 0) hF.1 hF.2.1 hF.2.2.1 hF.2.2.2
    rw [k_hv, eR, Int32.ofInt_toInt] at e
    have z1 := zJ_row (v := v28) (tk := tk) (zJ_fr hz hj f_I27 (by decide)) (show hv.toInt.toNat < 40 by omega) (show (jLi K 0 172 hv.toInt.toNat).toInt ≠ 0 by rw [l172, i172]; decide)
    have e2 : jFi K 0 hv.toInt.toNat v28 = qm_up (qm_up (qm_up (qm_up (qm_up (qm_up (jLi K 0) 176 hv.toInt.toNat v28) 172 hv.toInt.toNat 2) 175 hv.toInt.toNat tk) 178 0 (-1)) 179 0 0) 181 0 v35 := by rw [jFi_li, k_tk, show K 181 0 = v33 from l181.symm.trans (zc.2.2.2.2.symm.trans q_v33), q_v35]
    have hj1 : ((qm_up (qm_up (qm_up (jLi K 0) 176 hv.toInt.toNat v28) 172 hv.toInt.toNat 2) 175 hv.toInt.toNat tk) 118 75).toInt ≤ 40 := by rw [up_o (show (118 : Nat) ≠ 175 by decide), up_o (show (118 : Nat) ≠ 172 by decide), up_o (show (118 : Nat) ≠ 176 by decide)]; exact hj
    have z2 := zJ_cr (o := 94) (o' := 178) (c := 0) (v := -1) (by decide) z1 hj1
    have z3 := zJ_cr (o := 95) (o' := 179) (c := 0) (v := 0) (by decide) z2 (by rw [up_o (show (118 : Nat) ≠ 178 by decide)]; exact hj1)
    have z4 := zJ_cr (o := 97) (o' := 181) (c := 0) (v := v35) (by decide) z3 (by rw [up_o (show (118 : Nat) ≠ 179 by decide), up_o (show (118 : Nat) ≠ 178 by decide)]; exact hj1)
    exact k (qm_up (qm_up (qm_up (qm_up (qm_up I27 (53 + hv.toInt.toNat) 7 v28) (53 + hv.toInt.toNat) 6 tk) 94 0 (-1)) 95 0 0) 97 0 v35) (fun o ho ho2 i => ((hk_on (by omega)).trans ((hk_on (by omega)).trans ((hk_on (by omega)).trans ((hk_on (by omega)).trans ((hk_on (by omega)).trans (f_I27 o ho2 i))))))) (by rw [e]; exact zC_j eS (fun o ho i => ((hk_on (by omega)).trans ((hk_on (by omega)).trans ((hk_on (by omega)).trans ((hk_on (by omega)).trans ((hk_on (by omega)).trans rfl))))))) (by rw [e]; show zJ (jFi K 0 hv.toInt.toNat v28) _; rw [e2]; exact z4)
theorem px_cfin129 {X : Option (Nat × (Nat → Int32))} {Z : Option Value → qm_H → Prop} {h : qm_H} {fu : Nat} (hH : hk_H h) (hT2 : h.2.2.2 28 2 = some 29) {A : Nat → Nat → Int} {K : Nat → Nat → Int32} (hi : zI 0 A) (hc : zC A h.2.1) (hm : zM 29 0 A h.2.1) (hI : jI K) (hF : jFn K 1) (hz : zJ (jLi K 1) h.2.1) (k : ∀ I : Nat → Nat → Int32, (∀ o, (o < 53 ∨ 97 < o) → [11, 12, 13, 14, 16, 17, 28, 36, 37].contains o = false → ∀ i, I o i = h.2.1 o i) → zC (jGo 0 A K 1).1 I → zJ (jGo 0 A K 1).2 I → Z none (h.1, I, h.2.2.1, h.2.2.2)) : qm_Rp fu X cd_210 (qm_ent 3 [.ref 51, .int 1] h) Z := by
  refine qm_Rp.go 0 (c' := (0, [.ref 51, .int 1, .float 0], [], h)) rfl ?_
  have kz0 : (0 : Int32).toInt = 0 := rfl
  have kz1 : (1 : Int32).toInt = 1 := rfl
  have kz2 : (2 : Int32).toInt = 2 := rfl
  have kz3 : (3 : Int32).toInt = 3 := rfl
  have kz4 : (4 : Int32).toInt = 4 := rfl
  have kz5 : (5 : Int32).toInt = 5 := rfl
  have kz6 : (6 : Int32).toInt = 6 := rfl
  have kz7 : (7 : Int32).toInt = 7 := rfl
  have kz8 : (8 : Int32).toInt = 8 := rfl
  have kz9 : (9 : Int32).toInt = 9 := rfl
  have kzm1 : ((-1) : Int32).toInt = (-1) := rfl
  have kzm2 : ((-2) : Int32).toInt = (-2) := rfl
  have kzm3 : ((-3) : Int32).toInt = (-3) := rfl
  have l168 : jLi K 1 168 = K 168 := up_o (show (168 : Nat) ≠ 179 by decide)
  have l169 : jLi K 1 169 = K 169 := up_o (show (169 : Nat) ≠ 179 by decide)
  have l170 : jLi K 1 170 = K 170 := up_o (show (170 : Nat) ≠ 179 by decide)
  have l171 : jLi K 1 171 = K 171 := up_o (show (171 : Nat) ≠ 179 by decide)
  have l172 : jLi K 1 172 = K 172 := up_o (show (172 : Nat) ≠ 179 by decide)
  have l173 : jLi K 1 173 = K 173 := up_o (show (173 : Nat) ≠ 179 by decide)
  have l174 : jLi K 1 174 = K 174 := up_o (show (174 : Nat) ≠ 179 by decide)
  have l175 : jLi K 1 175 = K 175 := up_o (show (175 : Nat) ≠ 179 by decide)
  have l176 : jLi K 1 176 = K 176 := up_o (show (176 : Nat) ≠ 179 by decide)
  have l177 : jLi K 1 177 = K 177 := up_o (show (177 : Nat) ≠ 179 by decide)
  have l178 : jLi K 1 178 = K 178 := up_o (show (178 : Nat) ≠ 179 by decide)
  have l180 : jLi K 1 180 = K 180 := up_o (show (180 : Nat) ≠ 179 by decide)
  have l181 : jLi K 1 181 1 = K 181 1 := congrFun (up_o (show (181 : Nat) ≠ 179 by decide)) 1
  have l118 : jLi K 1 118 = K 118 := up_o (show (118 : Nat) ≠ 179 by decide)
  have e75 : jLi K 1 118 75 = K 118 75 := congrFun l118 75
  have zc := hz.2.1 1 (by decide)
  have ic := jI_has hI (d := 1) (by decide)
  obtain ⟨n, k_n⟩ : ∃ v_, K 118 75 = v_ := ⟨_, rfl⟩
  obtain ⟨hv, q_hv⟩ : ∃ v_, h.2.1 94 1 = v_ := ⟨_, rfl⟩
  have k_hv : K 178 1 = hv := (congrFun l178 1).symm.trans (zc.2.1.symm.trans q_hv)
  obtain ⟨tk, q_tk⟩ : ∃ v_, h.2.1 51 8 = v_ := ⟨_, rfl⟩
  have k_tk : K 118 85 = tk := (congrFun l118 85).symm.trans (hz.1.2.1.symm.trans q_tk)
  have hne : hv.toInt ≠ -1 := by rw [← k_hv]; exact hF.1
  rw [k_hv, k_n] at ic
  have hj : (jLi K 1 118 75).toInt ≤ 40 := by rw [e75, k_n]; exact ic.2.1.2
  have jr := hI.2.2.2 hv.toInt.toNat (by rw [k_n]; omega)
  have i172 : (K 172 hv.toInt.toNat).toInt = 1 := by have w := (hI.2.1 1 (by decide)).resolve_left (fun z => hF.1 z.1); rw [k_hv] at w; exact w.2.1
  refine qm_Rp.go 1 (c' := (1, [.ref 51, .int 1, .float 0], [.ref 51], h)) rfl ?_
  refine hp_getr rfl (hH.1 51 (14, 13) rfl) rfl (hH.2 51 1 (some 52) rfl) ?_
  refine qm_Rp.go 1 (c' := (5, [.ref 51, .int 1, .float 0], [.ref 51, .ref 52], h)) rfl ?_
  refine hp_getr rfl (hH.1 51 (14, 13) rfl) rfl (hH.2 51 4 (some 94) rfl) ?_
  refine qm_Rp.go 1 (c' := (9, [.ref 51, .int 1, .float 0], [.int 1, .ref 94, .ref 52], h)) rfl ?_
  refine hp_ial (v := hv) rfl (hH.1 94 (0, 2) rfl) q_hv (fun ia_0 ib_0 => ?_)
  refine qm_Rp.go 0 (c' := (10, [.ref 51, .int 1, .float 0], [.int hv, .ref 52], h)) rfl ?_
  refine hp_aal rfl (hH.1 52 (4, 40) rfl) (row_ref hH (by omega)) (fun ia_1 ib_1 => ?_)
  refine qm_Rp.go 5 (c' := (17, [.ref 51, .int 1, .ref (53 + hv.toInt.toNat)], [.int 0, .ref (53 + hv.toInt.toNat), .int 7, .ref (53 + hv.toInt.toNat)], h)) rfl ?_
  obtain ⟨v3, q_v3⟩ : ∃ v_, h.2.1 (53 + hv.toInt.toNat) 0 = v_ := ⟨_, rfl⟩
  refine hp_ial (v := v3) rfl (row_sh hH (by omega)) q_v3 (fun ia_3 ib_3 => ?_)
  refine qm_Rp.go 1 (c' := (19, [.ref 51, .int 1, .ref (53 + hv.toInt.toNat)], [.int (-1), .int v3, .int 7, .ref (53 + hv.toInt.toNat)], h)) rfl ?_
  refine hp_cne (ix := v3.toInt) (iy := (-1)) rfl rfl rfl (fun z5 => ?_) (fun z5 => ?_)
  · refine qm_Rp.go 1 (c' := (42, [.ref 51, .int 1, .ref (53 + hv.toInt.toNat)], [.ref 51, .int 7, .ref (53 + hv.toInt.toNat)], h)) rfl ?_
    refine hp_getr rfl (hH.1 51 (14, 13) rfl) rfl (hH.2 51 0 (some 28) rfl) ?_
    refine qm_Rp.go 2 (c' := (47, [.ref 51, .int 1, .ref (53 + hv.toInt.toNat)], [.int 0, .ref (53 + hv.toInt.toNat), .ref 28, .int 7, .ref (53 + hv.toInt.toNat)], h)) rfl ?_
    refine hp_ial (v := v3) rfl (row_sh hH (by omega)) q_v3 (fun ia_5 ib_5 => ?_)
    refine qm_Rp.go 2 (c' := (50, [.ref 51, .int 1, .ref (53 + hv.toInt.toNat)], [.int 1, .ref (53 + hv.toInt.toNat), .int v3, .ref 28, .int 7, .ref (53 + hv.toInt.toNat)], h)) rfl ?_
    obtain ⟨v7, q_v7⟩ : ∃ v_, h.2.1 (53 + hv.toInt.toNat) 1 = v_ := ⟨_, rfl⟩
    refine hp_ial (v := v7) rfl (row_sh hH (by omega)) q_v7 (fun ia_7 ib_7 => ?_)
    refine qm_Rp.go 2 (c' := (53, [.ref 51, .int 1, .ref (53 + hv.toInt.toNat)], [.int 2, .ref (53 + hv.toInt.toNat), .int v7, .int v3, .ref 28, .int 7, .ref (53 + hv.toInt.toNat)], h)) rfl ?_
    obtain ⟨v9, q_v9⟩ : ∃ v_, h.2.1 (53 + hv.toInt.toNat) 2 = v_ := ⟨_, rfl⟩
    refine hp_ial (v := v9) rfl (row_sh hH (by omega)) q_v9 (fun ia_9 ib_9 => ?_)
    refine qm_Rp.go 0 (c' := (54, [.ref 51, .int 1, .ref (53 + hv.toInt.toNat)], [.int v9, .int v7, .int v3, .ref 28, .int 7, .ref (53 + hv.toInt.toNat)], h)) rfl ?_
    refine hp_inv (o := 28) (r := [.int 7, .ref (53 + hv.toInt.toNat)]) (as := [.ref 28, .int v3, .int v7, .int v9]) rfl rfl (hH.1 28 (9, 8) rfl) rfl rfl rfl (pz_cload29 (h := h) hH hT2 hi hc hm (fun I11 v12 f_I11 zc_I11 e_v12 => ?_))
    refine qm_Rp.go 0 (c' := (57, [.ref 51, .int 1, .ref (53 + hv.toInt.toNat)], [.int v12, .int 7, .ref (53 + hv.toInt.toNat)], (h.1, I11, h.2.2.1, h.2.2.2))) rfl ?_
    refine hp_ias rfl (row_sh hH (by omega)) (fun ia_12 ib_12 => ?_)
    refine qm_Rp.go 3 (c' := (62, [.ref 51, .int 1, .ref (53 + hv.toInt.toNat)], [.ref 51, .int 6, .ref (53 + hv.toInt.toNat)], (h.1, qm_up I11 (53 + hv.toInt.toNat) 7 v12, h.2.2.1, h.2.2.2))) rfl ?_
    refine hp_geti (v := tk) rfl (hH.1 51 (14, 13) rfl) rfl (show (qm_up I11 (53 + hv.toInt.toNat) 7 v12) 51 8 = _ from ((hk_ot (row_ne (by omega) (by decide)).2).trans ((f_I11 51 rfl 8).trans q_tk))) ?_
    refine qm_Rp.go 0 (c' := (65, [.ref 51, .int 1, .ref (53 + hv.toInt.toNat)], [.int tk, .int 6, .ref (53 + hv.toInt.toNat)], (h.1, qm_up I11 (53 + hv.toInt.toNat) 7 v12, h.2.2.1, h.2.2.2))) rfl ?_
    refine hp_ias rfl (row_sh hH (by omega)) (fun ia_13 ib_13 => ?_)
    refine qm_Rp.go 1 (c' := (67, [.ref 51, .int 1, .ref (53 + hv.toInt.toNat)], [.ref 51], (h.1, qm_up (qm_up I11 (53 + hv.toInt.toNat) 7 v12) (53 + hv.toInt.toNat) 6 tk, h.2.2.1, h.2.2.2))) rfl ?_
    refine hp_getr rfl (hH.1 51 (14, 13) rfl) rfl (hH.2 51 4 (some 94) rfl) ?_
    refine qm_Rp.go 2 (c' := (72, [.ref 51, .int 1, .ref (53 + hv.toInt.toNat)], [.int (-1), .int 1, .ref 94], (h.1, qm_up (qm_up I11 (53 + hv.toInt.toNat) 7 v12) (53 + hv.toInt.toNat) 6 tk, h.2.2.1, h.2.2.2))) rfl ?_
    refine hp_ias rfl (hH.1 94 (0, 2) rfl) (fun ia_14 ib_14 => ?_)
    refine qm_Rp.go 1 (c' := (74, [.ref 51, .int 1, .ref (53 + hv.toInt.toNat)], [.ref 51], (h.1, qm_up (qm_up (qm_up I11 (53 + hv.toInt.toNat) 7 v12) (53 + hv.toInt.toNat) 6 tk) 94 1 (-1), h.2.2.1, h.2.2.2))) rfl ?_
    refine hp_getr rfl (hH.1 51 (14, 13) rfl) rfl (hH.2 51 5 (some 95) rfl) ?_
    refine qm_Rp.go 2 (c' := (79, [.ref 51, .int 1, .ref (53 + hv.toInt.toNat)], [.int 0, .int 1, .ref 95], (h.1, qm_up (qm_up (qm_up I11 (53 + hv.toInt.toNat) 7 v12) (53 + hv.toInt.toNat) 6 tk) 94 1 (-1), h.2.2.1, h.2.2.2))) rfl ?_
    refine hp_ias rfl (hH.1 95 (0, 2) rfl) (fun ia_15 ib_15 => ?_)
    refine qm_Rp.go 1 (c' := (81, [.ref 51, .int 1, .ref (53 + hv.toInt.toNat)], [.ref 51], (h.1, qm_up (qm_up (qm_up (qm_up I11 (53 + hv.toInt.toNat) 7 v12) (53 + hv.toInt.toNat) 6 tk) 94 1 (-1)) 95 1 0, h.2.2.1, h.2.2.2))) rfl ?_
    refine hp_getr rfl (hH.1 51 (14, 13) rfl) rfl (hH.2 51 7 (some 97) rfl) ?_
    refine qm_Rp.go 2 (c' := (86, [.ref 51, .int 1, .ref (53 + hv.toInt.toNat)], [.int 1, .ref 97, .int 1, .ref 97], (h.1, qm_up (qm_up (qm_up (qm_up I11 (53 + hv.toInt.toNat) 7 v12) (53 + hv.toInt.toNat) 6 tk) 94 1 (-1)) 95 1 0, h.2.2.1, h.2.2.2))) rfl ?_
    obtain ⟨v17, q_v17⟩ : ∃ v_, h.2.1 97 1 = v_ := ⟨_, rfl⟩
    refine hp_ial (v := v17) rfl (hH.1 97 (0, 2) rfl) (show (qm_up (qm_up (qm_up (qm_up I11 (53 + hv.toInt.toNat) 7 v12) (53 + hv.toInt.toNat) 6 tk) 94 1 (-1)) 95 1 0) 97 1 = _ from ((hk_ot rfl).trans ((hk_ot rfl).trans ((hk_ot (row_ne (by omega) (by decide)).2).trans ((hk_ot (row_ne (by omega) (by decide)).2).trans ((f_I11 97 rfl 1).trans q_v17)))))) (fun ia_17 ib_17 => ?_)
    refine qm_Rp.go 2 (c' := (89, [.ref 51, .int 1, .ref (53 + hv.toInt.toNat)], [.int (v17 + 1), .int 1, .ref 97], (h.1, qm_up (qm_up (qm_up (qm_up I11 (53 + hv.toInt.toNat) 7 v12) (53 + hv.toInt.toNat) 6 tk) 94 1 (-1)) 95 1 0, h.2.2.1, h.2.2.2))) rfl ?_
    obtain ⟨v19, q_v19⟩ : ∃ v_, (v17 + 1) = v_ := ⟨_, rfl⟩
    rw [q_v19]
    refine hp_ias rfl (hH.1 97 (0, 2) rfl) (fun ia_19 ib_19 => ?_)
    refine qm_Rp.go 0 (c' := (90, [.ref 51, .int 1, .ref (53 + hv.toInt.toNat)], [], (h.1, qm_up (qm_up (qm_up (qm_up (qm_up I11 (53 + hv.toInt.toNat) 7 v12) (53 + hv.toInt.toNat) 6 tk) 94 1 (-1)) 95 1 0) 97 1 v19, h.2.2.1, h.2.2.2))) rfl ?_
    refine qm_Rp.rt (v := none) (h' := (h.1, qm_up (qm_up (qm_up (qm_up (qm_up I11 (53 + hv.toInt.toNat) 7 v12) (53 + hv.toInt.toNat) 6 tk) 94 1 (-1)) 95 1 0) 97 1 v19, h.2.2.1, h.2.2.2)) rfl ?_
    have r_h := hz.2.2 hv.toInt.toNat (by rw [e75, k_n]; omega)
    unfold rwC at r_h
    rw [l168, l169, l170, l171, l172, l173, l174, l175, l176] at r_h
    have s0 : (K 168 hv.toInt.toNat).toInt = 0 := Classical.byContradiction (fun z => by have a := (r_h.2.2.1 z).1; rw [q_v3] at a; omega)
    have k169 : K 169 hv.toInt.toNat = v3 := (r_h.2.1 s0).symm.trans q_v3
    have k170 : K 170 hv.toInt.toNat = v7 := r_h.1.1.symm.trans q_v7
    have k171 : K 171 hv.toInt.toNat = v9 := r_h.1.2.symm.trans q_v9
    have eR : jRe 0 A K hv.toInt.toNat = v12.toInt := by unfold jRe; rw [okb_t s0, k169, k170, k171]; exact e_v12.symm
    have eS : zC (jSh 0 A K hv.toInt.toNat) I11 := by unfold jSh; rw [okb_t s0, k169, k170, k171]; exact zc_I11
    have e := jGo_f (s := 0) (A := A) (K := K) (c := 1) hF.1 hF.2.1 hF.2.2.1 hF.2.2.2
    rw [k_hv, eR, Int32.ofInt_toInt] at e
    have z1 := zJ_row (v := v12) (tk := tk) (zJ_fr hz hj f_I11 (by decide)) (show hv.toInt.toNat < 40 by omega) (show (jLi K 1 172 hv.toInt.toNat).toInt ≠ 0 by rw [l172, i172]; decide)
    have e2 : jFi K 1 hv.toInt.toNat v12 = qm_up (qm_up (qm_up (qm_up (qm_up (qm_up (jLi K 1) 176 hv.toInt.toNat v12) 172 hv.toInt.toNat 2) 175 hv.toInt.toNat tk) 178 1 (-1)) 179 1 0) 181 1 v19 := by rw [jFi_li, k_tk, show K 181 1 = v17 from l181.symm.trans (zc.2.2.2.2.symm.trans q_v17), q_v19]
    have hj1 : ((qm_up (qm_up (qm_up (jLi K 1) 176 hv.toInt.toNat v12) 172 hv.toInt.toNat 2) 175 hv.toInt.toNat tk) 118 75).toInt ≤ 40 := by rw [up_o (show (118 : Nat) ≠ 175 by decide), up_o (show (118 : Nat) ≠ 172 by decide), up_o (show (118 : Nat) ≠ 176 by decide)]; exact hj
    have z2 := zJ_cr (o := 94) (o' := 178) (c := 1) (v := -1) (by decide) z1 hj1
    have z3 := zJ_cr (o := 95) (o' := 179) (c := 1) (v := 0) (by decide) z2 (by rw [up_o (show (118 : Nat) ≠ 178 by decide)]; exact hj1)
    have z4 := zJ_cr (o := 97) (o' := 181) (c := 1) (v := v19) (by decide) z3 (by rw [up_o (show (118 : Nat) ≠ 179 by decide), up_o (show (118 : Nat) ≠ 178 by decide)]; exact hj1)
    exact k (qm_up (qm_up (qm_up (qm_up (qm_up I11 (53 + hv.toInt.toNat) 7 v12) (53 + hv.toInt.toNat) 6 tk) 94 1 (-1)) 95 1 0) 97 1 v19) (fun o ho ho2 i => ((hk_on (by omega)).trans ((hk_on (by omega)).trans ((hk_on (by omega)).trans ((hk_on (by omega)).trans ((hk_on (by omega)).trans (f_I11 o ho2 i))))))) (by rw [e]; exact zC_j eS (fun o ho i => ((hk_on (by omega)).trans ((hk_on (by omega)).trans ((hk_on (by omega)).trans ((hk_on (by omega)).trans ((hk_on (by omega)).trans rfl))))))) (by rw [e]; show zJ (jFi K 1 hv.toInt.toNat v12) _; rw [e2]; exact z4)
  · refine qm_Rp.go 1 (c' := (23, [.ref 51, .int 1, .ref (53 + hv.toInt.toNat)], [.ref 51, .int 7, .ref (53 + hv.toInt.toNat)], h)) rfl ?_
    refine hp_getr rfl (hH.1 51 (14, 13) rfl) rfl (hH.2 51 0 (some 28) rfl) ?_
    refine qm_Rp.go 2 (c' := (28, [.ref 51, .int 1, .ref (53 + hv.toInt.toNat)], [.int 1, .ref (53 + hv.toInt.toNat), .ref 28, .int 7, .ref (53 + hv.toInt.toNat)], h)) rfl ?_
    obtain ⟨v21, q_v21⟩ : ∃ v_, h.2.1 (53 + hv.toInt.toNat) 1 = v_ := ⟨_, rfl⟩
    refine hp_ial (v := v21) rfl (row_sh hH (by omega)) q_v21 (fun ia_21 ib_21 => ?_)
    refine qm_Rp.go 2 (c' := (31, [.ref 51, .int 1, .ref (53 + hv.toInt.toNat)], [.int 2, .ref (53 + hv.toInt.toNat), .int v21, .ref 28, .int 7, .ref (53 + hv.toInt.toNat)], h)) rfl ?_
    obtain ⟨v23, q_v23⟩ : ∃ v_, h.2.1 (53 + hv.toInt.toNat) 2 = v_ := ⟨_, rfl⟩
    refine hp_ial (v := v23) rfl (row_sh hH (by omega)) q_v23 (fun ia_23 ib_23 => ?_)
    refine qm_Rp.go 2 (c' := (34, [.ref 51, .int 1, .ref (53 + hv.toInt.toNat)], [.int 3, .ref (53 + hv.toInt.toNat), .int v23, .int v21, .ref 28, .int 7, .ref (53 + hv.toInt.toNat)], h)) rfl ?_
    obtain ⟨v25, q_v25⟩ : ∃ v_, h.2.1 (53 + hv.toInt.toNat) 3 = v_ := ⟨_, rfl⟩
    refine hp_ial (v := v25) rfl (row_sh hH (by omega)) q_v25 (fun ia_25 ib_25 => ?_)
    refine qm_Rp.go 0 (c' := (35, [.ref 51, .int 1, .ref (53 + hv.toInt.toNat)], [.int v25, .int v23, .int v21, .ref 28, .int 7, .ref (53 + hv.toInt.toNat)], h)) rfl ?_
    refine hp_inv (o := 28) (r := [.int 7, .ref (53 + hv.toInt.toNat)]) (as := [.ref 28, .int v21, .int v23, .int v25]) rfl rfl (hH.1 28 (9, 8) rfl) rfl rfl rfl (pz_cunl29 (h := h) hH hT2 hi hc hm (fun I27 v28 f_I27 zc_I27 e_v28 => ?_))
    refine qm_Rp.go 1 (c' := (57, [.ref 51, .int 1, .ref (53 + hv.toInt.toNat)], [.int v28, .int 7, .ref (53 + hv.toInt.toNat)], (h.1, I27, h.2.2.1, h.2.2.2))) rfl ?_
    refine hp_ias rfl (row_sh hH (by omega)) (fun ia_28 ib_28 => ?_)
    refine qm_Rp.go 3 (c' := (62, [.ref 51, .int 1, .ref (53 + hv.toInt.toNat)], [.ref 51, .int 6, .ref (53 + hv.toInt.toNat)], (h.1, qm_up I27 (53 + hv.toInt.toNat) 7 v28, h.2.2.1, h.2.2.2))) rfl ?_
    refine hp_geti (v := tk) rfl (hH.1 51 (14, 13) rfl) rfl (show (qm_up I27 (53 + hv.toInt.toNat) 7 v28) 51 8 = _ from ((hk_ot (row_ne (by omega) (by decide)).2).trans ((f_I27 51 rfl 8).trans q_tk))) ?_
    refine qm_Rp.go 0 (c' := (65, [.ref 51, .int 1, .ref (53 + hv.toInt.toNat)], [.int tk, .int 6, .ref (53 + hv.toInt.toNat)], (h.1, qm_up I27 (53 + hv.toInt.toNat) 7 v28, h.2.2.1, h.2.2.2))) rfl ?_
    refine hp_ias rfl (row_sh hH (by omega)) (fun ia_29 ib_29 => ?_)
    refine qm_Rp.go 1 (c' := (67, [.ref 51, .int 1, .ref (53 + hv.toInt.toNat)], [.ref 51], (h.1, qm_up (qm_up I27 (53 + hv.toInt.toNat) 7 v28) (53 + hv.toInt.toNat) 6 tk, h.2.2.1, h.2.2.2))) rfl ?_
    refine hp_getr rfl (hH.1 51 (14, 13) rfl) rfl (hH.2 51 4 (some 94) rfl) ?_
    refine qm_Rp.go 2 (c' := (72, [.ref 51, .int 1, .ref (53 + hv.toInt.toNat)], [.int (-1), .int 1, .ref 94], (h.1, qm_up (qm_up I27 (53 + hv.toInt.toNat) 7 v28) (53 + hv.toInt.toNat) 6 tk, h.2.2.1, h.2.2.2))) rfl ?_
    refine hp_ias rfl (hH.1 94 (0, 2) rfl) (fun ia_30 ib_30 => ?_)
    refine qm_Rp.go 1 (c' := (74, [.ref 51, .int 1, .ref (53 + hv.toInt.toNat)], [.ref 51], (h.1, qm_up (qm_up (qm_up I27 (53 + hv.toInt.toNat) 7 v28) (53 + hv.toInt.toNat) 6 tk) 94 1 (-1), h.2.2.1, h.2.2.2))) rfl ?_
    refine hp_getr rfl (hH.1 51 (14, 13) rfl) rfl (hH.2 51 5 (some 95) rfl) ?_
    refine qm_Rp.go 2 (c' := (79, [.ref 51, .int 1, .ref (53 + hv.toInt.toNat)], [.int 0, .int 1, .ref 95], (h.1, qm_up (qm_up (qm_up I27 (53 + hv.toInt.toNat) 7 v28) (53 + hv.toInt.toNat) 6 tk) 94 1 (-1), h.2.2.1, h.2.2.2))) rfl ?_
    refine hp_ias rfl (hH.1 95 (0, 2) rfl) (fun ia_31 ib_31 => ?_)
    refine qm_Rp.go 1 (c' := (81, [.ref 51, .int 1, .ref (53 + hv.toInt.toNat)], [.ref 51], (h.1, qm_up (qm_up (qm_up (qm_up I27 (53 + hv.toInt.toNat) 7 v28) (53 + hv.toInt.toNat) 6 tk) 94 1 (-1)) 95 1 0, h.2.2.1, h.2.2.2))) rfl ?_
    refine hp_getr rfl (hH.1 51 (14, 13) rfl) rfl (hH.2 51 7 (some 97) rfl) ?_
    refine qm_Rp.go 2 (c' := (86, [.ref 51, .int 1, .ref (53 + hv.toInt.toNat)], [.int 1, .ref 97, .int 1, .ref 97], (h.1, qm_up (qm_up (qm_up (qm_up I27 (53 + hv.toInt.toNat) 7 v28) (53 + hv.toInt.toNat) 6 tk) 94 1 (-1)) 95 1 0, h.2.2.1, h.2.2.2))) rfl ?_
    obtain ⟨v33, q_v33⟩ : ∃ v_, h.2.1 97 1 = v_ := ⟨_, rfl⟩
    refine hp_ial (v := v33) rfl (hH.1 97 (0, 2) rfl) (show (qm_up (qm_up (qm_up (qm_up I27 (53 + hv.toInt.toNat) 7 v28) (53 + hv.toInt.toNat) 6 tk) 94 1 (-1)) 95 1 0) 97 1 = _ from ((hk_ot rfl).trans ((hk_ot rfl).trans ((hk_ot (row_ne (by omega) (by decide)).2).trans ((hk_ot (row_ne (by omega) (by decide)).2).trans ((f_I27 97 rfl 1).trans q_v33)))))) (fun ia_33 ib_33 => ?_)
    refine qm_Rp.go 2 (c' := (89, [.ref 51, .int 1, .ref (53 + hv.toInt.toNat)], [.int (v33 + 1), .int 1, .ref 97], (h.1, qm_up (qm_up (qm_up (qm_up I27 (53 + hv.toInt.toNat) 7 v28) (53 + hv.toInt.toNat) 6 tk) 94 1 (-1)) 95 1 0, h.2.2.1, h.2.2.2))) rfl ?_
    obtain ⟨v35, q_v35⟩ : ∃ v_, (v33 + 1) = v_ := ⟨_, rfl⟩
    rw [q_v35]
    refine hp_ias rfl (hH.1 97 (0, 2) rfl) (fun ia_35 ib_35 => ?_)
    refine qm_Rp.go 0 (c' := (90, [.ref 51, .int 1, .ref (53 + hv.toInt.toNat)], [], (h.1, qm_up (qm_up (qm_up (qm_up (qm_up I27 (53 + hv.toInt.toNat) 7 v28) (53 + hv.toInt.toNat) 6 tk) 94 1 (-1)) 95 1 0) 97 1 v35, h.2.2.1, h.2.2.2))) rfl ?_
    refine qm_Rp.rt (v := none) (h' := (h.1, qm_up (qm_up (qm_up (qm_up (qm_up I27 (53 + hv.toInt.toNat) 7 v28) (53 + hv.toInt.toNat) 6 tk) 94 1 (-1)) 95 1 0) 97 1 v35, h.2.2.1, h.2.2.2)) rfl ?_
    have r_h := hz.2.2 hv.toInt.toNat (by rw [e75, k_n]; omega)
    unfold rwC at r_h
    rw [l168, l169, l170, l171, l172, l173, l174, l175, l176] at r_h
    have s0 : (K 168 hv.toInt.toNat).toInt ≠ 0 := fun z => by have a := r_h.2.1 z; rw [q_v3] at a; have b := (jr.2.2.1 z).1; rw [← a] at b; omega
    have k169 : K 169 hv.toInt.toNat = v25 := ((r_h.2.2.1 s0).2).symm.trans q_v25
    have k170 : K 170 hv.toInt.toNat = v21 := r_h.1.1.symm.trans q_v21
    have k171 : K 171 hv.toInt.toNat = v23 := r_h.1.2.symm.trans q_v23
    have eR : jRe 0 A K hv.toInt.toNat = v28.toInt := by unfold jRe; rw [okb_f s0, k169, k170, k171]; exact e_v28.symm
    have eS : zC (jSh 0 A K hv.toInt.toNat) I27 := by unfold jSh; rw [okb_f s0, k169, k170, k171]; exact zc_I27
    have e := jGo_f (s := 0) (A := A) (K := K) (c := 1) hF.1 hF.2.1 hF.2.2.1 hF.2.2.2
    rw [k_hv, eR, Int32.ofInt_toInt] at e
    have z1 := zJ_row (v := v28) (tk := tk) (zJ_fr hz hj f_I27 (by decide)) (show hv.toInt.toNat < 40 by omega) (show (jLi K 1 172 hv.toInt.toNat).toInt ≠ 0 by rw [l172, i172]; decide)
    have e2 : jFi K 1 hv.toInt.toNat v28 = qm_up (qm_up (qm_up (qm_up (qm_up (qm_up (jLi K 1) 176 hv.toInt.toNat v28) 172 hv.toInt.toNat 2) 175 hv.toInt.toNat tk) 178 1 (-1)) 179 1 0) 181 1 v35 := by rw [jFi_li, k_tk, show K 181 1 = v33 from l181.symm.trans (zc.2.2.2.2.symm.trans q_v33), q_v35]
    have hj1 : ((qm_up (qm_up (qm_up (jLi K 1) 176 hv.toInt.toNat v28) 172 hv.toInt.toNat 2) 175 hv.toInt.toNat tk) 118 75).toInt ≤ 40 := by rw [up_o (show (118 : Nat) ≠ 175 by decide), up_o (show (118 : Nat) ≠ 172 by decide), up_o (show (118 : Nat) ≠ 176 by decide)]; exact hj
    have z2 := zJ_cr (o := 94) (o' := 178) (c := 1) (v := -1) (by decide) z1 hj1
    have z3 := zJ_cr (o := 95) (o' := 179) (c := 1) (v := 0) (by decide) z2 (by rw [up_o (show (118 : Nat) ≠ 178 by decide)]; exact hj1)
    have z4 := zJ_cr (o := 97) (o' := 181) (c := 1) (v := v35) (by decide) z3 (by rw [up_o (show (118 : Nat) ≠ 179 by decide), up_o (show (118 : Nat) ≠ 178 by decide)]; exact hj1)
    exact k (qm_up (qm_up (qm_up (qm_up (qm_up I27 (53 + hv.toInt.toNat) 7 v28) (53 + hv.toInt.toNat) 6 tk) 94 1 (-1)) 95 1 0) 97 1 v35) (fun o ho ho2 i => ((hk_on (by omega)).trans ((hk_on (by omega)).trans ((hk_on (by omega)).trans ((hk_on (by omega)).trans ((hk_on (by omega)).trans (f_I27 o ho2 i))))))) (by rw [e]; exact zC_j eS (fun o ho i => ((hk_on (by omega)).trans ((hk_on (by omega)).trans ((hk_on (by omega)).trans ((hk_on (by omega)).trans ((hk_on (by omega)).trans rfl))))))) (by rw [e]; show zJ (jFi K 1 hv.toInt.toNat v28) _; rw [e2]; exact z4)
theorem px_cfin0111 {X : Option (Nat × (Nat → Int32))} {Z : Option Value → qm_H → Prop} {h : qm_H} {fu : Nat} (hH : hk_H h) (hT2 : h.2.2.2 28 2 = some 111) {A : Nat → Nat → Int} {K : Nat → Nat → Int32} (hi : zI 1 A) (hc : zC A h.2.1) (hm : zM 111 1 A h.2.1) (hI : jI K) (hF : jFn K 0) (hz : zJ (jLi K 0) h.2.1) (k : ∀ I : Nat → Nat → Int32, (∀ o, (o < 53 ∨ 97 < o) → [11, 12, 13, 14, 16, 17, 28, 36, 37].contains o = false → ∀ i, I o i = h.2.1 o i) → zC (jGo 1 A K 0).1 I → zJ (jGo 1 A K 0).2 I → Z none (h.1, I, h.2.2.1, h.2.2.2)) : qm_Rp fu X cd_210 (qm_ent 3 [.ref 51, .int 0] h) Z := by
  refine qm_Rp.go 0 (c' := (0, [.ref 51, .int 0, .float 0], [], h)) rfl ?_
  have kz0 : (0 : Int32).toInt = 0 := rfl
  have kz1 : (1 : Int32).toInt = 1 := rfl
  have kz2 : (2 : Int32).toInt = 2 := rfl
  have kz3 : (3 : Int32).toInt = 3 := rfl
  have kz4 : (4 : Int32).toInt = 4 := rfl
  have kz5 : (5 : Int32).toInt = 5 := rfl
  have kz6 : (6 : Int32).toInt = 6 := rfl
  have kz7 : (7 : Int32).toInt = 7 := rfl
  have kz8 : (8 : Int32).toInt = 8 := rfl
  have kz9 : (9 : Int32).toInt = 9 := rfl
  have kzm1 : ((-1) : Int32).toInt = (-1) := rfl
  have kzm2 : ((-2) : Int32).toInt = (-2) := rfl
  have kzm3 : ((-3) : Int32).toInt = (-3) := rfl
  have l168 : jLi K 0 168 = K 168 := up_o (show (168 : Nat) ≠ 179 by decide)
  have l169 : jLi K 0 169 = K 169 := up_o (show (169 : Nat) ≠ 179 by decide)
  have l170 : jLi K 0 170 = K 170 := up_o (show (170 : Nat) ≠ 179 by decide)
  have l171 : jLi K 0 171 = K 171 := up_o (show (171 : Nat) ≠ 179 by decide)
  have l172 : jLi K 0 172 = K 172 := up_o (show (172 : Nat) ≠ 179 by decide)
  have l173 : jLi K 0 173 = K 173 := up_o (show (173 : Nat) ≠ 179 by decide)
  have l174 : jLi K 0 174 = K 174 := up_o (show (174 : Nat) ≠ 179 by decide)
  have l175 : jLi K 0 175 = K 175 := up_o (show (175 : Nat) ≠ 179 by decide)
  have l176 : jLi K 0 176 = K 176 := up_o (show (176 : Nat) ≠ 179 by decide)
  have l177 : jLi K 0 177 = K 177 := up_o (show (177 : Nat) ≠ 179 by decide)
  have l178 : jLi K 0 178 = K 178 := up_o (show (178 : Nat) ≠ 179 by decide)
  have l180 : jLi K 0 180 = K 180 := up_o (show (180 : Nat) ≠ 179 by decide)
  have l181 : jLi K 0 181 0 = K 181 0 := congrFun (up_o (show (181 : Nat) ≠ 179 by decide)) 0
  have l118 : jLi K 0 118 = K 118 := up_o (show (118 : Nat) ≠ 179 by decide)
  have e75 : jLi K 0 118 75 = K 118 75 := congrFun l118 75
  have zc := hz.2.1 0 (by decide)
  have ic := jI_has hI (d := 0) (by decide)
  obtain ⟨n, k_n⟩ : ∃ v_, K 118 75 = v_ := ⟨_, rfl⟩
  obtain ⟨hv, q_hv⟩ : ∃ v_, h.2.1 94 0 = v_ := ⟨_, rfl⟩
  have k_hv : K 178 0 = hv := (congrFun l178 0).symm.trans (zc.2.1.symm.trans q_hv)
  obtain ⟨tk, q_tk⟩ : ∃ v_, h.2.1 51 8 = v_ := ⟨_, rfl⟩
  have k_tk : K 118 85 = tk := (congrFun l118 85).symm.trans (hz.1.2.1.symm.trans q_tk)
  have hne : hv.toInt ≠ -1 := by rw [← k_hv]; exact hF.1
  rw [k_hv, k_n] at ic
  have hj : (jLi K 0 118 75).toInt ≤ 40 := by rw [e75, k_n]; exact ic.2.1.2
  have jr := hI.2.2.2 hv.toInt.toNat (by rw [k_n]; omega)
  have i172 : (K 172 hv.toInt.toNat).toInt = 1 := by have w := (hI.2.1 0 (by decide)).resolve_left (fun z => hF.1 z.1); rw [k_hv] at w; exact w.2.1
  refine qm_Rp.go 1 (c' := (1, [.ref 51, .int 0, .float 0], [.ref 51], h)) rfl ?_
  refine hp_getr rfl (hH.1 51 (14, 13) rfl) rfl (hH.2 51 1 (some 52) rfl) ?_
  refine qm_Rp.go 1 (c' := (5, [.ref 51, .int 0, .float 0], [.ref 51, .ref 52], h)) rfl ?_
  refine hp_getr rfl (hH.1 51 (14, 13) rfl) rfl (hH.2 51 4 (some 94) rfl) ?_
  refine qm_Rp.go 1 (c' := (9, [.ref 51, .int 0, .float 0], [.int 0, .ref 94, .ref 52], h)) rfl ?_
  refine hp_ial (v := hv) rfl (hH.1 94 (0, 2) rfl) q_hv (fun ia_0 ib_0 => ?_)
  refine qm_Rp.go 0 (c' := (10, [.ref 51, .int 0, .float 0], [.int hv, .ref 52], h)) rfl ?_
  refine hp_aal rfl (hH.1 52 (4, 40) rfl) (row_ref hH (by omega)) (fun ia_1 ib_1 => ?_)
  refine qm_Rp.go 5 (c' := (17, [.ref 51, .int 0, .ref (53 + hv.toInt.toNat)], [.int 0, .ref (53 + hv.toInt.toNat), .int 7, .ref (53 + hv.toInt.toNat)], h)) rfl ?_
  obtain ⟨v3, q_v3⟩ : ∃ v_, h.2.1 (53 + hv.toInt.toNat) 0 = v_ := ⟨_, rfl⟩
  refine hp_ial (v := v3) rfl (row_sh hH (by omega)) q_v3 (fun ia_3 ib_3 => ?_)
  refine qm_Rp.go 1 (c' := (19, [.ref 51, .int 0, .ref (53 + hv.toInt.toNat)], [.int (-1), .int v3, .int 7, .ref (53 + hv.toInt.toNat)], h)) rfl ?_
  refine hp_cne (ix := v3.toInt) (iy := (-1)) rfl rfl rfl (fun z5 => ?_) (fun z5 => ?_)
  · refine qm_Rp.go 1 (c' := (42, [.ref 51, .int 0, .ref (53 + hv.toInt.toNat)], [.ref 51, .int 7, .ref (53 + hv.toInt.toNat)], h)) rfl ?_
    refine hp_getr rfl (hH.1 51 (14, 13) rfl) rfl (hH.2 51 0 (some 28) rfl) ?_
    refine qm_Rp.go 2 (c' := (47, [.ref 51, .int 0, .ref (53 + hv.toInt.toNat)], [.int 0, .ref (53 + hv.toInt.toNat), .ref 28, .int 7, .ref (53 + hv.toInt.toNat)], h)) rfl ?_
    refine hp_ial (v := v3) rfl (row_sh hH (by omega)) q_v3 (fun ia_5 ib_5 => ?_)
    refine qm_Rp.go 2 (c' := (50, [.ref 51, .int 0, .ref (53 + hv.toInt.toNat)], [.int 1, .ref (53 + hv.toInt.toNat), .int v3, .ref 28, .int 7, .ref (53 + hv.toInt.toNat)], h)) rfl ?_
    obtain ⟨v7, q_v7⟩ : ∃ v_, h.2.1 (53 + hv.toInt.toNat) 1 = v_ := ⟨_, rfl⟩
    refine hp_ial (v := v7) rfl (row_sh hH (by omega)) q_v7 (fun ia_7 ib_7 => ?_)
    refine qm_Rp.go 2 (c' := (53, [.ref 51, .int 0, .ref (53 + hv.toInt.toNat)], [.int 2, .ref (53 + hv.toInt.toNat), .int v7, .int v3, .ref 28, .int 7, .ref (53 + hv.toInt.toNat)], h)) rfl ?_
    obtain ⟨v9, q_v9⟩ : ∃ v_, h.2.1 (53 + hv.toInt.toNat) 2 = v_ := ⟨_, rfl⟩
    refine hp_ial (v := v9) rfl (row_sh hH (by omega)) q_v9 (fun ia_9 ib_9 => ?_)
    refine qm_Rp.go 0 (c' := (54, [.ref 51, .int 0, .ref (53 + hv.toInt.toNat)], [.int v9, .int v7, .int v3, .ref 28, .int 7, .ref (53 + hv.toInt.toNat)], h)) rfl ?_
    refine hp_inv (o := 28) (r := [.int 7, .ref (53 + hv.toInt.toNat)]) (as := [.ref 28, .int v3, .int v7, .int v9]) rfl rfl (hH.1 28 (9, 8) rfl) rfl rfl rfl (pz_cload111 (h := h) hH hT2 hi hc hm (fun I11 v12 f_I11 zc_I11 e_v12 => ?_))
    refine qm_Rp.go 0 (c' := (57, [.ref 51, .int 0, .ref (53 + hv.toInt.toNat)], [.int v12, .int 7, .ref (53 + hv.toInt.toNat)], (h.1, I11, h.2.2.1, h.2.2.2))) rfl ?_
    refine hp_ias rfl (row_sh hH (by omega)) (fun ia_12 ib_12 => ?_)
    refine qm_Rp.go 3 (c' := (62, [.ref 51, .int 0, .ref (53 + hv.toInt.toNat)], [.ref 51, .int 6, .ref (53 + hv.toInt.toNat)], (h.1, qm_up I11 (53 + hv.toInt.toNat) 7 v12, h.2.2.1, h.2.2.2))) rfl ?_
    refine hp_geti (v := tk) rfl (hH.1 51 (14, 13) rfl) rfl (show (qm_up I11 (53 + hv.toInt.toNat) 7 v12) 51 8 = _ from ((hk_ot (row_ne (by omega) (by decide)).2).trans ((f_I11 51 rfl 8).trans q_tk))) ?_
    refine qm_Rp.go 0 (c' := (65, [.ref 51, .int 0, .ref (53 + hv.toInt.toNat)], [.int tk, .int 6, .ref (53 + hv.toInt.toNat)], (h.1, qm_up I11 (53 + hv.toInt.toNat) 7 v12, h.2.2.1, h.2.2.2))) rfl ?_
    refine hp_ias rfl (row_sh hH (by omega)) (fun ia_13 ib_13 => ?_)
    refine qm_Rp.go 1 (c' := (67, [.ref 51, .int 0, .ref (53 + hv.toInt.toNat)], [.ref 51], (h.1, qm_up (qm_up I11 (53 + hv.toInt.toNat) 7 v12) (53 + hv.toInt.toNat) 6 tk, h.2.2.1, h.2.2.2))) rfl ?_
    refine hp_getr rfl (hH.1 51 (14, 13) rfl) rfl (hH.2 51 4 (some 94) rfl) ?_
    refine qm_Rp.go 2 (c' := (72, [.ref 51, .int 0, .ref (53 + hv.toInt.toNat)], [.int (-1), .int 0, .ref 94], (h.1, qm_up (qm_up I11 (53 + hv.toInt.toNat) 7 v12) (53 + hv.toInt.toNat) 6 tk, h.2.2.1, h.2.2.2))) rfl ?_
    refine hp_ias rfl (hH.1 94 (0, 2) rfl) (fun ia_14 ib_14 => ?_)
    refine qm_Rp.go 1 (c' := (74, [.ref 51, .int 0, .ref (53 + hv.toInt.toNat)], [.ref 51], (h.1, qm_up (qm_up (qm_up I11 (53 + hv.toInt.toNat) 7 v12) (53 + hv.toInt.toNat) 6 tk) 94 0 (-1), h.2.2.1, h.2.2.2))) rfl ?_
    refine hp_getr rfl (hH.1 51 (14, 13) rfl) rfl (hH.2 51 5 (some 95) rfl) ?_
    refine qm_Rp.go 2 (c' := (79, [.ref 51, .int 0, .ref (53 + hv.toInt.toNat)], [.int 0, .int 0, .ref 95], (h.1, qm_up (qm_up (qm_up I11 (53 + hv.toInt.toNat) 7 v12) (53 + hv.toInt.toNat) 6 tk) 94 0 (-1), h.2.2.1, h.2.2.2))) rfl ?_
    refine hp_ias rfl (hH.1 95 (0, 2) rfl) (fun ia_15 ib_15 => ?_)
    refine qm_Rp.go 1 (c' := (81, [.ref 51, .int 0, .ref (53 + hv.toInt.toNat)], [.ref 51], (h.1, qm_up (qm_up (qm_up (qm_up I11 (53 + hv.toInt.toNat) 7 v12) (53 + hv.toInt.toNat) 6 tk) 94 0 (-1)) 95 0 0, h.2.2.1, h.2.2.2))) rfl ?_
    refine hp_getr rfl (hH.1 51 (14, 13) rfl) rfl (hH.2 51 7 (some 97) rfl) ?_
    refine qm_Rp.go 2 (c' := (86, [.ref 51, .int 0, .ref (53 + hv.toInt.toNat)], [.int 0, .ref 97, .int 0, .ref 97], (h.1, qm_up (qm_up (qm_up (qm_up I11 (53 + hv.toInt.toNat) 7 v12) (53 + hv.toInt.toNat) 6 tk) 94 0 (-1)) 95 0 0, h.2.2.1, h.2.2.2))) rfl ?_
    obtain ⟨v17, q_v17⟩ : ∃ v_, h.2.1 97 0 = v_ := ⟨_, rfl⟩
    refine hp_ial (v := v17) rfl (hH.1 97 (0, 2) rfl) (show (qm_up (qm_up (qm_up (qm_up I11 (53 + hv.toInt.toNat) 7 v12) (53 + hv.toInt.toNat) 6 tk) 94 0 (-1)) 95 0 0) 97 0 = _ from ((hk_ot rfl).trans ((hk_ot rfl).trans ((hk_ot (row_ne (by omega) (by decide)).2).trans ((hk_ot (row_ne (by omega) (by decide)).2).trans ((f_I11 97 rfl 0).trans q_v17)))))) (fun ia_17 ib_17 => ?_)
    refine qm_Rp.go 2 (c' := (89, [.ref 51, .int 0, .ref (53 + hv.toInt.toNat)], [.int (v17 + 1), .int 0, .ref 97], (h.1, qm_up (qm_up (qm_up (qm_up I11 (53 + hv.toInt.toNat) 7 v12) (53 + hv.toInt.toNat) 6 tk) 94 0 (-1)) 95 0 0, h.2.2.1, h.2.2.2))) rfl ?_
    obtain ⟨v19, q_v19⟩ : ∃ v_, (v17 + 1) = v_ := ⟨_, rfl⟩
    rw [q_v19]
    refine hp_ias rfl (hH.1 97 (0, 2) rfl) (fun ia_19 ib_19 => ?_)
    refine qm_Rp.go 0 (c' := (90, [.ref 51, .int 0, .ref (53 + hv.toInt.toNat)], [], (h.1, qm_up (qm_up (qm_up (qm_up (qm_up I11 (53 + hv.toInt.toNat) 7 v12) (53 + hv.toInt.toNat) 6 tk) 94 0 (-1)) 95 0 0) 97 0 v19, h.2.2.1, h.2.2.2))) rfl ?_
    refine qm_Rp.rt (v := none) (h' := (h.1, qm_up (qm_up (qm_up (qm_up (qm_up I11 (53 + hv.toInt.toNat) 7 v12) (53 + hv.toInt.toNat) 6 tk) 94 0 (-1)) 95 0 0) 97 0 v19, h.2.2.1, h.2.2.2)) rfl ?_
    have r_h := hz.2.2 hv.toInt.toNat (by rw [e75, k_n]; omega)
    unfold rwC at r_h
    rw [l168, l169, l170, l171, l172, l173, l174, l175, l176] at r_h
    have s0 : (K 168 hv.toInt.toNat).toInt = 0 := Classical.byContradiction (fun z => by have a := (r_h.2.2.1 z).1; rw [q_v3] at a; omega)
    have k169 : K 169 hv.toInt.toNat = v3 := (r_h.2.1 s0).symm.trans q_v3
    have k170 : K 170 hv.toInt.toNat = v7 := r_h.1.1.symm.trans q_v7
    have k171 : K 171 hv.toInt.toNat = v9 := r_h.1.2.symm.trans q_v9
    have eR : jRe 1 A K hv.toInt.toNat = v12.toInt := by unfold jRe; rw [okb_t s0, k169, k170, k171]; exact e_v12.symm
    have eS : zC (jSh 1 A K hv.toInt.toNat) I11 := by unfold jSh; rw [okb_t s0, k169, k170, k171]; exact zc_I11
    have e := jGo_f (s := 1) (A := A) (K := K) (c := 0) hF.1 hF.2.1 hF.2.2.1 hF.2.2.2
    rw [k_hv, eR, Int32.ofInt_toInt] at e
    have z1 := zJ_row (v := v12) (tk := tk) (zJ_fr hz hj f_I11 (by decide)) (show hv.toInt.toNat < 40 by omega) (show (jLi K 0 172 hv.toInt.toNat).toInt ≠ 0 by rw [l172, i172]; decide)
    have e2 : jFi K 0 hv.toInt.toNat v12 = qm_up (qm_up (qm_up (qm_up (qm_up (qm_up (jLi K 0) 176 hv.toInt.toNat v12) 172 hv.toInt.toNat 2) 175 hv.toInt.toNat tk) 178 0 (-1)) 179 0 0) 181 0 v19 := by rw [jFi_li, k_tk, show K 181 0 = v17 from l181.symm.trans (zc.2.2.2.2.symm.trans q_v17), q_v19]
    have hj1 : ((qm_up (qm_up (qm_up (jLi K 0) 176 hv.toInt.toNat v12) 172 hv.toInt.toNat 2) 175 hv.toInt.toNat tk) 118 75).toInt ≤ 40 := by rw [up_o (show (118 : Nat) ≠ 175 by decide), up_o (show (118 : Nat) ≠ 172 by decide), up_o (show (118 : Nat) ≠ 176 by decide)]; exact hj
    have z2 := zJ_cr (o := 94) (o' := 178) (c := 0) (v := -1) (by decide) z1 hj1
    have z3 := zJ_cr (o := 95) (o' := 179) (c := 0) (v := 0) (by decide) z2 (by rw [up_o (show (118 : Nat) ≠ 178 by decide)]; exact hj1)
    have z4 := zJ_cr (o := 97) (o' := 181) (c := 0) (v := v19) (by decide) z3 (by rw [up_o (show (118 : Nat) ≠ 179 by decide), up_o (show (118 : Nat) ≠ 178 by decide)]; exact hj1)
    exact k (qm_up (qm_up (qm_up (qm_up (qm_up I11 (53 + hv.toInt.toNat) 7 v12) (53 + hv.toInt.toNat) 6 tk) 94 0 (-1)) 95 0 0) 97 0 v19) (fun o ho ho2 i => ((hk_on (by omega)).trans ((hk_on (by omega)).trans ((hk_on (by omega)).trans ((hk_on (by omega)).trans ((hk_on (by omega)).trans (f_I11 o ho2 i))))))) (by rw [e]; exact zC_j eS (fun o ho i => ((hk_on (by omega)).trans ((hk_on (by omega)).trans ((hk_on (by omega)).trans ((hk_on (by omega)).trans ((hk_on (by omega)).trans rfl))))))) (by rw [e]; show zJ (jFi K 0 hv.toInt.toNat v12) _; rw [e2]; exact z4)
  · refine qm_Rp.go 1 (c' := (23, [.ref 51, .int 0, .ref (53 + hv.toInt.toNat)], [.ref 51, .int 7, .ref (53 + hv.toInt.toNat)], h)) rfl ?_
    refine hp_getr rfl (hH.1 51 (14, 13) rfl) rfl (hH.2 51 0 (some 28) rfl) ?_
    refine qm_Rp.go 2 (c' := (28, [.ref 51, .int 0, .ref (53 + hv.toInt.toNat)], [.int 1, .ref (53 + hv.toInt.toNat), .ref 28, .int 7, .ref (53 + hv.toInt.toNat)], h)) rfl ?_
    obtain ⟨v21, q_v21⟩ : ∃ v_, h.2.1 (53 + hv.toInt.toNat) 1 = v_ := ⟨_, rfl⟩
    refine hp_ial (v := v21) rfl (row_sh hH (by omega)) q_v21 (fun ia_21 ib_21 => ?_)
    refine qm_Rp.go 2 (c' := (31, [.ref 51, .int 0, .ref (53 + hv.toInt.toNat)], [.int 2, .ref (53 + hv.toInt.toNat), .int v21, .ref 28, .int 7, .ref (53 + hv.toInt.toNat)], h)) rfl ?_
    obtain ⟨v23, q_v23⟩ : ∃ v_, h.2.1 (53 + hv.toInt.toNat) 2 = v_ := ⟨_, rfl⟩
    refine hp_ial (v := v23) rfl (row_sh hH (by omega)) q_v23 (fun ia_23 ib_23 => ?_)
    refine qm_Rp.go 2 (c' := (34, [.ref 51, .int 0, .ref (53 + hv.toInt.toNat)], [.int 3, .ref (53 + hv.toInt.toNat), .int v23, .int v21, .ref 28, .int 7, .ref (53 + hv.toInt.toNat)], h)) rfl ?_
    obtain ⟨v25, q_v25⟩ : ∃ v_, h.2.1 (53 + hv.toInt.toNat) 3 = v_ := ⟨_, rfl⟩
    refine hp_ial (v := v25) rfl (row_sh hH (by omega)) q_v25 (fun ia_25 ib_25 => ?_)
    refine qm_Rp.go 0 (c' := (35, [.ref 51, .int 0, .ref (53 + hv.toInt.toNat)], [.int v25, .int v23, .int v21, .ref 28, .int 7, .ref (53 + hv.toInt.toNat)], h)) rfl ?_
    refine hp_inv (o := 28) (r := [.int 7, .ref (53 + hv.toInt.toNat)]) (as := [.ref 28, .int v21, .int v23, .int v25]) rfl rfl (hH.1 28 (9, 8) rfl) rfl rfl rfl (pz_cunl111 (h := h) hH hT2 hi hc hm (fun I27 v28 f_I27 zc_I27 e_v28 => ?_))
    refine qm_Rp.go 1 (c' := (57, [.ref 51, .int 0, .ref (53 + hv.toInt.toNat)], [.int v28, .int 7, .ref (53 + hv.toInt.toNat)], (h.1, I27, h.2.2.1, h.2.2.2))) rfl ?_
    refine hp_ias rfl (row_sh hH (by omega)) (fun ia_28 ib_28 => ?_)
    refine qm_Rp.go 3 (c' := (62, [.ref 51, .int 0, .ref (53 + hv.toInt.toNat)], [.ref 51, .int 6, .ref (53 + hv.toInt.toNat)], (h.1, qm_up I27 (53 + hv.toInt.toNat) 7 v28, h.2.2.1, h.2.2.2))) rfl ?_
    refine hp_geti (v := tk) rfl (hH.1 51 (14, 13) rfl) rfl (show (qm_up I27 (53 + hv.toInt.toNat) 7 v28) 51 8 = _ from ((hk_ot (row_ne (by omega) (by decide)).2).trans ((f_I27 51 rfl 8).trans q_tk))) ?_
    refine qm_Rp.go 0 (c' := (65, [.ref 51, .int 0, .ref (53 + hv.toInt.toNat)], [.int tk, .int 6, .ref (53 + hv.toInt.toNat)], (h.1, qm_up I27 (53 + hv.toInt.toNat) 7 v28, h.2.2.1, h.2.2.2))) rfl ?_
    refine hp_ias rfl (row_sh hH (by omega)) (fun ia_29 ib_29 => ?_)
    refine qm_Rp.go 1 (c' := (67, [.ref 51, .int 0, .ref (53 + hv.toInt.toNat)], [.ref 51], (h.1, qm_up (qm_up I27 (53 + hv.toInt.toNat) 7 v28) (53 + hv.toInt.toNat) 6 tk, h.2.2.1, h.2.2.2))) rfl ?_
    refine hp_getr rfl (hH.1 51 (14, 13) rfl) rfl (hH.2 51 4 (some 94) rfl) ?_
    refine qm_Rp.go 2 (c' := (72, [.ref 51, .int 0, .ref (53 + hv.toInt.toNat)], [.int (-1), .int 0, .ref 94], (h.1, qm_up (qm_up I27 (53 + hv.toInt.toNat) 7 v28) (53 + hv.toInt.toNat) 6 tk, h.2.2.1, h.2.2.2))) rfl ?_
    refine hp_ias rfl (hH.1 94 (0, 2) rfl) (fun ia_30 ib_30 => ?_)
    refine qm_Rp.go 1 (c' := (74, [.ref 51, .int 0, .ref (53 + hv.toInt.toNat)], [.ref 51], (h.1, qm_up (qm_up (qm_up I27 (53 + hv.toInt.toNat) 7 v28) (53 + hv.toInt.toNat) 6 tk) 94 0 (-1), h.2.2.1, h.2.2.2))) rfl ?_
    refine hp_getr rfl (hH.1 51 (14, 13) rfl) rfl (hH.2 51 5 (some 95) rfl) ?_
    refine qm_Rp.go 2 (c' := (79, [.ref 51, .int 0, .ref (53 + hv.toInt.toNat)], [.int 0, .int 0, .ref 95], (h.1, qm_up (qm_up (qm_up I27 (53 + hv.toInt.toNat) 7 v28) (53 + hv.toInt.toNat) 6 tk) 94 0 (-1), h.2.2.1, h.2.2.2))) rfl ?_
    refine hp_ias rfl (hH.1 95 (0, 2) rfl) (fun ia_31 ib_31 => ?_)
    refine qm_Rp.go 1 (c' := (81, [.ref 51, .int 0, .ref (53 + hv.toInt.toNat)], [.ref 51], (h.1, qm_up (qm_up (qm_up (qm_up I27 (53 + hv.toInt.toNat) 7 v28) (53 + hv.toInt.toNat) 6 tk) 94 0 (-1)) 95 0 0, h.2.2.1, h.2.2.2))) rfl ?_
    refine hp_getr rfl (hH.1 51 (14, 13) rfl) rfl (hH.2 51 7 (some 97) rfl) ?_
    refine qm_Rp.go 2 (c' := (86, [.ref 51, .int 0, .ref (53 + hv.toInt.toNat)], [.int 0, .ref 97, .int 0, .ref 97], (h.1, qm_up (qm_up (qm_up (qm_up I27 (53 + hv.toInt.toNat) 7 v28) (53 + hv.toInt.toNat) 6 tk) 94 0 (-1)) 95 0 0, h.2.2.1, h.2.2.2))) rfl ?_
    obtain ⟨v33, q_v33⟩ : ∃ v_, h.2.1 97 0 = v_ := ⟨_, rfl⟩
    refine hp_ial (v := v33) rfl (hH.1 97 (0, 2) rfl) (show (qm_up (qm_up (qm_up (qm_up I27 (53 + hv.toInt.toNat) 7 v28) (53 + hv.toInt.toNat) 6 tk) 94 0 (-1)) 95 0 0) 97 0 = _ from ((hk_ot rfl).trans ((hk_ot rfl).trans ((hk_ot (row_ne (by omega) (by decide)).2).trans ((hk_ot (row_ne (by omega) (by decide)).2).trans ((f_I27 97 rfl 0).trans q_v33)))))) (fun ia_33 ib_33 => ?_)
    refine qm_Rp.go 2 (c' := (89, [.ref 51, .int 0, .ref (53 + hv.toInt.toNat)], [.int (v33 + 1), .int 0, .ref 97], (h.1, qm_up (qm_up (qm_up (qm_up I27 (53 + hv.toInt.toNat) 7 v28) (53 + hv.toInt.toNat) 6 tk) 94 0 (-1)) 95 0 0, h.2.2.1, h.2.2.2))) rfl ?_
    obtain ⟨v35, q_v35⟩ : ∃ v_, (v33 + 1) = v_ := ⟨_, rfl⟩
    rw [q_v35]
    refine hp_ias rfl (hH.1 97 (0, 2) rfl) (fun ia_35 ib_35 => ?_)
    refine qm_Rp.go 0 (c' := (90, [.ref 51, .int 0, .ref (53 + hv.toInt.toNat)], [], (h.1, qm_up (qm_up (qm_up (qm_up (qm_up I27 (53 + hv.toInt.toNat) 7 v28) (53 + hv.toInt.toNat) 6 tk) 94 0 (-1)) 95 0 0) 97 0 v35, h.2.2.1, h.2.2.2))) rfl ?_
    refine qm_Rp.rt (v := none) (h' := (h.1, qm_up (qm_up (qm_up (qm_up (qm_up I27 (53 + hv.toInt.toNat) 7 v28) (53 + hv.toInt.toNat) 6 tk) 94 0 (-1)) 95 0 0) 97 0 v35, h.2.2.1, h.2.2.2)) rfl ?_
    have r_h := hz.2.2 hv.toInt.toNat (by rw [e75, k_n]; omega)
    unfold rwC at r_h
    rw [l168, l169, l170, l171, l172, l173, l174, l175, l176] at r_h
    have s0 : (K 168 hv.toInt.toNat).toInt ≠ 0 := fun z => by have a := r_h.2.1 z; rw [q_v3] at a; have b := (jr.2.2.1 z).1; rw [← a] at b; omega
    have k169 : K 169 hv.toInt.toNat = v25 := ((r_h.2.2.1 s0).2).symm.trans q_v25
    have k170 : K 170 hv.toInt.toNat = v21 := r_h.1.1.symm.trans q_v21
    have k171 : K 171 hv.toInt.toNat = v23 := r_h.1.2.symm.trans q_v23
    have eR : jRe 1 A K hv.toInt.toNat = v28.toInt := by unfold jRe; rw [okb_f s0, k169, k170, k171]; exact e_v28.symm
    have eS : zC (jSh 1 A K hv.toInt.toNat) I27 := by unfold jSh; rw [okb_f s0, k169, k170, k171]; exact zc_I27
    have e := jGo_f (s := 1) (A := A) (K := K) (c := 0) hF.1 hF.2.1 hF.2.2.1 hF.2.2.2
    rw [k_hv, eR, Int32.ofInt_toInt] at e
    have z1 := zJ_row (v := v28) (tk := tk) (zJ_fr hz hj f_I27 (by decide)) (show hv.toInt.toNat < 40 by omega) (show (jLi K 0 172 hv.toInt.toNat).toInt ≠ 0 by rw [l172, i172]; decide)
    have e2 : jFi K 0 hv.toInt.toNat v28 = qm_up (qm_up (qm_up (qm_up (qm_up (qm_up (jLi K 0) 176 hv.toInt.toNat v28) 172 hv.toInt.toNat 2) 175 hv.toInt.toNat tk) 178 0 (-1)) 179 0 0) 181 0 v35 := by rw [jFi_li, k_tk, show K 181 0 = v33 from l181.symm.trans (zc.2.2.2.2.symm.trans q_v33), q_v35]
    have hj1 : ((qm_up (qm_up (qm_up (jLi K 0) 176 hv.toInt.toNat v28) 172 hv.toInt.toNat 2) 175 hv.toInt.toNat tk) 118 75).toInt ≤ 40 := by rw [up_o (show (118 : Nat) ≠ 175 by decide), up_o (show (118 : Nat) ≠ 172 by decide), up_o (show (118 : Nat) ≠ 176 by decide)]; exact hj
    have z2 := zJ_cr (o := 94) (o' := 178) (c := 0) (v := -1) (by decide) z1 hj1
    have z3 := zJ_cr (o := 95) (o' := 179) (c := 0) (v := 0) (by decide) z2 (by rw [up_o (show (118 : Nat) ≠ 178 by decide)]; exact hj1)
    have z4 := zJ_cr (o := 97) (o' := 181) (c := 0) (v := v35) (by decide) z3 (by rw [up_o (show (118 : Nat) ≠ 179 by decide), up_o (show (118 : Nat) ≠ 178 by decide)]; exact hj1)
    exact k (qm_up (qm_up (qm_up (qm_up (qm_up I27 (53 + hv.toInt.toNat) 7 v28) (53 + hv.toInt.toNat) 6 tk) 94 0 (-1)) 95 0 0) 97 0 v35) (fun o ho ho2 i => ((hk_on (by omega)).trans ((hk_on (by omega)).trans ((hk_on (by omega)).trans ((hk_on (by omega)).trans ((hk_on (by omega)).trans (f_I27 o ho2 i))))))) (by rw [e]; exact zC_j eS (fun o ho i => ((hk_on (by omega)).trans ((hk_on (by omega)).trans ((hk_on (by omega)).trans ((hk_on (by omega)).trans ((hk_on (by omega)).trans rfl))))))) (by rw [e]; show zJ (jFi K 0 hv.toInt.toNat v28) _; rw [e2]; exact z4)
theorem px_cfin1111 {X : Option (Nat × (Nat → Int32))} {Z : Option Value → qm_H → Prop} {h : qm_H} {fu : Nat} (hH : hk_H h) (hT2 : h.2.2.2 28 2 = some 111) {A : Nat → Nat → Int} {K : Nat → Nat → Int32} (hi : zI 1 A) (hc : zC A h.2.1) (hm : zM 111 1 A h.2.1) (hI : jI K) (hF : jFn K 1) (hz : zJ (jLi K 1) h.2.1) (k : ∀ I : Nat → Nat → Int32, (∀ o, (o < 53 ∨ 97 < o) → [11, 12, 13, 14, 16, 17, 28, 36, 37].contains o = false → ∀ i, I o i = h.2.1 o i) → zC (jGo 1 A K 1).1 I → zJ (jGo 1 A K 1).2 I → Z none (h.1, I, h.2.2.1, h.2.2.2)) : qm_Rp fu X cd_210 (qm_ent 3 [.ref 51, .int 1] h) Z := by
  refine qm_Rp.go 0 (c' := (0, [.ref 51, .int 1, .float 0], [], h)) rfl ?_
  have kz0 : (0 : Int32).toInt = 0 := rfl
  have kz1 : (1 : Int32).toInt = 1 := rfl
  have kz2 : (2 : Int32).toInt = 2 := rfl
  have kz3 : (3 : Int32).toInt = 3 := rfl
  have kz4 : (4 : Int32).toInt = 4 := rfl
  have kz5 : (5 : Int32).toInt = 5 := rfl
  have kz6 : (6 : Int32).toInt = 6 := rfl
  have kz7 : (7 : Int32).toInt = 7 := rfl
  have kz8 : (8 : Int32).toInt = 8 := rfl
  have kz9 : (9 : Int32).toInt = 9 := rfl
  have kzm1 : ((-1) : Int32).toInt = (-1) := rfl
  have kzm2 : ((-2) : Int32).toInt = (-2) := rfl
  have kzm3 : ((-3) : Int32).toInt = (-3) := rfl
  have l168 : jLi K 1 168 = K 168 := up_o (show (168 : Nat) ≠ 179 by decide)
  have l169 : jLi K 1 169 = K 169 := up_o (show (169 : Nat) ≠ 179 by decide)
  have l170 : jLi K 1 170 = K 170 := up_o (show (170 : Nat) ≠ 179 by decide)
  have l171 : jLi K 1 171 = K 171 := up_o (show (171 : Nat) ≠ 179 by decide)
  have l172 : jLi K 1 172 = K 172 := up_o (show (172 : Nat) ≠ 179 by decide)
  have l173 : jLi K 1 173 = K 173 := up_o (show (173 : Nat) ≠ 179 by decide)
  have l174 : jLi K 1 174 = K 174 := up_o (show (174 : Nat) ≠ 179 by decide)
  have l175 : jLi K 1 175 = K 175 := up_o (show (175 : Nat) ≠ 179 by decide)
  have l176 : jLi K 1 176 = K 176 := up_o (show (176 : Nat) ≠ 179 by decide)
  have l177 : jLi K 1 177 = K 177 := up_o (show (177 : Nat) ≠ 179 by decide)
  have l178 : jLi K 1 178 = K 178 := up_o (show (178 : Nat) ≠ 179 by decide)
  have l180 : jLi K 1 180 = K 180 := up_o (show (180 : Nat) ≠ 179 by decide)
  have l181 : jLi K 1 181 1 = K 181 1 := congrFun (up_o (show (181 : Nat) ≠ 179 by decide)) 1
  have l118 : jLi K 1 118 = K 118 := up_o (show (118 : Nat) ≠ 179 by decide)
  have e75 : jLi K 1 118 75 = K 118 75 := congrFun l118 75
  have zc := hz.2.1 1 (by decide)
  have ic := jI_has hI (d := 1) (by decide)
  obtain ⟨n, k_n⟩ : ∃ v_, K 118 75 = v_ := ⟨_, rfl⟩
  obtain ⟨hv, q_hv⟩ : ∃ v_, h.2.1 94 1 = v_ := ⟨_, rfl⟩
  have k_hv : K 178 1 = hv := (congrFun l178 1).symm.trans (zc.2.1.symm.trans q_hv)
  obtain ⟨tk, q_tk⟩ : ∃ v_, h.2.1 51 8 = v_ := ⟨_, rfl⟩
  have k_tk : K 118 85 = tk := (congrFun l118 85).symm.trans (hz.1.2.1.symm.trans q_tk)
  have hne : hv.toInt ≠ -1 := by rw [← k_hv]; exact hF.1
  rw [k_hv, k_n] at ic
  have hj : (jLi K 1 118 75).toInt ≤ 40 := by rw [e75, k_n]; exact ic.2.1.2
  have jr := hI.2.2.2 hv.toInt.toNat (by rw [k_n]; omega)
  have i172 : (K 172 hv.toInt.toNat).toInt = 1 := by have w := (hI.2.1 1 (by decide)).resolve_left (fun z => hF.1 z.1); rw [k_hv] at w; exact w.2.1
  refine qm_Rp.go 1 (c' := (1, [.ref 51, .int 1, .float 0], [.ref 51], h)) rfl ?_
  refine hp_getr rfl (hH.1 51 (14, 13) rfl) rfl (hH.2 51 1 (some 52) rfl) ?_
  refine qm_Rp.go 1 (c' := (5, [.ref 51, .int 1, .float 0], [.ref 51, .ref 52], h)) rfl ?_
  refine hp_getr rfl (hH.1 51 (14, 13) rfl) rfl (hH.2 51 4 (some 94) rfl) ?_
  refine qm_Rp.go 1 (c' := (9, [.ref 51, .int 1, .float 0], [.int 1, .ref 94, .ref 52], h)) rfl ?_
  refine hp_ial (v := hv) rfl (hH.1 94 (0, 2) rfl) q_hv (fun ia_0 ib_0 => ?_)
  refine qm_Rp.go 0 (c' := (10, [.ref 51, .int 1, .float 0], [.int hv, .ref 52], h)) rfl ?_
  refine hp_aal rfl (hH.1 52 (4, 40) rfl) (row_ref hH (by omega)) (fun ia_1 ib_1 => ?_)
  refine qm_Rp.go 5 (c' := (17, [.ref 51, .int 1, .ref (53 + hv.toInt.toNat)], [.int 0, .ref (53 + hv.toInt.toNat), .int 7, .ref (53 + hv.toInt.toNat)], h)) rfl ?_
  obtain ⟨v3, q_v3⟩ : ∃ v_, h.2.1 (53 + hv.toInt.toNat) 0 = v_ := ⟨_, rfl⟩
  refine hp_ial (v := v3) rfl (row_sh hH (by omega)) q_v3 (fun ia_3 ib_3 => ?_)
  refine qm_Rp.go 1 (c' := (19, [.ref 51, .int 1, .ref (53 + hv.toInt.toNat)], [.int (-1), .int v3, .int 7, .ref (53 + hv.toInt.toNat)], h)) rfl ?_
  refine hp_cne (ix := v3.toInt) (iy := (-1)) rfl rfl rfl (fun z5 => ?_) (fun z5 => ?_)
  · refine qm_Rp.go 1 (c' := (42, [.ref 51, .int 1, .ref (53 + hv.toInt.toNat)], [.ref 51, .int 7, .ref (53 + hv.toInt.toNat)], h)) rfl ?_
    refine hp_getr rfl (hH.1 51 (14, 13) rfl) rfl (hH.2 51 0 (some 28) rfl) ?_
    refine qm_Rp.go 2 (c' := (47, [.ref 51, .int 1, .ref (53 + hv.toInt.toNat)], [.int 0, .ref (53 + hv.toInt.toNat), .ref 28, .int 7, .ref (53 + hv.toInt.toNat)], h)) rfl ?_
    refine hp_ial (v := v3) rfl (row_sh hH (by omega)) q_v3 (fun ia_5 ib_5 => ?_)
    refine qm_Rp.go 2 (c' := (50, [.ref 51, .int 1, .ref (53 + hv.toInt.toNat)], [.int 1, .ref (53 + hv.toInt.toNat), .int v3, .ref 28, .int 7, .ref (53 + hv.toInt.toNat)], h)) rfl ?_
    obtain ⟨v7, q_v7⟩ : ∃ v_, h.2.1 (53 + hv.toInt.toNat) 1 = v_ := ⟨_, rfl⟩
    refine hp_ial (v := v7) rfl (row_sh hH (by omega)) q_v7 (fun ia_7 ib_7 => ?_)
    refine qm_Rp.go 2 (c' := (53, [.ref 51, .int 1, .ref (53 + hv.toInt.toNat)], [.int 2, .ref (53 + hv.toInt.toNat), .int v7, .int v3, .ref 28, .int 7, .ref (53 + hv.toInt.toNat)], h)) rfl ?_
    obtain ⟨v9, q_v9⟩ : ∃ v_, h.2.1 (53 + hv.toInt.toNat) 2 = v_ := ⟨_, rfl⟩
    refine hp_ial (v := v9) rfl (row_sh hH (by omega)) q_v9 (fun ia_9 ib_9 => ?_)
    refine qm_Rp.go 0 (c' := (54, [.ref 51, .int 1, .ref (53 + hv.toInt.toNat)], [.int v9, .int v7, .int v3, .ref 28, .int 7, .ref (53 + hv.toInt.toNat)], h)) rfl ?_
    refine hp_inv (o := 28) (r := [.int 7, .ref (53 + hv.toInt.toNat)]) (as := [.ref 28, .int v3, .int v7, .int v9]) rfl rfl (hH.1 28 (9, 8) rfl) rfl rfl rfl (pz_cload111 (h := h) hH hT2 hi hc hm (fun I11 v12 f_I11 zc_I11 e_v12 => ?_))
    refine qm_Rp.go 0 (c' := (57, [.ref 51, .int 1, .ref (53 + hv.toInt.toNat)], [.int v12, .int 7, .ref (53 + hv.toInt.toNat)], (h.1, I11, h.2.2.1, h.2.2.2))) rfl ?_
    refine hp_ias rfl (row_sh hH (by omega)) (fun ia_12 ib_12 => ?_)
    refine qm_Rp.go 3 (c' := (62, [.ref 51, .int 1, .ref (53 + hv.toInt.toNat)], [.ref 51, .int 6, .ref (53 + hv.toInt.toNat)], (h.1, qm_up I11 (53 + hv.toInt.toNat) 7 v12, h.2.2.1, h.2.2.2))) rfl ?_
    refine hp_geti (v := tk) rfl (hH.1 51 (14, 13) rfl) rfl (show (qm_up I11 (53 + hv.toInt.toNat) 7 v12) 51 8 = _ from ((hk_ot (row_ne (by omega) (by decide)).2).trans ((f_I11 51 rfl 8).trans q_tk))) ?_
    refine qm_Rp.go 0 (c' := (65, [.ref 51, .int 1, .ref (53 + hv.toInt.toNat)], [.int tk, .int 6, .ref (53 + hv.toInt.toNat)], (h.1, qm_up I11 (53 + hv.toInt.toNat) 7 v12, h.2.2.1, h.2.2.2))) rfl ?_
    refine hp_ias rfl (row_sh hH (by omega)) (fun ia_13 ib_13 => ?_)
    refine qm_Rp.go 1 (c' := (67, [.ref 51, .int 1, .ref (53 + hv.toInt.toNat)], [.ref 51], (h.1, qm_up (qm_up I11 (53 + hv.toInt.toNat) 7 v12) (53 + hv.toInt.toNat) 6 tk, h.2.2.1, h.2.2.2))) rfl ?_
    refine hp_getr rfl (hH.1 51 (14, 13) rfl) rfl (hH.2 51 4 (some 94) rfl) ?_
    refine qm_Rp.go 2 (c' := (72, [.ref 51, .int 1, .ref (53 + hv.toInt.toNat)], [.int (-1), .int 1, .ref 94], (h.1, qm_up (qm_up I11 (53 + hv.toInt.toNat) 7 v12) (53 + hv.toInt.toNat) 6 tk, h.2.2.1, h.2.2.2))) rfl ?_
    refine hp_ias rfl (hH.1 94 (0, 2) rfl) (fun ia_14 ib_14 => ?_)
    refine qm_Rp.go 1 (c' := (74, [.ref 51, .int 1, .ref (53 + hv.toInt.toNat)], [.ref 51], (h.1, qm_up (qm_up (qm_up I11 (53 + hv.toInt.toNat) 7 v12) (53 + hv.toInt.toNat) 6 tk) 94 1 (-1), h.2.2.1, h.2.2.2))) rfl ?_
    refine hp_getr rfl (hH.1 51 (14, 13) rfl) rfl (hH.2 51 5 (some 95) rfl) ?_
    refine qm_Rp.go 2 (c' := (79, [.ref 51, .int 1, .ref (53 + hv.toInt.toNat)], [.int 0, .int 1, .ref 95], (h.1, qm_up (qm_up (qm_up I11 (53 + hv.toInt.toNat) 7 v12) (53 + hv.toInt.toNat) 6 tk) 94 1 (-1), h.2.2.1, h.2.2.2))) rfl ?_
    refine hp_ias rfl (hH.1 95 (0, 2) rfl) (fun ia_15 ib_15 => ?_)
    refine qm_Rp.go 1 (c' := (81, [.ref 51, .int 1, .ref (53 + hv.toInt.toNat)], [.ref 51], (h.1, qm_up (qm_up (qm_up (qm_up I11 (53 + hv.toInt.toNat) 7 v12) (53 + hv.toInt.toNat) 6 tk) 94 1 (-1)) 95 1 0, h.2.2.1, h.2.2.2))) rfl ?_
    refine hp_getr rfl (hH.1 51 (14, 13) rfl) rfl (hH.2 51 7 (some 97) rfl) ?_
    refine qm_Rp.go 2 (c' := (86, [.ref 51, .int 1, .ref (53 + hv.toInt.toNat)], [.int 1, .ref 97, .int 1, .ref 97], (h.1, qm_up (qm_up (qm_up (qm_up I11 (53 + hv.toInt.toNat) 7 v12) (53 + hv.toInt.toNat) 6 tk) 94 1 (-1)) 95 1 0, h.2.2.1, h.2.2.2))) rfl ?_
    obtain ⟨v17, q_v17⟩ : ∃ v_, h.2.1 97 1 = v_ := ⟨_, rfl⟩
    refine hp_ial (v := v17) rfl (hH.1 97 (0, 2) rfl) (show (qm_up (qm_up (qm_up (qm_up I11 (53 + hv.toInt.toNat) 7 v12) (53 + hv.toInt.toNat) 6 tk) 94 1 (-1)) 95 1 0) 97 1 = _ from ((hk_ot rfl).trans ((hk_ot rfl).trans ((hk_ot (row_ne (by omega) (by decide)).2).trans ((hk_ot (row_ne (by omega) (by decide)).2).trans ((f_I11 97 rfl 1).trans q_v17)))))) (fun ia_17 ib_17 => ?_)
    refine qm_Rp.go 2 (c' := (89, [.ref 51, .int 1, .ref (53 + hv.toInt.toNat)], [.int (v17 + 1), .int 1, .ref 97], (h.1, qm_up (qm_up (qm_up (qm_up I11 (53 + hv.toInt.toNat) 7 v12) (53 + hv.toInt.toNat) 6 tk) 94 1 (-1)) 95 1 0, h.2.2.1, h.2.2.2))) rfl ?_
    obtain ⟨v19, q_v19⟩ : ∃ v_, (v17 + 1) = v_ := ⟨_, rfl⟩
    rw [q_v19]
    refine hp_ias rfl (hH.1 97 (0, 2) rfl) (fun ia_19 ib_19 => ?_)
    refine qm_Rp.go 0 (c' := (90, [.ref 51, .int 1, .ref (53 + hv.toInt.toNat)], [], (h.1, qm_up (qm_up (qm_up (qm_up (qm_up I11 (53 + hv.toInt.toNat) 7 v12) (53 + hv.toInt.toNat) 6 tk) 94 1 (-1)) 95 1 0) 97 1 v19, h.2.2.1, h.2.2.2))) rfl ?_
    refine qm_Rp.rt (v := none) (h' := (h.1, qm_up (qm_up (qm_up (qm_up (qm_up I11 (53 + hv.toInt.toNat) 7 v12) (53 + hv.toInt.toNat) 6 tk) 94 1 (-1)) 95 1 0) 97 1 v19, h.2.2.1, h.2.2.2)) rfl ?_
    have r_h := hz.2.2 hv.toInt.toNat (by rw [e75, k_n]; omega)
    unfold rwC at r_h
    rw [l168, l169, l170, l171, l172, l173, l174, l175, l176] at r_h
    have s0 : (K 168 hv.toInt.toNat).toInt = 0 := Classical.byContradiction (fun z => by have a := (r_h.2.2.1 z).1; rw [q_v3] at a; omega)
    have k169 : K 169 hv.toInt.toNat = v3 := (r_h.2.1 s0).symm.trans q_v3
    have k170 : K 170 hv.toInt.toNat = v7 := r_h.1.1.symm.trans q_v7
    have k171 : K 171 hv.toInt.toNat = v9 := r_h.1.2.symm.trans q_v9
    have eR : jRe 1 A K hv.toInt.toNat = v12.toInt := by unfold jRe; rw [okb_t s0, k169, k170, k171]; exact e_v12.symm
    have eS : zC (jSh 1 A K hv.toInt.toNat) I11 := by unfold jSh; rw [okb_t s0, k169, k170, k171]; exact zc_I11
    have e := jGo_f (s := 1) (A := A) (K := K) (c := 1) hF.1 hF.2.1 hF.2.2.1 hF.2.2.2
    rw [k_hv, eR, Int32.ofInt_toInt] at e
    have z1 := zJ_row (v := v12) (tk := tk) (zJ_fr hz hj f_I11 (by decide)) (show hv.toInt.toNat < 40 by omega) (show (jLi K 1 172 hv.toInt.toNat).toInt ≠ 0 by rw [l172, i172]; decide)
    have e2 : jFi K 1 hv.toInt.toNat v12 = qm_up (qm_up (qm_up (qm_up (qm_up (qm_up (jLi K 1) 176 hv.toInt.toNat v12) 172 hv.toInt.toNat 2) 175 hv.toInt.toNat tk) 178 1 (-1)) 179 1 0) 181 1 v19 := by rw [jFi_li, k_tk, show K 181 1 = v17 from l181.symm.trans (zc.2.2.2.2.symm.trans q_v17), q_v19]
    have hj1 : ((qm_up (qm_up (qm_up (jLi K 1) 176 hv.toInt.toNat v12) 172 hv.toInt.toNat 2) 175 hv.toInt.toNat tk) 118 75).toInt ≤ 40 := by rw [up_o (show (118 : Nat) ≠ 175 by decide), up_o (show (118 : Nat) ≠ 172 by decide), up_o (show (118 : Nat) ≠ 176 by decide)]; exact hj
    have z2 := zJ_cr (o := 94) (o' := 178) (c := 1) (v := -1) (by decide) z1 hj1
    have z3 := zJ_cr (o := 95) (o' := 179) (c := 1) (v := 0) (by decide) z2 (by rw [up_o (show (118 : Nat) ≠ 178 by decide)]; exact hj1)
    have z4 := zJ_cr (o := 97) (o' := 181) (c := 1) (v := v19) (by decide) z3 (by rw [up_o (show (118 : Nat) ≠ 179 by decide), up_o (show (118 : Nat) ≠ 178 by decide)]; exact hj1)
    exact k (qm_up (qm_up (qm_up (qm_up (qm_up I11 (53 + hv.toInt.toNat) 7 v12) (53 + hv.toInt.toNat) 6 tk) 94 1 (-1)) 95 1 0) 97 1 v19) (fun o ho ho2 i => ((hk_on (by omega)).trans ((hk_on (by omega)).trans ((hk_on (by omega)).trans ((hk_on (by omega)).trans ((hk_on (by omega)).trans (f_I11 o ho2 i))))))) (by rw [e]; exact zC_j eS (fun o ho i => ((hk_on (by omega)).trans ((hk_on (by omega)).trans ((hk_on (by omega)).trans ((hk_on (by omega)).trans ((hk_on (by omega)).trans rfl))))))) (by rw [e]; show zJ (jFi K 1 hv.toInt.toNat v12) _; rw [e2]; exact z4)
  · refine qm_Rp.go 1 (c' := (23, [.ref 51, .int 1, .ref (53 + hv.toInt.toNat)], [.ref 51, .int 7, .ref (53 + hv.toInt.toNat)], h)) rfl ?_
    refine hp_getr rfl (hH.1 51 (14, 13) rfl) rfl (hH.2 51 0 (some 28) rfl) ?_
    refine qm_Rp.go 2 (c' := (28, [.ref 51, .int 1, .ref (53 + hv.toInt.toNat)], [.int 1, .ref (53 + hv.toInt.toNat), .ref 28, .int 7, .ref (53 + hv.toInt.toNat)], h)) rfl ?_
    obtain ⟨v21, q_v21⟩ : ∃ v_, h.2.1 (53 + hv.toInt.toNat) 1 = v_ := ⟨_, rfl⟩
    refine hp_ial (v := v21) rfl (row_sh hH (by omega)) q_v21 (fun ia_21 ib_21 => ?_)
    refine qm_Rp.go 2 (c' := (31, [.ref 51, .int 1, .ref (53 + hv.toInt.toNat)], [.int 2, .ref (53 + hv.toInt.toNat), .int v21, .ref 28, .int 7, .ref (53 + hv.toInt.toNat)], h)) rfl ?_
    obtain ⟨v23, q_v23⟩ : ∃ v_, h.2.1 (53 + hv.toInt.toNat) 2 = v_ := ⟨_, rfl⟩
    refine hp_ial (v := v23) rfl (row_sh hH (by omega)) q_v23 (fun ia_23 ib_23 => ?_)
    refine qm_Rp.go 2 (c' := (34, [.ref 51, .int 1, .ref (53 + hv.toInt.toNat)], [.int 3, .ref (53 + hv.toInt.toNat), .int v23, .int v21, .ref 28, .int 7, .ref (53 + hv.toInt.toNat)], h)) rfl ?_
    obtain ⟨v25, q_v25⟩ : ∃ v_, h.2.1 (53 + hv.toInt.toNat) 3 = v_ := ⟨_, rfl⟩
    refine hp_ial (v := v25) rfl (row_sh hH (by omega)) q_v25 (fun ia_25 ib_25 => ?_)
    refine qm_Rp.go 0 (c' := (35, [.ref 51, .int 1, .ref (53 + hv.toInt.toNat)], [.int v25, .int v23, .int v21, .ref 28, .int 7, .ref (53 + hv.toInt.toNat)], h)) rfl ?_
    refine hp_inv (o := 28) (r := [.int 7, .ref (53 + hv.toInt.toNat)]) (as := [.ref 28, .int v21, .int v23, .int v25]) rfl rfl (hH.1 28 (9, 8) rfl) rfl rfl rfl (pz_cunl111 (h := h) hH hT2 hi hc hm (fun I27 v28 f_I27 zc_I27 e_v28 => ?_))
    refine qm_Rp.go 1 (c' := (57, [.ref 51, .int 1, .ref (53 + hv.toInt.toNat)], [.int v28, .int 7, .ref (53 + hv.toInt.toNat)], (h.1, I27, h.2.2.1, h.2.2.2))) rfl ?_
    refine hp_ias rfl (row_sh hH (by omega)) (fun ia_28 ib_28 => ?_)
    refine qm_Rp.go 3 (c' := (62, [.ref 51, .int 1, .ref (53 + hv.toInt.toNat)], [.ref 51, .int 6, .ref (53 + hv.toInt.toNat)], (h.1, qm_up I27 (53 + hv.toInt.toNat) 7 v28, h.2.2.1, h.2.2.2))) rfl ?_
    refine hp_geti (v := tk) rfl (hH.1 51 (14, 13) rfl) rfl (show (qm_up I27 (53 + hv.toInt.toNat) 7 v28) 51 8 = _ from ((hk_ot (row_ne (by omega) (by decide)).2).trans ((f_I27 51 rfl 8).trans q_tk))) ?_
    refine qm_Rp.go 0 (c' := (65, [.ref 51, .int 1, .ref (53 + hv.toInt.toNat)], [.int tk, .int 6, .ref (53 + hv.toInt.toNat)], (h.1, qm_up I27 (53 + hv.toInt.toNat) 7 v28, h.2.2.1, h.2.2.2))) rfl ?_
    refine hp_ias rfl (row_sh hH (by omega)) (fun ia_29 ib_29 => ?_)
    refine qm_Rp.go 1 (c' := (67, [.ref 51, .int 1, .ref (53 + hv.toInt.toNat)], [.ref 51], (h.1, qm_up (qm_up I27 (53 + hv.toInt.toNat) 7 v28) (53 + hv.toInt.toNat) 6 tk, h.2.2.1, h.2.2.2))) rfl ?_
    refine hp_getr rfl (hH.1 51 (14, 13) rfl) rfl (hH.2 51 4 (some 94) rfl) ?_
    refine qm_Rp.go 2 (c' := (72, [.ref 51, .int 1, .ref (53 + hv.toInt.toNat)], [.int (-1), .int 1, .ref 94], (h.1, qm_up (qm_up I27 (53 + hv.toInt.toNat) 7 v28) (53 + hv.toInt.toNat) 6 tk, h.2.2.1, h.2.2.2))) rfl ?_
    refine hp_ias rfl (hH.1 94 (0, 2) rfl) (fun ia_30 ib_30 => ?_)
    refine qm_Rp.go 1 (c' := (74, [.ref 51, .int 1, .ref (53 + hv.toInt.toNat)], [.ref 51], (h.1, qm_up (qm_up (qm_up I27 (53 + hv.toInt.toNat) 7 v28) (53 + hv.toInt.toNat) 6 tk) 94 1 (-1), h.2.2.1, h.2.2.2))) rfl ?_
    refine hp_getr rfl (hH.1 51 (14, 13) rfl) rfl (hH.2 51 5 (some 95) rfl) ?_
    refine qm_Rp.go 2 (c' := (79, [.ref 51, .int 1, .ref (53 + hv.toInt.toNat)], [.int 0, .int 1, .ref 95], (h.1, qm_up (qm_up (qm_up I27 (53 + hv.toInt.toNat) 7 v28) (53 + hv.toInt.toNat) 6 tk) 94 1 (-1), h.2.2.1, h.2.2.2))) rfl ?_
    refine hp_ias rfl (hH.1 95 (0, 2) rfl) (fun ia_31 ib_31 => ?_)
    refine qm_Rp.go 1 (c' := (81, [.ref 51, .int 1, .ref (53 + hv.toInt.toNat)], [.ref 51], (h.1, qm_up (qm_up (qm_up (qm_up I27 (53 + hv.toInt.toNat) 7 v28) (53 + hv.toInt.toNat) 6 tk) 94 1 (-1)) 95 1 0, h.2.2.1, h.2.2.2))) rfl ?_
    refine hp_getr rfl (hH.1 51 (14, 13) rfl) rfl (hH.2 51 7 (some 97) rfl) ?_
    refine qm_Rp.go 2 (c' := (86, [.ref 51, .int 1, .ref (53 + hv.toInt.toNat)], [.int 1, .ref 97, .int 1, .ref 97], (h.1, qm_up (qm_up (qm_up (qm_up I27 (53 + hv.toInt.toNat) 7 v28) (53 + hv.toInt.toNat) 6 tk) 94 1 (-1)) 95 1 0, h.2.2.1, h.2.2.2))) rfl ?_
    obtain ⟨v33, q_v33⟩ : ∃ v_, h.2.1 97 1 = v_ := ⟨_, rfl⟩
    refine hp_ial (v := v33) rfl (hH.1 97 (0, 2) rfl) (show (qm_up (qm_up (qm_up (qm_up I27 (53 + hv.toInt.toNat) 7 v28) (53 + hv.toInt.toNat) 6 tk) 94 1 (-1)) 95 1 0) 97 1 = _ from ((hk_ot rfl).trans ((hk_ot rfl).trans ((hk_ot (row_ne (by omega) (by decide)).2).trans ((hk_ot (row_ne (by omega) (by decide)).2).trans ((f_I27 97 rfl 1).trans q_v33)))))) (fun ia_33 ib_33 => ?_)
    refine qm_Rp.go 2 (c' := (89, [.ref 51, .int 1, .ref (53 + hv.toInt.toNat)], [.int (v33 + 1), .int 1, .ref 97], (h.1, qm_up (qm_up (qm_up (qm_up I27 (53 + hv.toInt.toNat) 7 v28) (53 + hv.toInt.toNat) 6 tk) 94 1 (-1)) 95 1 0, h.2.2.1, h.2.2.2))) rfl ?_
    obtain ⟨v35, q_v35⟩ : ∃ v_, (v33 + 1) = v_ := ⟨_, rfl⟩
    rw [q_v35]
    refine hp_ias rfl (hH.1 97 (0, 2) rfl) (fun ia_35 ib_35 => ?_)
    refine qm_Rp.go 0 (c' := (90, [.ref 51, .int 1, .ref (53 + hv.toInt.toNat)], [], (h.1, qm_up (qm_up (qm_up (qm_up (qm_up I27 (53 + hv.toInt.toNat) 7 v28) (53 + hv.toInt.toNat) 6 tk) 94 1 (-1)) 95 1 0) 97 1 v35, h.2.2.1, h.2.2.2))) rfl ?_
    refine qm_Rp.rt (v := none) (h' := (h.1, qm_up (qm_up (qm_up (qm_up (qm_up I27 (53 + hv.toInt.toNat) 7 v28) (53 + hv.toInt.toNat) 6 tk) 94 1 (-1)) 95 1 0) 97 1 v35, h.2.2.1, h.2.2.2)) rfl ?_
    have r_h := hz.2.2 hv.toInt.toNat (by rw [e75, k_n]; omega)
    unfold rwC at r_h
    rw [l168, l169, l170, l171, l172, l173, l174, l175, l176] at r_h
    have s0 : (K 168 hv.toInt.toNat).toInt ≠ 0 := fun z => by have a := r_h.2.1 z; rw [q_v3] at a; have b := (jr.2.2.1 z).1; rw [← a] at b; omega
    have k169 : K 169 hv.toInt.toNat = v25 := ((r_h.2.2.1 s0).2).symm.trans q_v25
    have k170 : K 170 hv.toInt.toNat = v21 := r_h.1.1.symm.trans q_v21
    have k171 : K 171 hv.toInt.toNat = v23 := r_h.1.2.symm.trans q_v23
    have eR : jRe 1 A K hv.toInt.toNat = v28.toInt := by unfold jRe; rw [okb_f s0, k169, k170, k171]; exact e_v28.symm
    have eS : zC (jSh 1 A K hv.toInt.toNat) I27 := by unfold jSh; rw [okb_f s0, k169, k170, k171]; exact zc_I27
    have e := jGo_f (s := 1) (A := A) (K := K) (c := 1) hF.1 hF.2.1 hF.2.2.1 hF.2.2.2
    rw [k_hv, eR, Int32.ofInt_toInt] at e
    have z1 := zJ_row (v := v28) (tk := tk) (zJ_fr hz hj f_I27 (by decide)) (show hv.toInt.toNat < 40 by omega) (show (jLi K 1 172 hv.toInt.toNat).toInt ≠ 0 by rw [l172, i172]; decide)
    have e2 : jFi K 1 hv.toInt.toNat v28 = qm_up (qm_up (qm_up (qm_up (qm_up (qm_up (jLi K 1) 176 hv.toInt.toNat v28) 172 hv.toInt.toNat 2) 175 hv.toInt.toNat tk) 178 1 (-1)) 179 1 0) 181 1 v35 := by rw [jFi_li, k_tk, show K 181 1 = v33 from l181.symm.trans (zc.2.2.2.2.symm.trans q_v33), q_v35]
    have hj1 : ((qm_up (qm_up (qm_up (jLi K 1) 176 hv.toInt.toNat v28) 172 hv.toInt.toNat 2) 175 hv.toInt.toNat tk) 118 75).toInt ≤ 40 := by rw [up_o (show (118 : Nat) ≠ 175 by decide), up_o (show (118 : Nat) ≠ 172 by decide), up_o (show (118 : Nat) ≠ 176 by decide)]; exact hj
    have z2 := zJ_cr (o := 94) (o' := 178) (c := 1) (v := -1) (by decide) z1 hj1
    have z3 := zJ_cr (o := 95) (o' := 179) (c := 1) (v := 0) (by decide) z2 (by rw [up_o (show (118 : Nat) ≠ 178 by decide)]; exact hj1)
    have z4 := zJ_cr (o := 97) (o' := 181) (c := 1) (v := v35) (by decide) z3 (by rw [up_o (show (118 : Nat) ≠ 179 by decide), up_o (show (118 : Nat) ≠ 178 by decide)]; exact hj1)
    exact k (qm_up (qm_up (qm_up (qm_up (qm_up I27 (53 + hv.toInt.toNat) 7 v28) (53 + hv.toInt.toNat) 6 tk) 94 1 (-1)) 95 1 0) 97 1 v35) (fun o ho ho2 i => ((hk_on (by omega)).trans ((hk_on (by omega)).trans ((hk_on (by omega)).trans ((hk_on (by omega)).trans ((hk_on (by omega)).trans (f_I27 o ho2 i))))))) (by rw [e]; exact zC_j eS (fun o ho i => ((hk_on (by omega)).trans ((hk_on (by omega)).trans ((hk_on (by omega)).trans ((hk_on (by omega)).trans ((hk_on (by omega)).trans rfl))))))) (by rw [e]; show zJ (jFi K 1 hv.toInt.toNat v28) _; rw [e2]; exact z4)
