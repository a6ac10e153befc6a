/-! contracts of the reference by hand -/
theorem hl_lorry {L : Nat} {xs : Nat → Int32} {d : Nat} {Z : Option Value → qm_H → Prop} {h : qm_H} (h6 : 6 ≤ L) (hH : hk_H h) (hB : hk_B h.2.1) (hV : v_S h.2.1) {b : Int32} (b_b : (0 : Int) ≤ b.toInt ∧ b.toInt ≤ 29) (h12 : (h.2.1 118 59).toInt ≠ 12) (k : ∀ (v : Int32) (I : Nat → Nat → Int32) (J : Nat → Nat → Int64), hk_B I → v_S I → (∀ o, [118, 158].contains o = false → ∀ i, I o i = h.2.1 o i) → Z (some (.int v)) (h.1, I, J, h.2.2.2)) : ∀ (m : Nat) (I : Nat → Nat → Int32) (J : Nat → Nat → Int64) (q : Int32), hk_B I → (∀ o, [].contains o = false → ∀ i, I o i = h.2.1 o i) → ((0 : Int) ≤ q.toInt ∧ q.toInt ≤ 12) → (∀ i : Nat, i < q.toInt.toNat → (h.2.1 158 i).toInt ≠ b.toInt) → (12 - q.toInt).toNat = m → qm_Ru (some (L, xs)) (d + 20) cd_328 (31, [.ref 118, .int b, .int q], [], (h.1, I, J, h.2.2.2)) Z := by
  intro m
  induction m using Nat.strongRecOn with
  | ind m ih =>
    intro I J q hBI e hq hb hm
    refine qm_Ru.go 2 (c' := (33, [.ref 118, .int b, .int q], [.ref 118, .int q], (h.1, I, J, h.2.2.2))) rfl ?_
    obtain ⟨v1, q_v1⟩ : ∃ v, h.2.1 118 59 = v := ⟨_, rfl⟩
    have b_v1 : (0 : Int) ≤ v1.toInt ∧ v1.toInt ≤ 12 := by rw [← q_v1]; exact hB 118 59
    refine hk_geti (v := v1) rfl (hH.1 118 (17, 105) rfl) rfl (show (I) 118 59 = _ from ((e 118 rfl 59).trans q_v1)) ?_
    refine qm_Ru.go 0 (c' := (36, [.ref 118, .int b, .int q], [.int v1, .int q], (h.1, I, J, h.2.2.2))) rfl ?_
    have h12 : v1.toInt ≠ 12 := by rw [← q_v1]; exact h12
    refine hk_cge (ix := q.toInt) (iy := v1.toInt) rfl rfl rfl (fun z2 => ?_) (fun z2 => ?_)
    · refine qm_Ru.go 1 (c' := (58, [.ref 118, .int b, .int q], [.ref 118], (h.1, I, J, h.2.2.2))) rfl ?_
      refine hk_getr rfl (hH.1 118 (17, 105) rfl) rfl (hH.2 118 60 (some 158) rfl) ?_
      refine qm_Ru.go 1 (c' := (62, [.ref 118, .int b, .int q], [.ref 118, .ref 158], (h.1, I, J, h.2.2.2))) rfl ?_
      refine hk_geti (v := v1) rfl (hH.1 118 (17, 105) rfl) rfl (show (I) 118 59 = _ from ((e 118 rfl 59).trans q_v1)) ?_
      refine qm_Ru.go 1 (c' := (66, [.ref 118, .int b, .int q], [.int b, .int v1, .ref 158], (h.1, I, J, h.2.2.2))) rfl ?_
      refine hk_ias rfl (hH.1 158 (0, 12) rfl) (by omega) (by omega) ?_
      refine qm_Ru.go 2 (c' := (69, [.ref 118, .int b, .int q], [.ref 118, .ref 118], (h.1, qm_up I 158 (v1.toInt.toNat) b, J, h.2.2.2))) rfl ?_
      refine hk_geti (v := v1) rfl (hH.1 118 (17, 105) rfl) rfl (show (qm_up I 158 (v1.toInt.toNat) b) 118 59 = _ from ((hk_ot rfl).trans ((e 118 rfl 59).trans q_v1))) ?_
      refine qm_Ru.go 2 (c' := (74, [.ref 118, .int b, .int q], [.int (v1 + 1), .ref 118], (h.1, qm_up I 158 (v1.toInt.toNat) b, J, h.2.2.2))) rfl ?_
      obtain ⟨v3, q_v3, e_v3⟩ := hk_add (x := v1) (y := 1) (a := v1.toInt) (b := 1) rfl rfl (by omega) (by omega)
      rw [q_v3]
      refine hk_puti rfl (hH.1 118 (17, 105) rfl) rfl ?_
      refine qm_Ru.go 1 (c' := (78, [.ref 118, .int b, .int q], [.ref 118], (h.1, qm_up (qm_up I 158 (v1.toInt.toNat) b) 118 59 v3, J, h.2.2.2))) rfl ?_
      refine hk_geti (v := v3) rfl (hH.1 118 (17, 105) rfl) rfl (show (qm_up (qm_up I 158 (v1.toInt.toNat) b) 118 59 v3) 118 59 = _ from (hk_same)) ?_
      refine qm_Ru.go 0 (c' := (81, [.ref 118, .int b, .int q], [.int v3], (h.1, qm_up (qm_up I 158 (v1.toInt.toNat) b) 118 59 v3, J, h.2.2.2))) rfl ?_
      refine qm_Ru.rt (v := (some (.int v3))) (h' := (h.1, qm_up (qm_up I 158 (v1.toInt.toNat) b) 118 59 v3, J, h.2.2.2)) rfl ?_
      exact k v3 (qm_up (qm_up I 158 (v1.toInt.toNat) b) 118 59 v3) (J) (hb_up (o := 118) (k := 59) (x := v3) (hb_up (o := 158) (k := v1.toInt.toNat) (x := b) hBI ⟨by show (0 : Int) ≤ b.toInt; omega, by show b.toInt ≤ (29 : Int); omega⟩) ⟨by show (0 : Int) ≤ v3.toInt; omega, by show v3.toInt ≤ (12 : Int); omega⟩) (by rw [(show I = h.2.1 from funext fun o => funext fun i => e o rfl i)]; exact v_S_add (b := b.toInt) hV q_v1 ((congrArg Int32.toInt hk_same).trans (by omega)) ((pI_sk rfl).trans (pI_up.trans rfl)) (fun i hi => hb i (by omega)) (by omega) (v_Q_cg3 hV.1 (List.forall_mem_cons.mpr ⟨((pI_sk rfl).trans ((pI_sk rfl).trans rfl)), List.forall_mem_cons.mpr ⟨((pI_sk rfl).trans ((pI_sk rfl).trans rfl)), List.forall_mem_cons.mpr ⟨((pI_sk rfl).trans ((pI_sk rfl).trans rfl)), List.forall_mem_cons.mpr ⟨((pI_sk rfl).trans ((pI_sk rfl).trans rfl)), List.forall_mem_cons.mpr ⟨((pI_sk rfl).trans ((pI_sk rfl).trans rfl)), List.forall_mem_cons.mpr ⟨((pI_sk rfl).trans ((pI_sk rfl).trans rfl)), List.forall_mem_cons.mpr ⟨((pI_sk rfl).trans ((pI_sk rfl).trans rfl)), List.forall_mem_cons.mpr ⟨((pI_sk rfl).trans ((pI_sk rfl).trans rfl)), List.forall_mem_cons.mpr ⟨((pI_sk rfl).trans ((pI_sk rfl).trans rfl)), List.forall_mem_cons.mpr ⟨((pI_sk rfl).trans ((pI_sk rfl).trans rfl)), List.forall_mem_cons.mpr ⟨((pI_sk rfl).trans ((pI_sk rfl).trans rfl)), List.forall_mem_cons.mpr ⟨((pI_sk rfl).trans ((pI_sk rfl).trans rfl)), List.forall_mem_cons.mpr ⟨((pI_sk rfl).trans ((pI_sk rfl).trans rfl)), List.forall_mem_cons.mpr ⟨((pI_sk rfl).trans ((pI_sk rfl).trans rfl)), List.forall_mem_cons.mpr ⟨((pI_sk rfl).trans ((pI_sk rfl).trans rfl)), List.forall_mem_cons.mpr ⟨((pI_sk rfl).trans ((pI_sk rfl).trans rfl)), List.forall_mem_cons.mpr ⟨((pI_sk rfl).trans ((pI_sk rfl).trans rfl)), List.forall_mem_cons.mpr ⟨((pI_sk rfl).trans ((pI_sk rfl).trans rfl)), fun _ h => absurd h List.not_mem_nil⟩⟩⟩⟩⟩⟩⟩⟩⟩⟩⟩⟩⟩⟩⟩⟩⟩⟩) ((hk_neq (by decide)).trans ((hk_ot rfl).trans rfl)) ((hk_neq (by decide)).trans ((hk_ot rfl).trans rfl)))) (fun o ho i => (hk_mod ho rfl).trans ((hk_mod ho rfl).trans (e o rfl i)))
    · refine qm_Ru.go 1 (c' := (40, [.ref 118, .int b, .int q], [.ref 118], (h.1, I, J, h.2.2.2))) rfl ?_
      refine hk_getr rfl (hH.1 118 (17, 105) rfl) rfl (hH.2 118 60 (some 158) rfl) ?_
      refine qm_Ru.go 1 (c' := (44, [.ref 118, .int b, .int q], [.int q, .ref 158], (h.1, I, J, h.2.2.2))) rfl ?_
      obtain ⟨v4, q_v4⟩ : ∃ v, h.2.1 158 (q.toInt.toNat) = v := ⟨_, rfl⟩
      have b_v4 : (0 : Int) ≤ v4.toInt ∧ v4.toInt ≤ 29 := by rw [← q_v4]; exact hB 158 (q.toInt.toNat)
      refine hk_ial (v := v4) rfl (hH.1 158 (0, 12) rfl) (by omega) (by omega) (show (I) 158 (q.toInt.toNat) = _ from ((e 158 rfl (q.toInt.toNat)).trans q_v4)) ?_
      refine qm_Ru.go 1 (c' := (46, [.ref 118, .int b, .int q], [.int b, .int v4], (h.1, I, J, h.2.2.2))) rfl ?_
      refine hk_cne (ix := v4.toInt) (iy := b.toInt) rfl rfl rfl (fun z5 => ?_) (fun z5 => ?_)
      · refine qm_Ru.go 1 (c' := (54, [.ref 118, .int b, .int (q + 1)], [], (h.1, I, J, h.2.2.2))) rfl ?_
        obtain ⟨v6, q_v6, e_v6⟩ := hk_add (x := q) (y := 1) (a := q.toInt) (b := 1) rfl rfl (by omega) (by omega)
        rw [q_v6]
        refine qm_Ru.go 1 (c' := (31, [.ref 118, .int b, .int v6], [], (h.1, I, J, h.2.2.2))) rfl ?_
        exact ih _ (by omega) (I) (J) v6 hBI (fun o ho i => (e o ho i)) (by omega) (fun i hi => if c : i = q.toInt.toNat then (by subst c; rw [q_v4]; omega) else hb i (by omega)) rfl
      · refine qm_Ru.go 1 (c' := (50, [.ref 118, .int b, .int q], [.int (-1)], (h.1, I, J, h.2.2.2))) rfl ?_
        refine qm_Ru.rt (v := (some (.int (-1)))) (h' := (h.1, I, J, h.2.2.2)) rfl ?_
        exact k ((-1)) (I) (J) hBI (by rw [show I = h.2.1 from funext fun o => funext fun i => e o rfl i]; exact hV) (fun o _ i => e o rfl i)
theorem hc_rlorry : hk_ct v_S (fun _ => True) (fun as I => ∃ b : Int32, as = [.ref 118, .int b]) 328 (some (-2147483648, 2147483647)) [118, 158] 30 := by
  intro L xs d Z h as h6 hH hT hB hV hp hd k
  obtain ⟨b, rfl⟩ := hp
  obtain ⟨d, rfl⟩ : ∃ e, d = e + 30 := ⟨d - 30, by omega⟩
  show qm_Ru (some (L, xs)) (d + 30) cd_328 (qm_ent 3 [.ref 118, .int b] h) Z
  refine qm_Ru.go 1 (c' := (1, [.ref 118, .int b, .float 0], [.ref 118], h)) rfl ?_
  obtain ⟨v1, q_v1⟩ : ∃ v, h.2.1 118 59 = v := ⟨_, rfl⟩
  have b_v1 : (0 : Int) ≤ v1.toInt ∧ v1.toInt ≤ 12 := by rw [← q_v1]; exact hB 118 59
  refine hk_geti (v := v1) rfl (hH.1 118 (17, 105) rfl) rfl q_v1 ?_
  refine qm_Ru.go 1 (c' := (6, [.ref 118, .int b, .float 0], [.int 12, .int v1], h)) rfl ?_
  refine hk_ceq (ix := v1.toInt) (iy := 12) rfl rfl rfl (fun z2 => ?_) (fun z2 => ?_)
  · refine qm_Ru.go 1 (c' := (28, [.ref 118, .int b, .float 0], [.int (-1)], h)) rfl ?_
    refine qm_Ru.rt (v := (some (.int (-1)))) (h' := h) rfl ?_
    exact k (some (.int (-1))) h.2.1 h.2.2.1 ⟨_, rfl, qa_in_full _⟩ hB hV (fun _ _ _ => rfl)
  · refine qm_Ru.go 2 (c' := (11, [.ref 118, .int b, .float 0], [.int b, .ref 118], h)) rfl ?_
    refine hk_inv (o := 118) (r := []) (as := [.ref 118, .int b]) rfl rfl (hH.1 118 (17, 105) rfl) rfl rfl rfl rfl ?_
    refine qm_Ru.go 3 (c' := (3, [.ref 118, .int b], [.ref 118, .int 0, .int b], h)) rfl ?_
    obtain ⟨v3, q_v3⟩ : ∃ v, h.2.1 118 44 = v := ⟨_, rfl⟩
    have b_v3 : (0 : Int) ≤ v3.toInt ∧ v3.toInt ≤ 30 := by rw [← q_v3]; exact hB 118 44
    refine hk_geti (v := v3) rfl (hH.1 118 (17, 105) rfl) rfl q_v3 ?_
    refine qm_Ru.go 2 (c' := (8, [.ref 118, .int b], [.int (v3 - 1), .int 0, .int b], h)) rfl ?_
    obtain ⟨v4, q_v4, e_v4⟩ := hk_sub (x := v3) (y := 1) (a := v3.toInt) (b := 1) rfl rfl (by omega) (by omega)
    rw [q_v4]
    refine qm_Ru.call (j := 270) (as := [.int b, .int 0, .int v4]) (c' := (11, [.ref 118, .int b], [], h)) rfl rfl rfl ?_
    refine qm_Ru.go 2 (c' := (2, [.int b, .int 0, .int v4], [.int 0, .int b], h)) rfl ?_
    refine hk_clt (ix := b.toInt) (iy := 0) rfl rfl rfl (fun z5 => ?_) (fun z5 => ?_)
    · refine qm_Ru.go 1 (c' := (15, [.int b, .int 0, .int v4], [.int 0], h)) rfl ?_
      refine qm_Ru.rt (v := (some (.int 0))) (h' := h) rfl ?_
      refine qm_Ru.go 0 (c' := (11, [.ref 118, .int b], [.int 0], h)) rfl ?_
      refine qm_Ru.rt (v := (some (.int 0))) (h' := h) rfl ?_
      refine qm_Ru.go 2 (c' := (28, [.ref 118, .int b, .float 0], [.int (-1)], h)) rfl ?_
      refine qm_Ru.rt (v := (some (.int (-1)))) (h' := h) rfl ?_
      exact k (some (.int (-1))) h.2.1 h.2.2.1 ⟨_, rfl, qa_in_full _⟩ hB hV (fun _ _ _ => rfl)
    · refine qm_Ru.go 2 (c' := (7, [.int b, .int 0, .int v4], [.int v4, .int b], h)) rfl ?_
      refine hk_cgt (ix := b.toInt) (iy := v4.toInt) rfl rfl rfl (fun z6 => ?_) (fun z6 => ?_)
      · refine qm_Ru.go 1 (c' := (15, [.int b, .int 0, .int v4], [.int 0], h)) rfl ?_
        refine qm_Ru.rt (v := (some (.int 0))) (h' := h) rfl ?_
        refine qm_Ru.go 0 (c' := (11, [.ref 118, .int b], [.int 0], h)) rfl ?_
        refine qm_Ru.rt (v := (some (.int 0))) (h' := h) rfl ?_
        refine qm_Ru.go 2 (c' := (28, [.ref 118, .int b, .float 0], [.int (-1)], h)) rfl ?_
        refine qm_Ru.rt (v := (some (.int (-1)))) (h' := h) rfl ?_
        exact k (some (.int (-1))) h.2.1 h.2.2.1 ⟨_, rfl, qa_in_full _⟩ hB hV (fun _ _ _ => rfl)
      · refine qm_Ru.go 2 (c' := (15, [.int b, .int 0, .int v4], [.int 1], h)) rfl ?_
        refine qm_Ru.rt (v := (some (.int 1))) (h' := h) rfl ?_
        refine qm_Ru.go 0 (c' := (11, [.ref 118, .int b], [.int 1], h)) rfl ?_
        refine qm_Ru.rt (v := (some (.int 1))) (h' := h) rfl ?_
        refine qm_Ru.go 2 (c' := (18, [.ref 118, .int b, .float 0], [.ref 118], h)) rfl ?_
        refine hk_getr rfl (hH.1 118 (17, 105) rfl) rfl (hH.2 118 49 (some 150) rfl) ?_
        refine qm_Ru.go 1 (c' := (22, [.ref 118, .int b, .float 0], [.int b, .ref 150], h)) rfl ?_
        obtain ⟨v7, q_v7⟩ : ∃ v, h.2.1 150 (b.toInt.toNat) = v := ⟨_, rfl⟩
        have b_v7 : (0 : Int) ≤ v7.toInt ∧ v7.toInt ≤ 2 := by rw [← q_v7]; exact hB 150 (b.toInt.toNat)
        refine hk_ial (v := v7) rfl (hH.1 150 (0, 30) rfl) (by omega) (by omega) q_v7 ?_
        refine qm_Ru.go 1 (c' := (24, [.ref 118, .int b, .float 0], [.int 2, .int v7], h)) rfl ?_
        refine hk_ceq (ix := v7.toInt) (iy := 2) rfl rfl rfl (fun z8 => ?_) (fun z8 => ?_)
        · refine qm_Ru.go 2 (c' := (31, [.ref 118, .int b, .int 0], [], h)) rfl ?_
          exact hl_lorry h6 hH hB hV (by omega) (by rw [q_v1]; omega) (fun v I J hB2 hV2 e => k (some (.int v)) I J ⟨_, rfl, qa_in_full _⟩ hB2 hV2 e) _ h.2.1 h.2.2.1 0 hB (fun _ _ _ => rfl) (by decide) (fun i hi => absurd hi (Nat.not_lt_zero i)) rfl
        · refine qm_Ru.go 1 (c' := (28, [.ref 118, .int b, .float 0], [.int (-1)], h)) rfl ?_
          refine qm_Ru.rt (v := (some (.int (-1)))) (h' := h) rfl ?_
          exact k (some (.int (-1))) h.2.1 h.2.2.1 ⟨_, rfl, qa_in_full _⟩ hB hV (fun _ _ _ => rfl)
theorem hc_rclear : hk_ct v_S (fun _ => True) (fun as I => as = [.ref 118]) 329 (some (-2147483648, 2147483647)) [118] 30 := by
  intro L xs d Z h as h6 hH hT hB hV hp hd k
  subst hp
  obtain ⟨d, rfl⟩ : ∃ e, d = e + 30 := ⟨d - 30, by omega⟩
  show qm_Ru (some (L, xs)) (d + 30) cd_329 (qm_ent 2 [.ref 118] h) Z
  refine qm_Ru.go 1 (c' := (1, [.ref 118, .float 0], [.ref 118], h)) rfl ?_
  obtain ⟨v1, q_v1⟩ : ∃ v, h.2.1 118 59 = v := ⟨_, rfl⟩
  have b_v1 : (0 : Int) ≤ v1.toInt ∧ v1.toInt ≤ 12 := by rw [← q_v1]; exact hB 118 59
  refine hk_geti (v := v1) rfl (hH.1 118 (17, 105) rfl) rfl q_v1 ?_
  refine qm_Ru.go 3 (c' := (7, [.ref 118, .int v1], [.int 0, .ref 118], h)) rfl ?_
  refine hk_puti rfl (hH.1 118 (17, 105) rfl) rfl ?_
  refine qm_Ru.go 1 (c' := (11, [.ref 118, .int v1], [.int v1], (h.1, qm_up h.2.1 118 59 0, h.2.2.1, h.2.2.2))) rfl ?_
  refine qm_Ru.rt (v := (some (.int v1))) (h' := (h.1, qm_up h.2.1 118 59 0, h.2.2.1, h.2.2.2)) rfl ?_
  exact k (some (.int v1)) (qm_up h.2.1 118 59 0) (h.2.2.1) ⟨_, rfl, qa_in_full _⟩ (hb_up (o := 118) (k := 59) (x := 0) hB ⟨(show (0 : Int) ≤ 0 from by decide), (show (0 : Int) ≤ 12 from by decide)⟩) (v_S_none (v_Q_cg3 hV.1 (List.forall_mem_cons.mpr ⟨((pI_sk rfl).trans rfl), List.forall_mem_cons.mpr ⟨((pI_sk rfl).trans rfl), List.forall_mem_cons.mpr ⟨((pI_sk rfl).trans rfl), List.forall_mem_cons.mpr ⟨((pI_sk rfl).trans rfl), List.forall_mem_cons.mpr ⟨((pI_sk rfl).trans rfl), List.forall_mem_cons.mpr ⟨((pI_sk rfl).trans rfl), List.forall_mem_cons.mpr ⟨((pI_sk rfl).trans rfl), List.forall_mem_cons.mpr ⟨((pI_sk rfl).trans rfl), List.forall_mem_cons.mpr ⟨((pI_sk rfl).trans rfl), List.forall_mem_cons.mpr ⟨((pI_sk rfl).trans rfl), List.forall_mem_cons.mpr ⟨((pI_sk rfl).trans rfl), List.forall_mem_cons.mpr ⟨((pI_sk rfl).trans rfl), List.forall_mem_cons.mpr ⟨((pI_sk rfl).trans rfl), List.forall_mem_cons.mpr ⟨((pI_sk rfl).trans rfl), List.forall_mem_cons.mpr ⟨((pI_sk rfl).trans rfl), List.forall_mem_cons.mpr ⟨((pI_sk rfl).trans rfl), List.forall_mem_cons.mpr ⟨((pI_sk rfl).trans rfl), List.forall_mem_cons.mpr ⟨((pI_sk rfl).trans rfl), fun _ h => absurd h List.not_mem_nil⟩⟩⟩⟩⟩⟩⟩⟩⟩⟩⟩⟩⟩⟩⟩⟩⟩⟩) ((hk_neq (by decide)).trans rfl) ((hk_neq (by decide)).trans rfl)) ((congrArg Int32.toInt hk_same).trans (by decide))) (fun o ho i => ((hk_mod ho rfl).trans rfl))
