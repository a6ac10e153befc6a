/-! contracts of the reference by hand -/
theorem hl_fill {L : Nat} {xs : Nat → Int32} {d : Nat} {Z : Option Value → qm_H → Prop} {h : qm_H} (h6 : 6 ≤ L) (hH : hk_H h) (hB : hk_B h.2.1)  (k : ∀ (I : Nat → Nat → Int32) (J : Nat → Nat → Int64), hk_B I → (∀ o, [22].contains o = false → ∀ i, I o i = h.2.1 o i) → Z none (h.1, I, J, h.2.2.2)) : ∀ (m : Nat) (I : Nat → Nat → Int32) (J : Nat → Nat → Int64) (q : Int32), hk_B I → (∀ o, [22].contains o = false → ∀ i, I o i = h.2.1 o i) → ((0 : Int) ≤ q.toInt ∧ q.toInt ≤ 21) → (21 - q.toInt).toNat = m → qm_Ru (some (L, xs)) (d + 10) cd_8 (5, [.ref 22, .int 12, .int q, .int 21], [], (h.1, I, J, h.2.2.2)) Z := by
  intro m
  induction m using Nat.strongRecOn with
  | ind m ih =>
    intro I J q hBI e hq hm
    refine qm_Ru.go 2 (c' := (7, [.ref 22, .int 12, .int q, .int 21], [.int 21, .int q], (h.1, I, J, h.2.2.2))) rfl ?_
    refine hk_cge (ix := q.toInt) (iy := 21) rfl rfl rfl (fun z1 => ?_) (fun z1 => ?_)
    · refine qm_Ru.go 0 (c' := (20, [.ref 22, .int 12, .int q, .int 21], [], (h.1, I, J, h.2.2.2))) rfl ?_
      refine qm_Ru.rt (v := none) (h' := (h.1, I, J, h.2.2.2)) rfl ?_
      exact k (I) (J) hBI (fun o ho i => (e o ho i))
    · refine qm_Ru.go 3 (c' := (13, [.ref 22, .int 12, .int q, .int 21], [.int 12, .int q, .ref 22], (h.1, I, J, h.2.2.2))) rfl ?_
      refine hk_ias rfl (hH.1 22 (0, 21) rfl) (by omega) (by omega) ?_
      refine qm_Ru.go 1 (c' := (17, [.ref 22, .int 12, .int (q + 1), .int 21], [], (h.1, qm_up I 22 (q.toInt.toNat) 12, J, h.2.2.2))) rfl ?_
      obtain ⟨v2, q_v2, e_v2⟩ := hk_add (x := q) (y := 1) (a := q.toInt) (b := 1) rfl rfl (by omega) (by omega)
      rw [q_v2]
      refine qm_Ru.go 1 (c' := (5, [.ref 22, .int 12, .int v2, .int 21], [], (h.1, qm_up I 22 (q.toInt.toNat) 12, J, h.2.2.2))) rfl ?_
      exact ih _ (by omega) (qm_up I 22 (q.toInt.toNat) 12) (J) v2 (hb_up (o := 22) (k := q.toInt.toNat) (x := 12) hBI ⟨(show (0 : Int) ≤ 12 from by decide), (show (12 : Int) ≤ 12 from by decide)⟩) (fun o ho i => ((hk_mod ho rfl).trans (e o ho i))) (by omega) rfl
theorem hs_fill {L : Nat} {xs : Nat → Int32} {d : Nat} {Z : Option Value → qm_H → Prop} {h : qm_H} (h6 : 6 ≤ L) (hH : hk_H h) (hB : hk_B h.2.1) (k : ∀ (I : Nat → Nat → Int32) (J : Nat → Nat → Int64), hk_B I → (∀ o, [22].contains o = false → ∀ i, I o i = h.2.1 o i) → Z none (h.1, I, J, h.2.2.2)) : qm_Ru (some (L, xs)) (d + 10) cd_8 (qm_ent 4 [.ref 22, .int 12] h) Z := by
  refine qm_Ru.go 3 (c' := (3, [.ref 22, .int 12, .int 0, .float 0], [.ref 22], h)) rfl ?_
  refine hk_len rfl (hH.1 22 (0, 21) rfl) rfl ?_
  refine qm_Ru.go 1 (c' := (5, [.ref 22, .int 12, .int 0, .int 21], [], h)) rfl ?_
  exact hl_fill h6 hH hB k _ h.2.1 h.2.2.1 0 hB (fun _ _ _ => rfl) (by decide) rfl
theorem hl_lay {L : Nat} {xs : Nat → Int32} {d : Nat} {Z : Option Value → qm_H → Prop} {h : qm_H} (h6 : 6 ≤ L) (hH : hk_H h) (hB : hk_B h.2.1) (hC : hk_rc h.2.1) (k : ∀ (v : Int32) (I : Nat → Nat → Int32) (J : Nat → Nat → Int64), (0 : Int) ≤ v.toInt ∧ v.toInt ≤ 12 → hk_B I → (∀ o, [22].contains o = false → ∀ i, I o i = h.2.1 o i) → tw (pI I 22) → (I 22 20).toInt = 0 → Z (some (.int v)) (h.1, I, J, h.2.2.2)) : ∀ (m : Nat) (I : Nat → Nat → Int32) (J : Nat → Nat → Int64) (tn : Int32) (q : Int32) (l4 : Value), hk_B I → (∀ o, [22].contains o = false → ∀ i, I o i = h.2.1 o i) → (((0 : Int) ≤ q.toInt ∧ q.toInt ≤ 12) ∧ (0 : Int) ≤ tn.toInt ∧ tn.toInt ≤ q.toInt) → (tw (pI I 22)) → ((I 22 20).toInt = 0) → (12 - q.toInt).toNat = m → qm_Ru (some (L, xs)) (d + 20) cd_161 (34, [.ref 15, .ref 22, .int tn, .int q, l4], [], (h.1, I, J, h.2.2.2)) Z := by
  intro m
  induction m using Nat.strongRecOn with
  | ind m ih =>
    intro I J tn q l4 hBI e hq htw hz hm
    refine qm_Ru.go 2 (c' := (36, [.ref 15, .ref 22, .int tn, .int q, l4], [.ref 15, .int q], (h.1, I, J, h.2.2.2))) rfl ?_
    obtain ⟨v1, q_v1⟩ : ∃ v, h.2.1 15 4 = v := ⟨_, rfl⟩
    have b_v1 : (0 : Int) ≤ v1.toInt ∧ v1.toInt ≤ 12 := by rw [← q_v1]; exact hB 15 4
    refine hk_geti (v := v1) rfl (hH.1 15 (15, 8) rfl) rfl (show (I) 15 4 = _ from ((e 15 rfl 4).trans q_v1)) ?_
    refine qm_Ru.go 0 (c' := (39, [.ref 15, .ref 22, .int tn, .int q, l4], [.int v1, .int q], (h.1, I, J, h.2.2.2))) rfl ?_
    refine hk_cge (ix := q.toInt) (iy := v1.toInt) rfl rfl rfl (fun z2 => ?_) (fun z2 => ?_)
    · refine qm_Ru.go 1 (c' := (100, [.ref 15, .ref 22, .int tn, .int q, l4], [.int tn], (h.1, I, J, h.2.2.2))) rfl ?_
      refine qm_Ru.rt (v := (some (.int tn))) (h' := (h.1, I, J, h.2.2.2)) rfl ?_
      exact k tn (I) (J) (by omega) hBI (fun o ho i => (e o ho i)) htw hz
    · refine qm_Ru.go 1 (c' := (43, [.ref 15, .ref 22, .int tn, .int q, l4], [.ref 15], (h.1, I, J, h.2.2.2))) rfl ?_
      refine hk_getr rfl (hH.1 15 (15, 8) rfl) rfl (hH.2 15 3 (some 18) rfl) ?_
      refine qm_Ru.go 1 (c' := (47, [.ref 15, .ref 22, .int tn, .int q, l4], [.int q, .ref 18], (h.1, I, J, h.2.2.2))) rfl ?_
      obtain ⟨v3, q_v3⟩ : ∃ v, h.2.1 18 (q.toInt.toNat) = v := ⟨_, rfl⟩
      have b_v3 : (0 : Int) ≤ v3.toInt ∧ v3.toInt ≤ 29 := by rw [← q_v3]; exact hB 18 (q.toInt.toNat)
      refine hk_ial (v := v3) rfl (hH.1 18 (0, 12) rfl) (by omega) (by omega) (show (I) 18 (q.toInt.toNat) = _ from ((e 18 rfl (q.toInt.toNat)).trans q_v3)) ?_
      refine qm_Ru.go 2 (c' := (51, [.ref 15, .ref 22, .int tn, .int q, .int v3], [.ref 15], (h.1, I, J, h.2.2.2))) rfl ?_
      refine hk_getr rfl (hH.1 15 (15, 8) rfl) rfl (hH.2 15 0 (some 6) rfl) ?_
      refine qm_Ru.go 0 (c' := (54, [.ref 15, .ref 22, .int tn, .int q, .int v3], [.ref 6], (h.1, I, J, h.2.2.2))) rfl ?_
      refine hk_getr rfl (hH.1 6 (6, 9) rfl) rfl (hH.2 6 5 (some 11) rfl) ?_
      refine qm_Ru.go 1 (c' := (59, [.ref 15, .ref 22, .int tn, .int q, .int v3], [.int v3, .ref 11], (h.1, I, J, h.2.2.2))) rfl ?_
      obtain ⟨v4, q_v4⟩ : ∃ v, h.2.1 11 (v3.toInt.toNat) = v := ⟨_, rfl⟩
      have b_v4 : (0 : Int) ≤ v4.toInt ∧ v4.toInt ≤ 2 := by rw [← q_v4]; exact hB 11 (v3.toInt.toNat)
      refine hk_ial (v := v4) rfl (hH.1 11 (0, 30) rfl) (by omega) (by omega) (show (I) 11 (v3.toInt.toNat) = _ from ((e 11 rfl (v3.toInt.toNat)).trans q_v4)) ?_
      refine qm_Ru.go 1 (c' := (61, [.ref 15, .ref 22, .int tn, .int q, .int v3], [.int 2, .int v4], (h.1, I, J, h.2.2.2))) rfl ?_
      refine hk_cne (ix := v4.toInt) (iy := 2) rfl rfl rfl (fun z5 => ?_) (fun z5 => ?_)
      · refine qm_Ru.go 1 (c' := (96, [.ref 15, .ref 22, .int tn, .int (q + 1), .int v3], [], (h.1, I, J, h.2.2.2))) rfl ?_
        obtain ⟨v6, q_v6, e_v6⟩ := hk_add (x := q) (y := 1) (a := q.toInt) (b := 1) rfl rfl (by omega) (by omega)
        rw [q_v6]
        refine qm_Ru.go 1 (c' := (34, [.ref 15, .ref 22, .int tn, .int v6, .int v3], [], (h.1, I, J, h.2.2.2))) rfl ?_
        exact ih _ (by omega) (I) (J) tn v6 (.int v3) hBI (fun o ho i => (e o ho i)) (by omega) htw hz rfl
      · refine qm_Ru.go 2 (c' := (66, [.ref 15, .ref 22, .int tn, .int q, .int v3], [.ref 15, .ref 22], (h.1, I, J, h.2.2.2))) rfl ?_
        refine hk_getr rfl (hH.1 15 (15, 8) rfl) rfl (hH.2 15 0 (some 6) rfl) ?_
        refine qm_Ru.go 0 (c' := (69, [.ref 15, .ref 22, .int tn, .int q, .int v3], [.ref 6, .ref 22], (h.1, I, J, h.2.2.2))) rfl ?_
        refine hk_getr rfl (hH.1 6 (6, 9) rfl) rfl (hH.2 6 6 (some 12) rfl) ?_
        refine qm_Ru.go 1 (c' := (74, [.ref 15, .ref 22, .int tn, .int q, .int v3], [.int v3, .ref 12, .ref 22], (h.1, I, J, h.2.2.2))) rfl ?_
        obtain ⟨v7, q_v7⟩ : ∃ v, h.2.1 12 (v3.toInt.toNat) = v := ⟨_, rfl⟩
        have b_v7 : (-1 : Int) ≤ v7.toInt ∧ v7.toInt ≤ 4 := by rw [← q_v7]; exact hB 12 (v3.toInt.toNat)
        refine hk_ial (v := v7) rfl (hH.1 12 (0, 30) rfl) (by omega) (by omega) (show (I) 12 (v3.toInt.toNat) = _ from ((e 12 rfl (v3.toInt.toNat)).trans q_v7)) ?_
        refine qm_Ru.go 0 (c' := (75, [.ref 15, .ref 22, .int tn, .int q, .int v3], [.int v7, .ref 22], (h.1, I, J, h.2.2.2))) rfl ?_
        have r_v7 : (0 : Int) ≤ v7.toInt ∧ v7.toInt ≤ 3 := by rw [← q_v7]; exact ((hC (v3.toInt.toNat)).2 (show (h.2.1 11 (v3.toInt.toNat)).toInt = 2 from by rw [q_v4]; omega)).1
        refine qm_Ru.go 2 (c' := (77, [.ref 15, .ref 22, .int tn, .int q, .int v3], [.int (v7 * 4), .ref 22], (h.1, I, J, h.2.2.2))) rfl ?_
        obtain ⟨v8, q_v8, e_v8⟩ := hk_mul (x := v7) (y := 4) (a := v7.toInt) (b := 4) rfl rfl (by omega) (by omega)
        rw [q_v8]
        refine qm_Ru.go 1 (c' := (78, [.ref 15, .ref 22, .int tn, .int q, .int v3], [.ref 15, .int v8, .ref 22], (h.1, I, J, h.2.2.2))) rfl ?_
        refine hk_getr rfl (hH.1 15 (15, 8) rfl) rfl (hH.2 15 0 (some 6) rfl) ?_
        refine qm_Ru.go 0 (c' := (81, [.ref 15, .ref 22, .int tn, .int q, .int v3], [.ref 6, .int v8, .ref 22], (h.1, I, J, h.2.2.2))) rfl ?_
        refine hk_getr rfl (hH.1 6 (6, 9) rfl) rfl (hH.2 6 8 (some 14) rfl) ?_
        refine qm_Ru.go 1 (c' := (86, [.ref 15, .ref 22, .int tn, .int q, .int v3], [.int v3, .ref 14, .int v8, .ref 22], (h.1, I, J, h.2.2.2))) rfl ?_
        obtain ⟨v9, q_v9⟩ : ∃ v, h.2.1 14 (v3.toInt.toNat) = v := ⟨_, rfl⟩
        have b_v9 : (-1 : Int) ≤ v9.toInt ∧ v9.toInt ≤ 3 := by rw [← q_v9]; exact hB 14 (v3.toInt.toNat)
        refine hk_ial (v := v9) rfl (hH.1 14 (0, 30) rfl) (by omega) (by omega) (show (I) 14 (v3.toInt.toNat) = _ from ((e 14 rfl (v3.toInt.toNat)).trans q_v9)) ?_
        refine qm_Ru.go 0 (c' := (87, [.ref 15, .ref 22, .int tn, .int q, .int v3], [.int v9, .int v8, .ref 22], (h.1, I, J, h.2.2.2))) rfl ?_
        have r_v9 : (0 : Int) ≤ v9.toInt ∧ v9.toInt ≤ 3 := by rw [← q_v9]; exact ((hC (v3.toInt.toNat)).2 (show (h.2.1 11 (v3.toInt.toNat)).toInt = 2 from by rw [q_v4]; omega)).2
        refine qm_Ru.go 1 (c' := (88, [.ref 15, .ref 22, .int tn, .int q, .int v3], [.int (v8 + v9), .ref 22], (h.1, I, J, h.2.2.2))) rfl ?_
        obtain ⟨v10, q_v10, e_v10⟩ := hk_add (x := v8) (y := v9) (a := v8.toInt) (b := v9.toInt) rfl rfl (by omega) (by omega)
        rw [q_v10]
        refine qm_Ru.go 1 (c' := (89, [.ref 15, .ref 22, .int tn, .int q, .int v3], [.int tn, .int v10, .ref 22], (h.1, I, J, h.2.2.2))) rfl ?_
        refine hk_ias rfl (hH.1 22 (0, 21) rfl) (by omega) (by omega) ?_
        refine qm_Ru.go 1 (c' := (93, [.ref 15, .ref 22, .int (tn + 1), .int q, .int v3], [], (h.1, qm_up I 22 (v10.toInt.toNat) tn, J, h.2.2.2))) rfl ?_
        obtain ⟨v11, q_v11, e_v11⟩ := hk_add (x := tn) (y := 1) (a := tn.toInt) (b := 1) rfl rfl (by omega) (by omega)
        rw [q_v11]
        refine qm_Ru.go 1 (c' := (96, [.ref 15, .ref 22, .int v11, .int (q + 1), .int v3], [], (h.1, qm_up I 22 (v10.toInt.toNat) tn, J, h.2.2.2))) rfl ?_
        obtain ⟨v12, q_v12, e_v12⟩ := hk_add (x := q) (y := 1) (a := q.toInt) (b := 1) rfl rfl (by omega) (by omega)
        rw [q_v12]
        refine qm_Ru.go 1 (c' := (34, [.ref 15, .ref 22, .int v11, .int v12, .int v3], [], (h.1, qm_up I 22 (v10.toInt.toNat) tn, J, h.2.2.2))) rfl ?_
        exact ih _ (by omega) (qm_up I 22 (v10.toInt.toNat) tn) (J) v11 v12 (.int v3) (hb_up (o := 22) (k := v10.toInt.toNat) (x := tn) hBI ⟨by show (0 : Int) ≤ tn.toInt; omega, by show tn.toInt ≤ (12 : Int); omega⟩) (fun o ho i => ((hk_mod ho rfl).trans (e o ho i))) (by omega) (fun s hs => by show 0 ≤ ((qm_up I 22 (v10.toInt.toNat) tn) 22 _).toInt ∧ ((qm_up I 22 (v10.toInt.toNat) tn) 22 _).toInt ≤ 4; rw [hk_neq (by omega)]; exact htw s hs) ((congrArg Int32.toInt (hk_neq (by omega))).trans hz) rfl
theorem hs_lay {L : Nat} {xs : Nat → Int32} {d : Nat} {Z : Option Value → qm_H → Prop} {h : qm_H} (h6 : 6 ≤ L) (hH : hk_H h) (hB : hk_B h.2.1) (hC : hk_rc h.2.1) (k : ∀ (v : Int32) (I : Nat → Nat → Int32) (J : Nat → Nat → Int64), (0 : Int) ≤ v.toInt ∧ v.toInt ≤ 12 → hk_B I → (∀ o, [22].contains o = false → ∀ i, I o i = h.2.1 o i) → tw (pI I 22) → (I 22 20).toInt = 0 → Z (some (.int v)) (h.1, I, J, h.2.2.2)) : qm_Ru (some (L, xs)) (d + 20) cd_161 (qm_ent 5 [.ref 15] h) Z := by
  refine qm_Ru.go 1 (c' := (1, [.ref 15, .float 0, .float 0, .float 0, .float 0], [.ref 15], h)) rfl ?_
  refine hk_getr rfl (hH.1 15 (15, 8) rfl) rfl (hH.2 15 7 (some 21) rfl) ?_
  refine qm_Ru.go 1 (c' := (5, [.ref 15, .float 0, .float 0, .float 0, .float 0], [.int 0, .ref 21], h)) rfl ?_
  refine hk_aal rfl (hH.1 21 (4, 6) rfl) (by decide) (by decide) (hH.2 21 0 (some 22) rfl) ?_
  refine qm_Ru.go 3 (c' := (10, [.ref 15, .ref 22, .float 0, .float 0, .float 0], [.int 12, .ref 22], h)) rfl ?_
  refine qm_Ru.call (j := 8) (as := [.ref 22, .int 12]) (c' := (13, [.ref 15, .ref 22, .float 0, .float 0, .float 0], [], h)) rfl rfl rfl (hs_fill (h := h) h6 hH hB (fun I1 J2 hB_I1 e_I1 => ?_))
  refine qm_Ru.go 1 (c' := (14, [.ref 15, .ref 22, .float 0, .float 0, .float 0], [.ref 15], (h.1, I1, J2, h.2.2.2))) rfl ?_
  refine hk_getr rfl (hH.1 15 (15, 8) rfl) rfl (hH.2 15 2 (some 17) rfl) ?_
  refine qm_Ru.go 4 (c' := (22, [.ref 15, .ref 22, .float 0, .float 0, .float 0], [.int 4, .int 16, .ref 22, .int 0, .ref 17], (h.1, I1, J2, h.2.2.2))) rfl ?_
  refine hk_acp rfl (hH.1 17 (0, 4) rfl) (hH.1 22 (0, 21) rfl) rfl ?_
  refine qm_Ru.go 0 (c' := (25, [.ref 15, .ref 22, .float 0, .float 0, .float 0], [], (h.1, qm_cp (I1) 17 0 22 16 4, J2, h.2.2.2))) rfl ?_
  obtain ⟨I3, d_I3⟩ : ∃ J, qm_cp (I1) 17 0 22 16 4 = J := ⟨_, rfl⟩
  rw [d_I3]
  have hB_I3 : hk_B I3 := by rw [← d_I3]; exact cp_B hB_I1 (fun i hi => ⟨(hB_I1 17 _).1, Int.le_trans (hB_I1 17 _).2 (show (4 : Int) ≤ 12 from by decide)⟩)
  have e_I3 : ∀ o, [22].contains o = false → ∀ i, I3 o i = (I1) o i := fun o ho i => by rw [← d_I3]; exact cp_ot (fun c => by subst c; cases ho)
  have ci_I3 : ∀ i : Nat, i < 4 → I3 22 (16 + i) = (I1) 17 (0 + i) := fun i hi => by rw [← d_I3]; exact cp_in hi
  refine qm_Ru.go 3 (c' := (29, [.ref 15, .ref 22, .float 0, .float 0, .float 0], [.int 0, .int 20, .ref 22], (h.1, I3, J2, h.2.2.2))) rfl ?_
  refine hk_ias rfl (hH.1 22 (0, 21) rfl) (by decide) (by decide) ?_
  refine qm_Ru.go 4 (c' := (34, [.ref 15, .ref 22, .int 0, .int 0, .float 0], [], (h.1, qm_up I3 22 20 0, J2, h.2.2.2))) rfl ?_
  exact hl_lay h6 hH hB hC k _ (qm_up I3 22 20 0) (J2) 0 0 _ (hb_up (o := 22) (k := 20) (x := 0) hB_I3 ⟨(show (0 : Int) ≤ 0 from by decide), (show (0 : Int) ≤ 12 from by decide)⟩) (fun o ho i => ((hk_mod ho rfl).trans ((e_I3 o (hk_ms rfl ho) i).trans ((e_I1 o (hk_ms rfl ho) i).trans rfl)))) (by decide) (fun s hs => by show 0 ≤ ((qm_up I3 22 20 0) 22 (16 + s)).toInt ∧ ((qm_up I3 22 20 0) 22 (16 + s)).toInt ≤ 4; rw [hk_neq (by omega), ci_I3 s hs]; exact hB_I1 17 _) (congrArg Int32.toInt hk_same) rfl
