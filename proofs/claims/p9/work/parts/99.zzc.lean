/-! summaries of methods by the engine -/
noncomputable def qm_stb : List Nat := []
noncomputable def qp_stb : qa_P := qa_P0 (qc_foot qm_stb)
noncomputable def qn_stb_0 : qa_Nd := (62, (0, [.ref 28, .retAddr 2, .float 0], [], (2, [(0, 0, 3066), (1, 2, 5)], [], [], [], [])), [], [(0, 100000, 0), (0, 0, 0)])
noncomputable def qn_stb_1 : qa_Nd := (62, (2, [.ref 28, .retAddr 2, .retAddr 3], [], (3, [(0, 0, 3066), (1, 2, 5), (2, 2, 5)], [(false, 1, 2)], [], [], [])), [], [(0, 1, 0), (1, 2, 5)])
theorem qk_stb_0 : qa_all qp_stb [qn_stb_1] [] (some (some (0, 1))) qn_stb_0.2.2.2 3000 (20 - qn_stb_0.2.2.1.length) qn_stb_0.1 qn_stb_0.2.1 qn_stb_0.2.2.1 = true := qf_all_ok (T := [(6200002, qn_stb_1)]) (by decide +kernel)
theorem qk_stb_1 : qa_all qp_stb [qn_stb_1] [] (some (some (0, 1))) qn_stb_1.2.2.2 3000 (20 - qn_stb_1.2.2.1.length) qn_stb_1.1 qn_stb_1.2.1 qn_stb_1.2.2.1 = true := qf_all_ok (T := [(6200002, qn_stb_1)]) (by decide +kernel)
noncomputable def qT_stb : List qa_Nd := [qn_stb_0, qn_stb_1]
theorem qN_stb : ∀ nd ∈ qT_stb, qa_nok qp_stb [] (some (some (0, 1))) 20 qT_stb nd := List.forall_mem_cons.mpr ⟨⟨by decide +kernel, 3000, [qn_stb_1], List.forall_mem_cons.mpr ⟨List.mem_cons_of_mem _ (List.mem_cons_self), fun _ h => absurd h List.not_mem_nil⟩, qk_stb_0⟩, List.forall_mem_cons.mpr ⟨⟨by decide +kernel, 3000, [qn_stb_1], List.forall_mem_cons.mpr ⟨List.mem_cons_of_mem _ (List.mem_cons_self), fun _ h => absurd h List.not_mem_nil⟩, qk_stb_1⟩, fun _ h => absurd h List.not_mem_nil⟩⟩
theorem hs_stb {L : Nat} {xs : Nat → Int32} {Z : Option Value → qm_H → Prop} {h : qm_H} {d : Nat} {x0 : Int32} (h6 : 6 ≤ L) (hH : hk_H h) (hB : hk_B h.2.1) (hr : hk_ru h.2.1) (hx0 : qa_in (2, 5) x0) (hd : 20 ≤ d) (k : ∀ (v : Int32) (I : Nat → Nat → Int32) (J : Nat → Nat → Int64), qa_in (0, 1) v → hk_B I → (∀ o, qm_stb.contains o = false → ∀ i, I o i = h.2.1 o i) → Z (some (.int v)) (h.1, I, J, h.2.2.2)) : qm_Ru (some (L, xs)) d cd_62 (qm_ent 3 [.ref 28, .int x0] h) Z := by
  refine qc_run (P := qp_stb) (S := qc_S h qm_stb) (T := qT_stb) (CT := []) (ro := (some (0, 1))) (D := 20) (j := 62) (las := [.ref 28, .retAddr 2, .float 0]) (K0 := (2, [(0, 0, 3066), (1, 2, 5)], [], [], [], [])) (rk := [(0, 100000, 0), (0, 0, 0)]) qc_loc0 h6 rfl (fun _ h => absurd h List.not_mem_nil) qN_stb List.mem_cons_self rfl rfl [0, x0] rfl ⟨rfl, List.forall_mem_cons.mpr ⟨⟨_, rfl, ⟨by decide, by decide⟩⟩, List.forall_mem_cons.mpr ⟨⟨_, rfl, hx0⟩, fun _ h => absurd h List.not_mem_nil⟩⟩, fun _ h => absurd h List.not_mem_nil, fun _ h => absurd h List.not_mem_nil⟩ ⟨fun _ h => absurd h List.not_mem_nil, fun _ h => absurd h List.not_mem_nil⟩ ⟨_, _, rfl, rfl, ⟨_, _, rfl, ⟨_, rfl, rfl⟩, ⟨_, _, rfl, rfl, rfl⟩⟩⟩ (qa_Inv_of0 hH hB ⟨rfl, rfl, fun _ _ _ => rfl⟩ hr) hd (fun r h2 hr2 hI2 => ?_)
  obtain ⟨a1, a2, a3, a4, a5⟩ := hI2
  obtain ⟨s1, s2, s3⟩ := a4
  obtain ⟨sh2, I2, J2, R2⟩ := h2
  have s1 : sh2 = h.1 := s1
  have s2 : R2 = h.2.2.2 := s2
  subst s1
  subst s2
  obtain ⟨v, e, b⟩ := hr2
  subst e
  exact k v I2 J2 b a2 s3
noncomputable def qm_begin29 : List Nat := [51, 93, 94, 95, 96, 97]
noncomputable def qp_begin29 : qa_P := qa_PC 29 111 (qc_foot qm_begin29)
noncomputable def qn_begin29_0 : qa_Nd := (12, (0, [.ref 51, .float 0], [], (1, [(0, 0, 3066)], [], [], [], [])), [], [(0, 100000, 0), (0, 0, 0)])
noncomputable def qn_begin29_1 : qa_Nd := (12, (7, [.ref 51, .retAddr 2], [], (2, [(0, 0, 3066), (1, 0, 2)], [], [], [(51, 2, .int 0)], [])), [], [(0, 1, 0), (1, 1, 2)])
theorem qk_begin29_0 : qa_all qp_begin29 [qn_begin29_1] [] (some none) qn_begin29_0.2.2.2 3000 (20 - qn_begin29_0.2.2.1.length) qn_begin29_0.1 qn_begin29_0.2.1 qn_begin29_0.2.2.1 = true := qf_all_ok (T := [(1200007, qn_begin29_1)]) (by decide +kernel)
theorem qk_begin29_1 : qa_all qp_begin29 [qn_begin29_1] [] (some none) qn_begin29_1.2.2.2 3000 (20 - qn_begin29_1.2.2.1.length) qn_begin29_1.1 qn_begin29_1.2.1 qn_begin29_1.2.2.1 = true := qf_all_ok (T := [(1200007, qn_begin29_1)]) (by decide +kernel)
noncomputable def qT_begin29 : List qa_Nd := [qn_begin29_0, qn_begin29_1]
theorem qN_begin29 : ∀ nd ∈ qT_begin29, qa_nok qp_begin29 [] (some none) 20 qT_begin29 nd := List.forall_mem_cons.mpr ⟨⟨by decide +kernel, 3000, [qn_begin29_1], List.forall_mem_cons.mpr ⟨List.mem_cons_of_mem _ (List.mem_cons_self), fun _ h => absurd h List.not_mem_nil⟩, qk_begin29_0⟩, List.forall_mem_cons.mpr ⟨⟨by decide +kernel, 3000, [qn_begin29_1], List.forall_mem_cons.mpr ⟨List.mem_cons_of_mem _ (List.mem_cons_self), fun _ h => absurd h List.not_mem_nil⟩, qk_begin29_1⟩, fun _ h => absurd h List.not_mem_nil⟩⟩
theorem hs_begin29 {L : Nat} {xs : Nat → Int32} {Z : Option Value → qm_H → Prop} {h : qm_H} {d : Nat} (h6 : 6 ≤ L) (hH : hk_H h) (hT : h.2.2.2 0 9 = some 111 ∧ h.2.2.2 28 2 = some 29) (hB : hk_B h.2.1) (hr : hk_ru h.2.1) (hd : 20 ≤ d) (k : ∀ (I : Nat → Nat → Int32) (J : Nat → Nat → Int64), hk_B I → (∀ o, qm_begin29.contains o = false → ∀ i, I o i = h.2.1 o i) → Z none (h.1, I, J, h.2.2.2)) : qm_Ru (some (L, xs)) d cd_12 (qm_ent 2 [.ref 51] h) Z := by
  refine qc_run (P := qp_begin29) (S := qc_S h qm_begin29) (T := qT_begin29) (CT := []) (ro := none) (D := 20) (j := 12) (las := [.ref 51, .float 0]) (K0 := (1, [(0, 0, 3066)], [], [], [], [])) (rk := [(0, 100000, 0), (0, 0, 0)]) qc_loc h6 rfl (fun _ h => absurd h List.not_mem_nil) qN_begin29 List.mem_cons_self rfl rfl [0] rfl ⟨rfl, List.forall_mem_cons.mpr ⟨⟨_, rfl, ⟨by decide, by decide⟩⟩, fun _ h => absurd h List.not_mem_nil⟩, fun _ h => absurd h List.not_mem_nil, fun _ h => absurd h List.not_mem_nil⟩ ⟨fun _ h => absurd h List.not_mem_nil, fun _ h => absurd h List.not_mem_nil⟩ ⟨_, _, rfl, rfl, ⟨_, _, rfl, rfl, rfl⟩⟩ (qa_Inv_of hH hT hB ⟨rfl, rfl, fun _ _ _ => rfl⟩ hr) hd (fun r h2 hr2 hI2 => ?_)
  obtain ⟨a1, a2, a3, a4, a5⟩ := hI2
  obtain ⟨s1, s2, s3⟩ := a4
  obtain ⟨sh2, I2, J2, R2⟩ := h2
  have s1 : sh2 = h.1 := s1
  have s2 : R2 = h.2.2.2 := s2
  subst s1
  subst s2
  have hr2 : r = none := hr2
  subst hr2
  exact k I2 J2 a2 s3
noncomputable def qm_begin111 : List Nat := [51, 93, 94, 95, 96, 97]
noncomputable def qp_begin111 : qa_P := qa_PC 111 29 (qc_foot qm_begin111)
noncomputable def qn_begin111_0 : qa_Nd := (12, (0, [.ref 51, .float 0], [], (1, [(0, 0, 3066)], [], [], [], [])), [], [(0, 100000, 0), (0, 0, 0)])
noncomputable def qn_begin111_1 : qa_Nd := (12, (7, [.ref 51, .retAddr 2], [], (2, [(0, 0, 3066), (1, 0, 2)], [], [], [(51, 2, .int 0)], [])), [], [(0, 1, 0), (1, 1, 2)])
theorem qk_begin111_0 : qa_all qp_begin111 [qn_begin111_1] [] (some none) qn_begin111_0.2.2.2 3000 (20 - qn_begin111_0.2.2.1.length) qn_begin111_0.1 qn_begin111_0.2.1 qn_begin111_0.2.2.1 = true := qf_all_ok (T := [(1200007, qn_begin111_1)]) (by decide +kernel)
theorem qk_begin111_1 : qa_all qp_begin111 [qn_begin111_1] [] (some none) qn_begin111_1.2.2.2 3000 (20 - qn_begin111_1.2.2.1.length) qn_begin111_1.1 qn_begin111_1.2.1 qn_begin111_1.2.2.1 = true := qf_all_ok (T := [(1200007, qn_begin111_1)]) (by decide +kernel)
noncomputable def qT_begin111 : List qa_Nd := [qn_begin111_0, qn_begin111_1]
theorem qN_begin111 : ∀ nd ∈ qT_begin111, qa_nok qp_begin111 [] (some none) 20 qT_begin111 nd := List.forall_mem_cons.mpr ⟨⟨by decide +kernel, 3000, [qn_begin111_1], List.forall_mem_cons.mpr ⟨List.mem_cons_of_mem _ (List.mem_cons_self), fun _ h => absurd h List.not_mem_nil⟩, qk_begin111_0⟩, List.forall_mem_cons.mpr ⟨⟨by decide +kernel, 3000, [qn_begin111_1], List.forall_mem_cons.mpr ⟨List.mem_cons_of_mem _ (List.mem_cons_self), fun _ h => absurd h List.not_mem_nil⟩, qk_begin111_1⟩, fun _ h => absurd h List.not_mem_nil⟩⟩
theorem hs_begin111 {L : Nat} {xs : Nat → Int32} {Z : Option Value → qm_H → Prop} {h : qm_H} {d : Nat} (h6 : 6 ≤ L) (hH : hk_H h) (hT : h.2.2.2 0 9 = some 29 ∧ h.2.2.2 28 2 = some 111) (hB : hk_B h.2.1) (hr : hk_ru h.2.1) (hd : 20 ≤ d) (k : ∀ (I : Nat → Nat → Int32) (J : Nat → Nat → Int64), hk_B I → (∀ o, qm_begin111.contains o = false → ∀ i, I o i = h.2.1 o i) → Z none (h.1, I, J, h.2.2.2)) : qm_Ru (some (L, xs)) d cd_12 (qm_ent 2 [.ref 51] h) Z := by
  refine qc_run (P := qp_begin111) (S := qc_S h qm_begin111) (T := qT_begin111) (CT := []) (ro := none) (D := 20) (j := 12) (las := [.ref 51, .float 0]) (K0 := (1, [(0, 0, 3066)], [], [], [], [])) (rk := [(0, 100000, 0), (0, 0, 0)]) qc_loc h6 rfl (fun _ h => absurd h List.not_mem_nil) qN_begin111 List.mem_cons_self rfl rfl [0] rfl ⟨rfl, List.forall_mem_cons.mpr ⟨⟨_, rfl, ⟨by decide, by decide⟩⟩, fun _ h => absurd h List.not_mem_nil⟩, fun _ h => absurd h List.not_mem_nil, fun _ h => absurd h List.not_mem_nil⟩ ⟨fun _ h => absurd h List.not_mem_nil, fun _ h => absurd h List.not_mem_nil⟩ ⟨_, _, rfl, rfl, ⟨_, _, rfl, rfl, rfl⟩⟩ (qa_Inv_of hH hT hB ⟨rfl, rfl, fun _ _ _ => rfl⟩ hr) hd (fun r h2 hr2 hI2 => ?_)
  obtain ⟨a1, a2, a3, a4, a5⟩ := hI2
  obtain ⟨s1, s2, s3⟩ := a4
  obtain ⟨sh2, I2, J2, R2⟩ := h2
  have s1 : sh2 = h.1 := s1
  have s2 : R2 = h.2.2.2 := s2
  subst s1
  subst s2
  have hr2 : r = none := hr2
  subst hr2
  exact k I2 J2 a2 s3
