/-! summaries of methods by the engine -/
noncomputable def qm_brk29 : List Nat := [34, 192, 193, 194, 195, 196, 197, 198, 199, 200, 201, 202, 203, 204, 205, 206, 207, 208, 209, 210, 211, 212, 213, 214, 215, 216, 217, 218, 219, 220, 221, 222, 223, 224, 225, 226, 227, 228, 229, 230, 231, 232, 233]
theorem qm_brk29_w : ∀ o, qm_brk29.contains o = false → qc_wm.contains o = false := by
  intro o h
  cases c : qc_wm.contains o with
  | false => rfl
  | true =>
    have key : ∀ o ∈ qc_wm, qm_brk29.contains o = true := by decide +kernel
    rw [key o (List.contains_iff_mem.mp c)] at h
    cases h
theorem qm_brk29_r : ∀ o, [11, 12, 13, 14, 150, 151].contains o = true → qm_brk29.contains o = false := by
  intro o h
  have key : ∀ o ∈ [11, 12, 13, 14, 150, 151], qm_brk29.contains o = false := by decide +kernel
  exact key o (List.contains_iff_mem.mp h)
noncomputable def qp_brk29 : qa_P := qa_PC 29 111 (qc_foot qm_brk29)
noncomputable def qn_brk29_0 : qa_Nd := (139, (0, [.ref 38, .retAddr 2, .retAddr 3, .float 0, .float 0], [], (3, [(0, 0, 3066), (1, 0, 29), (2, 0, 79)], [], [], [], [])), [], [(0, 100000, 0), (0, 0, 0)])
noncomputable def qn_brk29_1 : qa_Nd := (137, (9, [.ref 38, .retAddr 2, .retAddr 3, .retAddr 4], [], (5, [(0, 0, 3066), (1, 0, 29), (2, 0, 79), (3, 7, 13), (4, -2147483648, 2147483647)], [], [], [(29, 5, .retAddr 5)], [])), [(139, 6, [.ref 38, .retAddr 2, .retAddr 3, .float 0, .float 0], [])], [(0, 2, 0), (1, 3, 13)])
noncomputable def qn_brk29_2 : qa_Nd := (139, (35, [.ref 38, .retAddr 2, .retAddr 3, .retAddr 4, .retAddr 5], [], (7, [(0, 0, 3066), (1, 0, 29), (2, 0, 79), (3, -2147483648, 2147483647), (4, 0, 30), (5, -2147483648, 2147483647), (6, 0, 8)], [], [], [(29, 5, .retAddr 6), (29, 7, .retAddr 7)], [])), [], [(0, 1, 0), (1, 4, 30)])
theorem qk_brk29_0 : qa_all qp_brk29 [qn_brk29_1] [qc_ct 29] (some (some (-2147483648, 2147483647))) qn_brk29_0.2.2.2 3000 (50 - qn_brk29_0.2.2.1.length) qn_brk29_0.1 qn_brk29_0.2.1 qn_brk29_0.2.2.1 = true := qf_all_ok (T := [(13700009, qn_brk29_1)]) (by decide +kernel)
theorem qk_brk29_1 : qa_all qp_brk29 [qn_brk29_1, qn_brk29_2] [qc_ct 29] (some (some (-2147483648, 2147483647))) qn_brk29_1.2.2.2 3000 (50 - qn_brk29_1.2.2.1.length) qn_brk29_1.1 qn_brk29_1.2.1 qn_brk29_1.2.2.1 = true := qf_all_ok (T := [(13700009, qn_brk29_1), (13900035, qn_brk29_2)]) (by decide +kernel)
theorem qk_brk29_2 : qa_all qp_brk29 [qn_brk29_2] [qc_ct 29] (some (some (-2147483648, 2147483647))) qn_brk29_2.2.2.2 3000 (50 - qn_brk29_2.2.2.1.length) qn_brk29_2.1 qn_brk29_2.2.1 qn_brk29_2.2.2.1 = true := qf_all_ok (T := [(13900035, qn_brk29_2)]) (by decide +kernel)
noncomputable def qT_brk29 : List qa_Nd := [qn_brk29_0, qn_brk29_1, qn_brk29_2]
theorem qN_brk29 : ∀ nd ∈ qT_brk29, qa_nok qp_brk29 [qc_ct 29] (some (some (-2147483648, 2147483647))) 50 qT_brk29 nd := List.forall_mem_cons.mpr ⟨⟨by decide +kernel, 3000, [qn_brk29_1], List.forall_mem_cons.mpr ⟨List.mem_cons_of_mem _ (List.mem_cons_self), fun _ h => absurd h List.not_mem_nil⟩, qk_brk29_0⟩, List.forall_mem_cons.mpr ⟨⟨by decide +kernel, 3000, [qn_brk29_1, qn_brk29_2], List.forall_mem_cons.mpr ⟨List.mem_cons_of_mem _ (List.mem_cons_self), List.forall_mem_cons.mpr ⟨List.mem_cons_of_mem _ (List.mem_cons_of_mem _ (List.mem_cons_self)), fun _ h => absurd h List.not_mem_nil⟩⟩, qk_brk29_1⟩, List.forall_mem_cons.mpr ⟨⟨by decide +kernel, 3000, [qn_brk29_2], List.forall_mem_cons.mpr ⟨List.mem_cons_of_mem _ (List.mem_cons_of_mem _ (List.mem_cons_self)), fun _ h => absurd h List.not_mem_nil⟩, qk_brk29_2⟩, fun _ h => absurd h List.not_mem_nil⟩⟩⟩
theorem hs_brk29 {L : Nat} {xs : Nat → Int32} {Z : Option Value → qm_H → Prop} {h : qm_H} {d : Nat} {x0 x1 : Int32} (h6 : 6 ≤ L) (hH : hk_H h) (hT : h.2.2.2 0 9 = some 111 ∧ h.2.2.2 28 2 = some 29) (hB : hk_B h.2.1) (hr : hk_ru h.2.1) (hx0 : qa_in (0, 29) x0) (hx1 : qa_in (0, 79) x1) (hW : wS h 29) (hd : 50 ≤ d) (k : ∀ (v : Int32) (I : Nat → Nat → Int32) (J : Nat → Nat → Int64), qa_in (-2147483648, 2147483647) v → hk_B I → (∀ o, qm_brk29.contains o = false → ∀ i, I o i = h.2.1 o i) → Z (some (.int v)) (h.1, I, J, h.2.2.2)) : qm_Ru (some (L, xs)) d cd_139 (qm_ent 5 [.ref 38, .int x0, .int x1] h) Z := by
  refine qc_run (P := qp_brk29) (S := qc_S h qm_brk29) (T := qT_brk29) (CT := [qc_ct 29]) (ro := (some (-2147483648, 2147483647))) (D := 50) (j := 139) (las := [.ref 38, .retAddr 2, .retAddr 3, .float 0, .float 0]) (K0 := (3, [(0, 0, 3066), (1, 0, 29), (2, 0, 79)], [], [], [], [])) (rk := [(0, 100000, 0), (0, 0, 0)]) qc_loc h6 rfl (qc_held h6 hH hr (by decide) hW qm_brk29_w qm_brk29_r) qN_brk29 List.mem_cons_self rfl rfl [0, x0, x1] rfl ⟨rfl, List.forall_mem_cons.mpr ⟨⟨_, rfl, ⟨by decide, by decide⟩⟩, List.forall_mem_cons.mpr ⟨⟨_, rfl, hx0⟩, List.forall_mem_cons.mpr ⟨⟨_, rfl, hx1⟩, fun _ h => absurd h List.not_mem_nil⟩⟩⟩, fun _ h => absurd h List.not_mem_nil, fun _ h => absurd h List.not_mem_nil⟩ ⟨fun _ h => absurd h List.not_mem_nil, fun _ h => absurd h List.not_mem_nil⟩ ⟨_, _, rfl, rfl, ⟨_, _, rfl, ⟨_, rfl, rfl⟩, ⟨_, _, rfl, ⟨_, rfl, rfl⟩, ⟨_, _, rfl, rfl, ⟨_, _, rfl, rfl, rfl⟩⟩⟩⟩⟩ (qa_Inv_of hH hT hB ⟨rfl, rfl, fun _ _ _ => rfl⟩ hr) hd (fun r h2 hr2 hI2 => ?_)
  obtain ⟨a1, a2, a3, a4, a5⟩ := hI2
  obtain ⟨s1, s2, s3⟩ := a4
  obtain ⟨sh2, I2, J2, R2⟩ := h2
  have s1 : sh2 = h.1 := s1
  have s2 : R2 = h.2.2.2 := s2
  subst s1
  subst s2
  obtain ⟨v, e, b⟩ := hr2
  subst e
  exact k v I2 J2 b a2 s3
noncomputable def qm_brw29 : List Nat := [34, 192, 193, 194, 195, 196, 197, 198, 199, 200, 201, 202, 203, 204, 205, 206, 207, 208, 209, 210, 211, 212, 213, 214, 215, 216, 217, 218, 219, 220, 221, 222, 223, 224, 225, 226, 227, 228, 229, 230, 231, 232, 233]
theorem qm_brw29_w : ∀ o, qm_brw29.contains o = false → qc_wm.contains o = false := by
  intro o h
  cases c : qc_wm.contains o with
  | false => rfl
  | true =>
    have key : ∀ o ∈ qc_wm, qm_brw29.contains o = true := by decide +kernel
    rw [key o (List.contains_iff_mem.mp c)] at h
    cases h
theorem qm_brw29_r : ∀ o, [11, 12, 13, 14, 150, 151].contains o = true → qm_brw29.contains o = false := by
  intro o h
  have key : ∀ o ∈ [11, 12, 13, 14, 150, 151], qm_brw29.contains o = false := by decide +kernel
  exact key o (List.contains_iff_mem.mp h)
noncomputable def qp_brw29 : qa_P := qa_PC 29 111 (qc_foot qm_brw29)
noncomputable def qn_brw29_0 : qa_Nd := (140, (0, [.ref 38, .retAddr 2, .retAddr 3, .retAddr 4, .float 0, .float 0], [], (4, [(0, 0, 3066), (1, 0, 29), (2, 0, 79), (3, 0, 29)], [], [], [], [])), [], [(0, 0, 0)])
theorem qk_brw29_0 : qa_all qp_brw29 [] [qc_ct 29] (some (some (-2147483648, 2147483647))) qn_brw29_0.2.2.2 3000 (50 - qn_brw29_0.2.2.1.length) qn_brw29_0.1 qn_brw29_0.2.1 qn_brw29_0.2.2.1 = true := qf_all_ok (T := []) (by decide +kernel)
noncomputable def qT_brw29 : List qa_Nd := [qn_brw29_0]
theorem qN_brw29 : ∀ nd ∈ qT_brw29, qa_nok qp_brw29 [qc_ct 29] (some (some (-2147483648, 2147483647))) 50 qT_brw29 nd := List.forall_mem_cons.mpr ⟨⟨by decide +kernel, 3000, [], fun _ h => absurd h List.not_mem_nil, qk_brw29_0⟩, fun _ h => absurd h List.not_mem_nil⟩
theorem hs_brw29 {L : Nat} {xs : Nat → Int32} {Z : Option Value → qm_H → Prop} {h : qm_H} {d : Nat} {x0 x1 x2 : Int32} (h6 : 6 ≤ L) (hH : hk_H h) (hT : h.2.2.2 0 9 = some 111 ∧ h.2.2.2 28 2 = some 29) (hB : hk_B h.2.1) (hr : hk_ru h.2.1) (hx0 : qa_in (0, 29) x0) (hx1 : qa_in (0, 79) x1) (hx2 : qa_in (0, 29) x2) (hW : wS h 29) (hd : 50 ≤ d) (k : ∀ (v : Int32) (I : Nat → Nat → Int32) (J : Nat → Nat → Int64), qa_in (-2147483648, 2147483647) v → hk_B I → (∀ o, qm_brw29.contains o = false → ∀ i, I o i = h.2.1 o i) → Z (some (.int v)) (h.1, I, J, h.2.2.2)) : qm_Ru (some (L, xs)) d cd_140 (qm_ent 6 [.ref 38, .int x0, .int x1, .int x2] h) Z := by
  refine qc_run (P := qp_brw29) (S := qc_S h qm_brw29) (T := qT_brw29) (CT := [qc_ct 29]) (ro := (some (-2147483648, 2147483647))) (D := 50) (j := 140) (las := [.ref 38, .retAddr 2, .retAddr 3, .retAddr 4, .float 0, .float 0]) (K0 := (4, [(0, 0, 3066), (1, 0, 29), (2, 0, 79), (3, 0, 29)], [], [], [], [])) (rk := [(0, 0, 0)]) qc_loc h6 rfl (qc_held h6 hH hr (by decide) hW qm_brw29_w qm_brw29_r) qN_brw29 List.mem_cons_self rfl rfl [0, x0, x1, x2] rfl ⟨rfl, List.forall_mem_cons.mpr ⟨⟨_, rfl, ⟨by decide, by decide⟩⟩, List.forall_mem_cons.mpr ⟨⟨_, rfl, hx0⟩, List.forall_mem_cons.mpr ⟨⟨_, rfl, hx1⟩, List.forall_mem_cons.mpr ⟨⟨_, rfl, hx2⟩, fun _ h => absurd h List.not_mem_nil⟩⟩⟩⟩, fun _ h => absurd h List.not_mem_nil, fun _ h => absurd h List.not_mem_nil⟩ ⟨fun _ h => absurd h List.not_mem_nil, fun _ h => absurd h List.not_mem_nil⟩ ⟨_, _, rfl, rfl, ⟨_, _, rfl, ⟨_, rfl, rfl⟩, ⟨_, _, rfl, ⟨_, rfl, rfl⟩, ⟨_, _, rfl, ⟨_, rfl, rfl⟩, ⟨_, _, rfl, rfl, ⟨_, _, rfl, rfl, rfl⟩⟩⟩⟩⟩⟩ (qa_Inv_of hH hT hB ⟨rfl, rfl, fun _ _ _ => rfl⟩ hr) hd (fun r h2 hr2 hI2 => ?_)
  obtain ⟨a1, a2, a3, a4, a5⟩ := hI2
  obtain ⟨s1, s2, s3⟩ := a4
  obtain ⟨sh2, I2, J2, R2⟩ := h2
  have s1 : sh2 = h.1 := s1
  have s2 : R2 = h.2.2.2 := s2
  subst s1
  subst s2
  obtain ⟨v, e, b⟩ := hr2
  subst e
  exact k v I2 J2 b a2 s3
noncomputable def qm_lone29 : List Nat := [34, 39, 192, 193, 194, 195, 196, 197, 198, 199, 200, 201, 202, 203, 204, 205, 206, 207, 208, 209, 210, 211, 212, 213, 214, 215, 216, 217, 218, 219, 220, 221, 222, 223, 224, 225, 226, 227, 228, 229, 230, 231, 232, 233]
theorem qm_lone29_w : ∀ o, qm_lone29.contains o = false → qc_wm.contains o = false := by
  intro o h
  cases c : qc_wm.contains o with
  | false => rfl
  | true =>
    have key : ∀ o ∈ qc_wm, qm_lone29.contains o = true := by decide +kernel
    rw [key o (List.contains_iff_mem.mp c)] at h
    cases h
theorem qm_lone29_r : ∀ o, [11, 12, 13, 14, 150, 151].contains o = true → qm_lone29.contains o = false := by
  intro o h
  have key : ∀ o ∈ [11, 12, 13, 14, 150, 151], qm_lone29.contains o = false := by decide +kernel
  exact key o (List.contains_iff_mem.mp h)
noncomputable def qp_lone29 : qa_P := qa_PC 29 111 (qc_foot qm_lone29)
noncomputable def qn_lone29_0 : qa_Nd := (237, (0, [.ref 38, .retAddr 2, .float 0, .float 0], [], (2, [(0, 0, 3066), (1, 0, 29)], [], [], [], [])), [], [(0, 100000, 0), (0, 0, 0), (0, 0, 0), (0, 0, 0)])
noncomputable def qn_lone29_1 : qa_Nd := (237, (2, [.ref 38, .retAddr 2, .retAddr 3, .float 1], [], (3, [(0, 0, 3066), (1, 0, 29), (2, 0, 20)], [], [], [], [])), [], [(0, 5, 0), (1, 2, 20), (0, 100000, 0), (0, 0, 0)])
noncomputable def qn_lone29_2 : qa_Nd := (137, (9, [.ref 38, .retAddr 2, .retAddr 3, .retAddr 4], [], (10, [(0, 0, 3066), (1, 0, 29), (2, 0, 79), (3, 7, 13), (4, 0, 19), (5, 0, 3), (6, 0, 79), (7, -2147483648, 2147483647), (8, 2, 5), (9, -2147483648, 2147483647)], [(false, 5, 2), (false, 5, 6)], [], [(28, 4, .retAddr 8), (29, 0, .retAddr 9), (29, 5, .retAddr 10)], [])), [(139, 6, [.ref 38, .retAddr 2, .retAddr 3, .float 0, .float 0], []), (237, 59, [.ref 38, .retAddr 2, .retAddr 5, .retAddr 6], [.retAddr 7, .ref 39])], [(0, 5, 0), (1, 4, 20), (0, 4, 0), (1, 3, 13)])
noncomputable def qn_lone29_3 : qa_Nd := (139, (35, [.ref 38, .retAddr 2, .retAddr 3, .retAddr 4, .retAddr 5], [], (12, [(0, 0, 3066), (1, 0, 29), (2, 0, 79), (3, -2147483648, 2147483647), (4, 0, 30), (5, 0, 19), (6, 0, 3), (7, 0, 79), (8, -2147483648, 2147483647), (9, 2, 5), (10, -2147483648, 2147483647), (11, 0, 8)], [(false, 6, 2), (false, 6, 7)], [], [(28, 4, .retAddr 9), (29, 0, .retAddr 10), (29, 5, .retAddr 11), (29, 7, .retAddr 12)], [])), [(237, 59, [.ref 38, .retAddr 2, .retAddr 6, .retAddr 7], [.retAddr 8, .ref 39])], [(0, 5, 0), (1, 5, 20), (0, 3, 0), (1, 4, 30)])
noncomputable def qn_lone29_4 : qa_Nd := (137, (9, [.ref 38, .retAddr 2, .retAddr 3, .retAddr 4], [], (12, [(0, 0, 3066), (1, 0, 29), (2, 1, 79), (3, 7, 13), (4, 0, 19), (5, 0, 2), (6, 1, 79), (7, 0, 30), (8, -2147483648, 2147483647), (9, 2, 5), (10, -2147483648, 2147483647), (11, 0, 8)], [(true, 5, 2), (true, 5, 6)], [], [(6, 0, .retAddr 8), (28, 4, .retAddr 9), (29, 0, .retAddr 10), (29, 5, .retAddr 11), (29, 7, .retAddr 12)], [])), [(139, 6, [.ref 38, .retAddr 2, .retAddr 3, .float 0, .float 0], []), (237, 89, [.ref 38, .retAddr 2, .retAddr 5, .retAddr 6], [.retAddr 7, .ref 39])], [(0, 5, 0), (1, 4, 20), (0, 2, 0), (1, 3, 13)])
noncomputable def qn_lone29_5 : qa_Nd := (139, (35, [.ref 38, .retAddr 2, .retAddr 3, .retAddr 4, .retAddr 5], [], (13, [(0, 0, 3066), (1, 0, 29), (2, 1, 79), (3, -2147483648, 2147483647), (4, 0, 30), (5, 0, 19), (6, 0, 2), (7, 1, 79), (8, 0, 30), (9, -2147483648, 2147483647), (10, 2, 5), (11, -2147483648, 2147483647), (12, 0, 8)], [(false, 4, 8), (true, 6, 2), (true, 6, 7)], [], [(6, 0, .retAddr 9), (28, 4, .retAddr 10), (29, 0, .retAddr 11), (29, 5, .retAddr 12), (29, 7, .retAddr 13)], [])), [(237, 89, [.ref 38, .retAddr 2, .retAddr 6, .retAddr 7], [.retAddr 8, .ref 39])], [(0, 5, 0), (1, 5, 20), (0, 1, 0), (1, 4, 30)])
theorem qk_lone29_0 : qa_all qp_lone29 [qn_lone29_1] [qc_ct 29] (some none) qn_lone29_0.2.2.2 3000 (50 - qn_lone29_0.2.2.1.length) qn_lone29_0.1 qn_lone29_0.2.1 qn_lone29_0.2.2.1 = true := qf_all_ok (T := [(23700002, qn_lone29_1)]) (by decide +kernel)
theorem qk_lone29_1 : qa_all qp_lone29 [qn_lone29_1, qn_lone29_2] [qc_ct 29] (some none) qn_lone29_1.2.2.2 3000 (50 - qn_lone29_1.2.2.1.length) qn_lone29_1.1 qn_lone29_1.2.1 qn_lone29_1.2.2.1 = true := qf_all_ok (T := [(23700002, qn_lone29_1), (13700009, qn_lone29_2)]) (by decide +kernel)
theorem qk_lone29_2 : qa_all qp_lone29 [qn_lone29_2, qn_lone29_3] [qc_ct 29] (some none) qn_lone29_2.2.2.2 3000 (50 - qn_lone29_2.2.2.1.length) qn_lone29_2.1 qn_lone29_2.2.1 qn_lone29_2.2.2.1 = true := qf_all_ok (T := [(13700009, qn_lone29_2), (13900035, qn_lone29_3)]) (by decide +kernel)
theorem qk_lone29_3 : qa_all qp_lone29 [qn_lone29_1, qn_lone29_3, qn_lone29_4] [qc_ct 29] (some none) qn_lone29_3.2.2.2 3000 (50 - qn_lone29_3.2.2.1.length) qn_lone29_3.1 qn_lone29_3.2.1 qn_lone29_3.2.2.1 = true := qf_all_ok (T := [(23700002, qn_lone29_1), (13900035, qn_lone29_3), (13700009, qn_lone29_4)]) (by decide +kernel)
theorem qk_lone29_4 : qa_all qp_lone29 [qn_lone29_4, qn_lone29_5] [qc_ct 29] (some none) qn_lone29_4.2.2.2 3000 (50 - qn_lone29_4.2.2.1.length) qn_lone29_4.1 qn_lone29_4.2.1 qn_lone29_4.2.2.1 = true := qf_all_ok (T := [(13700009, qn_lone29_4), (13900035, qn_lone29_5)]) (by decide +kernel)
theorem qk_lone29_5 : qa_all qp_lone29 [qn_lone29_1, qn_lone29_5] [qc_ct 29] (some none) qn_lone29_5.2.2.2 3000 (50 - qn_lone29_5.2.2.1.length) qn_lone29_5.1 qn_lone29_5.2.1 qn_lone29_5.2.2.1 = true := qf_all_ok (T := [(23700002, qn_lone29_1), (13900035, qn_lone29_5)]) (by decide +kernel)
noncomputable def qT_lone29 : List qa_Nd := [qn_lone29_0, qn_lone29_1, qn_lone29_2, qn_lone29_3, qn_lone29_4, qn_lone29_5]
theorem qN_lone29 : ∀ nd ∈ qT_lone29, qa_nok qp_lone29 [qc_ct 29] (some none) 50 qT_lone29 nd := List.forall_mem_cons.mpr ⟨⟨by decide +kernel, 3000, [qn_lone29_1], List.forall_mem_cons.mpr ⟨List.mem_cons_of_mem _ (List.mem_cons_self), fun _ h => absurd h List.not_mem_nil⟩, qk_lone29_0⟩, List.forall_mem_cons.mpr ⟨⟨by decide +kernel, 3000, [qn_lone29_1, qn_lone29_2], List.forall_mem_cons.mpr ⟨List.mem_cons_of_mem _ (List.mem_cons_self), List.forall_mem_cons.mpr ⟨List.mem_cons_of_mem _ (List.mem_cons_of_mem _ (List.mem_cons_self)), fun _ h => absurd h List.not_mem_nil⟩⟩, qk_lone29_1⟩, List.forall_mem_cons.mpr ⟨⟨by decide +kernel, 3000, [qn_lone29_2, qn_lone29_3], List.forall_mem_cons.mpr ⟨List.mem_cons_of_mem _ (List.mem_cons_of_mem _ (List.mem_cons_self)), List.forall_mem_cons.mpr ⟨List.mem_cons_of_mem _ (List.mem_cons_of_mem _ (List.mem_cons_of_mem _ (List.mem_cons_self))), fun _ h => absurd h List.not_mem_nil⟩⟩, qk_lone29_2⟩, List.forall_mem_cons.mpr ⟨⟨by decide +kernel, 3000, [qn_lone29_1, qn_lone29_3, qn_lone29_4], List.forall_mem_cons.mpr ⟨List.mem_cons_of_mem _ (List.mem_cons_self), List.forall_mem_cons.mpr ⟨List.mem_cons_of_mem _ (List.mem_cons_of_mem _ (List.mem_cons_of_mem _ (List.mem_cons_self))), List.forall_mem_cons.mpr ⟨List.mem_cons_of_mem _ (List.mem_cons_of_mem _ (List.mem_cons_of_mem _ (List.mem_cons_of_mem _ (List.mem_cons_self)))), fun _ h => absurd h List.not_mem_nil⟩⟩⟩, qk_lone29_3⟩, List.forall_mem_cons.mpr ⟨⟨by decide +kernel, 3000, [qn_lone29_4, qn_lone29_5], List.forall_mem_cons.mpr ⟨List.mem_cons_of_mem _ (List.mem_cons_of_mem _ (List.mem_cons_of_mem _ (List.mem_cons_of_mem _ (List.mem_cons_self)))), List.forall_mem_cons.mpr ⟨List.mem_cons_of_mem _ (List.mem_cons_of_mem _ (List.mem_cons_of_mem _ (List.mem_cons_of_mem _ (List.mem_cons_of_mem _ (List.mem_cons_self))))), fun _ h => absurd h List.not_mem_nil⟩⟩, qk_lone29_4⟩, List.forall_mem_cons.mpr ⟨⟨by decide +kernel, 3000, [qn_lone29_1, qn_lone29_5], List.forall_mem_cons.mpr ⟨List.mem_cons_of_mem _ (List.mem_cons_self), List.forall_mem_cons.mpr ⟨List.mem_cons_of_mem _ (List.mem_cons_of_mem _ (List.mem_cons_of_mem _ (List.mem_cons_of_mem _ (List.mem_cons_of_mem _ (List.mem_cons_self))))), fun _ h => absurd h List.not_mem_nil⟩⟩, qk_lone29_5⟩, fun _ h => absurd h List.not_mem_nil⟩⟩⟩⟩⟩⟩
theorem hs_lone29 {L : Nat} {xs : Nat → Int32} {Z : Option Value → qm_H → Prop} {h : qm_H} {d : Nat} {x0 : Int32} (h6 : 6 ≤ L) (hH : hk_H h) (hT : h.2.2.2 0 9 = some 111 ∧ h.2.2.2 28 2 = some 29) (hB : hk_B h.2.1) (hr : hk_ru h.2.1) (hx0 : qa_in (0, 29) x0) (hW : wS h 29) (hd : 50 ≤ d) (k : ∀ (I : Nat → Nat → Int32) (J : Nat → Nat → Int64), hk_B I → (∀ o, qm_lone29.contains o = false → ∀ i, I o i = h.2.1 o i) → Z none (h.1, I, J, h.2.2.2)) : qm_Ru (some (L, xs)) d cd_237 (qm_ent 4 [.ref 38, .int x0] h) Z := by
  refine qc_run (P := qp_lone29) (S := qc_S h qm_lone29) (T := qT_lone29) (CT := [qc_ct 29]) (ro := none) (D := 50) (j := 237) (las := [.ref 38, .retAddr 2, .float 0, .float 0]) (K0 := (2, [(0, 0, 3066), (1, 0, 29)], [], [], [], [])) (rk := [(0, 100000, 0), (0, 0, 0), (0, 0, 0), (0, 0, 0)]) qc_loc h6 rfl (qc_held h6 hH hr (by decide) hW qm_lone29_w qm_lone29_r) qN_lone29 List.mem_cons_self rfl rfl [0, x0] rfl ⟨rfl, List.forall_mem_cons.mpr ⟨⟨_, rfl, ⟨by decide, by decide⟩⟩, List.forall_mem_cons.mpr ⟨⟨_, rfl, hx0⟩, fun _ h => absurd h List.not_mem_nil⟩⟩, fun _ h => absurd h List.not_mem_nil, fun _ h => absurd h List.not_mem_nil⟩ ⟨fun _ h => absurd h List.not_mem_nil, fun _ h => absurd h List.not_mem_nil⟩ ⟨_, _, rfl, rfl, ⟨_, _, rfl, ⟨_, rfl, rfl⟩, ⟨_, _, rfl, rfl, ⟨_, _, rfl, rfl, rfl⟩⟩⟩⟩ (qa_Inv_of hH hT hB ⟨rfl, rfl, fun _ _ _ => rfl⟩ hr) hd (fun r h2 hr2 hI2 => ?_)
  obtain ⟨a1, a2, a3, a4, a5⟩ := hI2
  obtain ⟨s1, s2, s3⟩ := a4
  obtain ⟨sh2, I2, J2, R2⟩ := h2
  have s1 : sh2 = h.1 := s1
  have s2 : R2 = h.2.2.2 := s2
  subst s1
  subst s2
  have hr2 : r = none := hr2
  subst hr2
  exact k I2 J2 a2 s3
noncomputable def qm_brk111 : List Nat := [116, 192, 193, 194, 195, 196, 197, 198, 199, 200, 201, 202, 203, 204, 205, 206, 207, 208, 209, 210, 211, 212, 213, 214, 215, 216, 217, 218, 219, 220, 221, 222, 223, 224, 225, 226, 227, 228, 229, 230, 231, 232, 233]
theorem qm_brk111_w : ∀ o, qm_brk111.contains o = false → qc_wm.contains o = false := by
  intro o h
  cases c : qc_wm.contains o with
  | false => rfl
  | true =>
    have key : ∀ o ∈ qc_wm, qm_brk111.contains o = true := by decide +kernel
    rw [key o (List.contains_iff_mem.mp c)] at h
    cases h
theorem qm_brk111_r : ∀ o, [11, 12, 13, 14, 150, 151].contains o = true → qm_brk111.contains o = false := by
  intro o h
  have key : ∀ o ∈ [11, 12, 13, 14, 150, 151], qm_brk111.contains o = false := by decide +kernel
  exact key o (List.contains_iff_mem.mp h)
noncomputable def qp_brk111 : qa_P := qa_PC 111 29 (qc_foot qm_brk111)
noncomputable def qn_brk111_0 : qa_Nd := (139, (0, [.ref 38, .retAddr 2, .retAddr 3, .float 0, .float 0], [], (3, [(0, 0, 3066), (1, 0, 29), (2, 0, 79)], [], [], [], [])), [], [(0, 100000, 0), (0, 0, 0)])
noncomputable def qn_brk111_1 : qa_Nd := (137, (9, [.ref 38, .retAddr 2, .retAddr 3, .retAddr 4], [], (5, [(0, 0, 3066), (1, 0, 29), (2, 0, 79), (3, 7, 13), (4, -2147483648, 2147483647)], [], [], [(111, 5, .retAddr 5)], [])), [(139, 6, [.ref 38, .retAddr 2, .retAddr 3, .float 0, .float 0], [])], [(0, 2, 0), (1, 3, 13)])
noncomputable def qn_brk111_2 : qa_Nd := (139, (35, [.ref 38, .retAddr 2, .retAddr 3, .retAddr 4, .retAddr 5], [], (7, [(0, 0, 3066), (1, 0, 29), (2, 0, 79), (3, -2147483648, 2147483647), (4, 0, 30), (5, -2147483648, 2147483647), (6, 0, 8)], [], [], [(111, 5, .retAddr 6), (111, 7, .retAddr 7)], [])), [], [(0, 1, 0), (1, 4, 30)])
theorem qk_brk111_0 : qa_all qp_brk111 [qn_brk111_1] [qc_ct 111] (some (some (-2147483648, 2147483647))) qn_brk111_0.2.2.2 3000 (50 - qn_brk111_0.2.2.1.length) qn_brk111_0.1 qn_brk111_0.2.1 qn_brk111_0.2.2.1 = true := qf_all_ok (T := [(13700009, qn_brk111_1)]) (by decide +kernel)
theorem qk_brk111_1 : qa_all qp_brk111 [qn_brk111_1, qn_brk111_2] [qc_ct 111] (some (some (-2147483648, 2147483647))) qn_brk111_1.2.2.2 3000 (50 - qn_brk111_1.2.2.1.length) qn_brk111_1.1 qn_brk111_1.2.1 qn_brk111_1.2.2.1 = true := qf_all_ok (T := [(13700009, qn_brk111_1), (13900035, qn_brk111_2)]) (by decide +kernel)
theorem qk_brk111_2 : qa_all qp_brk111 [qn_brk111_2] [qc_ct 111] (some (some (-2147483648, 2147483647))) qn_brk111_2.2.2.2 3000 (50 - qn_brk111_2.2.2.1.length) qn_brk111_2.1 qn_brk111_2.2.1 qn_brk111_2.2.2.1 = true := qf_all_ok (T := [(13900035, qn_brk111_2)]) (by decide +kernel)
noncomputable def qT_brk111 : List qa_Nd := [qn_brk111_0, qn_brk111_1, qn_brk111_2]
theorem qN_brk111 : ∀ nd ∈ qT_brk111, qa_nok qp_brk111 [qc_ct 111] (some (some (-2147483648, 2147483647))) 50 qT_brk111 nd := List.forall_mem_cons.mpr ⟨⟨by decide +kernel, 3000, [qn_brk111_1], List.forall_mem_cons.mpr ⟨List.mem_cons_of_mem _ (List.mem_cons_self), fun _ h => absurd h List.not_mem_nil⟩, qk_brk111_0⟩, List.forall_mem_cons.mpr ⟨⟨by decide +kernel, 3000, [qn_brk111_1, qn_brk111_2], List.forall_mem_cons.mpr ⟨List.mem_cons_of_mem _ (List.mem_cons_self), List.forall_mem_cons.mpr ⟨List.mem_cons_of_mem _ (List.mem_cons_of_mem _ (List.mem_cons_self)), fun _ h => absurd h List.not_mem_nil⟩⟩, qk_brk111_1⟩, List.forall_mem_cons.mpr ⟨⟨by decide +kernel, 3000, [qn_brk111_2], List.forall_mem_cons.mpr ⟨List.mem_cons_of_mem _ (List.mem_cons_of_mem _ (List.mem_cons_self)), fun _ h => absurd h List.not_mem_nil⟩, qk_brk111_2⟩, fun _ h => absurd h List.not_mem_nil⟩⟩⟩
theorem hs_brk111 {L : Nat} {xs : Nat → Int32} {Z : Option Value → qm_H → Prop} {h : qm_H} {d : Nat} {x0 x1 : Int32} (h6 : 6 ≤ L) (hH : hk_H h) (hT : h.2.2.2 0 9 = some 29 ∧ h.2.2.2 28 2 = some 111) (hB : hk_B h.2.1) (hr : hk_ru h.2.1) (hx0 : qa_in (0, 29) x0) (hx1 : qa_in (0, 79) x1) (hW : wS h 111) (hd : 50 ≤ d) (k : ∀ (v : Int32) (I : Nat → Nat → Int32) (J : Nat → Nat → Int64), qa_in (-2147483648, 2147483647) v → hk_B I → (∀ o, qm_brk111.contains o = false → ∀ i, I o i = h.2.1 o i) → Z (some (.int v)) (h.1, I, J, h.2.2.2)) : qm_Ru (some (L, xs)) d cd_139 (qm_ent 5 [.ref 38, .int x0, .int x1] h) Z := by
  refine qc_run (P := qp_brk111) (S := qc_S h qm_brk111) (T := qT_brk111) (CT := [qc_ct 111]) (ro := (some (-2147483648, 2147483647))) (D := 50) (j := 139) (las := [.ref 38, .retAddr 2, .retAddr 3, .float 0, .float 0]) (K0 := (3, [(0, 0, 3066), (1, 0, 29), (2, 0, 79)], [], [], [], [])) (rk := [(0, 100000, 0), (0, 0, 0)]) qc_loc h6 rfl (qc_held h6 hH hr (by decide) hW qm_brk111_w qm_brk111_r) qN_brk111 List.mem_cons_self rfl rfl [0, x0, x1] rfl ⟨rfl, List.forall_mem_cons.mpr ⟨⟨_, rfl, ⟨by decide, by decide⟩⟩, List.forall_mem_cons.mpr ⟨⟨_, rfl, hx0⟩, List.forall_mem_cons.mpr ⟨⟨_, rfl, hx1⟩, fun _ h => absurd h List.not_mem_nil⟩⟩⟩, fun _ h => absurd h List.not_mem_nil, fun _ h => absurd h List.not_mem_nil⟩ ⟨fun _ h => absurd h List.not_mem_nil, fun _ h => absurd h List.not_mem_nil⟩ ⟨_, _, rfl, rfl, ⟨_, _, rfl, ⟨_, rfl, rfl⟩, ⟨_, _, rfl, ⟨_, rfl, rfl⟩, ⟨_, _, rfl, rfl, ⟨_, _, rfl, rfl, rfl⟩⟩⟩⟩⟩ (qa_Inv_of hH hT hB ⟨rfl, rfl, fun _ _ _ => rfl⟩ hr) hd (fun r h2 hr2 hI2 => ?_)
  obtain ⟨a1, a2, a3, a4, a5⟩ := hI2
  obtain ⟨s1, s2, s3⟩ := a4
  obtain ⟨sh2, I2, J2, R2⟩ := h2
  have s1 : sh2 = h.1 := s1
  have s2 : R2 = h.2.2.2 := s2
  subst s1
  subst s2
  obtain ⟨v, e, b⟩ := hr2
  subst e
  exact k v I2 J2 b a2 s3
noncomputable def qm_brw111 : List Nat := [116, 192, 193, 194, 195, 196, 197, 198, 199, 200, 201, 202, 203, 204, 205, 206, 207, 208, 209, 210, 211, 212, 213, 214, 215, 216, 217, 218, 219, 220, 221, 222, 223, 224, 225, 226, 227, 228, 229, 230, 231, 232, 233]
theorem qm_brw111_w : ∀ o, qm_brw111.contains o = false → qc_wm.contains o = false := by
  intro o h
  cases c : qc_wm.contains o with
  | false => rfl
  | true =>
    have key : ∀ o ∈ qc_wm, qm_brw111.contains o = true := by decide +kernel
    rw [key o (List.contains_iff_mem.mp c)] at h
    cases h
theorem qm_brw111_r : ∀ o, [11, 12, 13, 14, 150, 151].contains o = true → qm_brw111.contains o = false := by
  intro o h
  have key : ∀ o ∈ [11, 12, 13, 14, 150, 151], qm_brw111.contains o = false := by decide +kernel
  exact key o (List.contains_iff_mem.mp h)
noncomputable def qp_brw111 : qa_P := qa_PC 111 29 (qc_foot qm_brw111)
noncomputable def qn_brw111_0 : qa_Nd := (140, (0, [.ref 38, .retAddr 2, .retAddr 3, .retAddr 4, .float 0, .float 0], [], (4, [(0, 0, 3066), (1, 0, 29), (2, 0, 79), (3, 0, 29)], [], [], [], [])), [], [(0, 0, 0)])
theorem qk_brw111_0 : qa_all qp_brw111 [] [qc_ct 111] (some (some (-2147483648, 2147483647))) qn_brw111_0.2.2.2 3000 (50 - qn_brw111_0.2.2.1.length) qn_brw111_0.1 qn_brw111_0.2.1 qn_brw111_0.2.2.1 = true := qf_all_ok (T := []) (by decide +kernel)
noncomputable def qT_brw111 : List qa_Nd := [qn_brw111_0]
theorem qN_brw111 : ∀ nd ∈ qT_brw111, qa_nok qp_brw111 [qc_ct 111] (some (some (-2147483648, 2147483647))) 50 qT_brw111 nd := List.forall_mem_cons.mpr ⟨⟨by decide +kernel, 3000, [], fun _ h => absurd h List.not_mem_nil, qk_brw111_0⟩, fun _ h => absurd h List.not_mem_nil⟩
theorem hs_brw111 {L : Nat} {xs : Nat → Int32} {Z : Option Value → qm_H → Prop} {h : qm_H} {d : Nat} {x0 x1 x2 : Int32} (h6 : 6 ≤ L) (hH : hk_H h) (hT : h.2.2.2 0 9 = some 29 ∧ h.2.2.2 28 2 = some 111) (hB : hk_B h.2.1) (hr : hk_ru h.2.1) (hx0 : qa_in (0, 29) x0) (hx1 : qa_in (0, 79) x1) (hx2 : qa_in (0, 29) x2) (hW : wS h 111) (hd : 50 ≤ d) (k : ∀ (v : Int32) (I : Nat → Nat → Int32) (J : Nat → Nat → Int64), qa_in (-2147483648, 2147483647) v → hk_B I → (∀ o, qm_brw111.contains o = false → ∀ i, I o i = h.2.1 o i) → Z (some (.int v)) (h.1, I, J, h.2.2.2)) : qm_Ru (some (L, xs)) d cd_140 (qm_ent 6 [.ref 38, .int x0, .int x1, .int x2] h) Z := by
  refine qc_run (P := qp_brw111) (S := qc_S h qm_brw111) (T := qT_brw111) (CT := [qc_ct 111]) (ro := (some (-2147483648, 2147483647))) (D := 50) (j := 140) (las := [.ref 38, .retAddr 2, .retAddr 3, .retAddr 4, .float 0, .float 0]) (K0 := (4, [(0, 0, 3066), (1, 0, 29), (2, 0, 79), (3, 0, 29)], [], [], [], [])) (rk := [(0, 0, 0)]) qc_loc h6 rfl (qc_held h6 hH hr (by decide) hW qm_brw111_w qm_brw111_r) qN_brw111 List.mem_cons_self rfl rfl [0, x0, x1, x2] rfl ⟨rfl, List.forall_mem_cons.mpr ⟨⟨_, rfl, ⟨by decide, by decide⟩⟩, List.forall_mem_cons.mpr ⟨⟨_, rfl, hx0⟩, List.forall_mem_cons.mpr ⟨⟨_, rfl, hx1⟩, List.forall_mem_cons.mpr ⟨⟨_, rfl, hx2⟩, fun _ h => absurd h List.not_mem_nil⟩⟩⟩⟩, fun _ h => absurd h List.not_mem_nil, fun _ h => absurd h List.not_mem_nil⟩ ⟨fun _ h => absurd h List.not_mem_nil, fun _ h => absurd h List.not_mem_nil⟩ ⟨_, _, rfl, rfl, ⟨_, _, rfl, ⟨_, rfl, rfl⟩, ⟨_, _, rfl, ⟨_, rfl, rfl⟩, ⟨_, _, rfl, ⟨_, rfl, rfl⟩, ⟨_, _, rfl, rfl, ⟨_, _, rfl, rfl, rfl⟩⟩⟩⟩⟩⟩ (qa_Inv_of hH hT hB ⟨rfl, rfl, fun _ _ _ => rfl⟩ hr) hd (fun r h2 hr2 hI2 => ?_)
  obtain ⟨a1, a2, a3, a4, a5⟩ := hI2
  obtain ⟨s1, s2, s3⟩ := a4
  obtain ⟨sh2, I2, J2, R2⟩ := h2
  have s1 : sh2 = h.1 := s1
  have s2 : R2 = h.2.2.2 := s2
  subst s1
  subst s2
  obtain ⟨v, e, b⟩ := hr2
  subst e
  exact k v I2 J2 b a2 s3
noncomputable def qm_lone111 : List Nat := [39, 116, 192, 193, 194, 195, 196, 197, 198, 199, 200, 201, 202, 203, 204, 205, 206, 207, 208, 209, 210, 211, 212, 213, 214, 215, 216, 217, 218, 219, 220, 221, 222, 223, 224, 225, 226, 227, 228, 229, 230, 231, 232, 233]
theorem qm_lone111_w : ∀ o, qm_lone111.contains o = false → qc_wm.contains o = false := by
  intro o h
  cases c : qc_wm.contains o with
  | false => rfl
  | true =>
    have key : ∀ o ∈ qc_wm, qm_lone111.contains o = true := by decide +kernel
    rw [key o (List.contains_iff_mem.mp c)] at h
    cases h
theorem qm_lone111_r : ∀ o, [11, 12, 13, 14, 150, 151].contains o = true → qm_lone111.contains o = false := by
  intro o h
  have key : ∀ o ∈ [11, 12, 13, 14, 150, 151], qm_lone111.contains o = false := by decide +kernel
  exact key o (List.contains_iff_mem.mp h)
noncomputable def qp_lone111 : qa_P := qa_PC 111 29 (qc_foot qm_lone111)
noncomputable def qn_lone111_0 : qa_Nd := (237, (0, [.ref 38, .retAddr 2, .float 0, .float 0], [], (2, [(0, 0, 3066), (1, 0, 29)], [], [], [], [])), [], [(0, 100000, 0), (0, 0, 0), (0, 0, 0), (0, 0, 0)])
noncomputable def qn_lone111_1 : qa_Nd := (237, (2, [.ref 38, .retAddr 2, .retAddr 3, .float 1], [], (3, [(0, 0, 3066), (1, 0, 29), (2, 0, 20)], [], [], [], [])), [], [(0, 5, 0), (1, 2, 20), (0, 100000, 0), (0, 0, 0)])
noncomputable def qn_lone111_2 : qa_Nd := (137, (9, [.ref 38, .retAddr 2, .retAddr 3, .retAddr 4], [], (10, [(0, 0, 3066), (1, 0, 29), (2, 0, 79), (3, 7, 13), (4, 0, 19), (5, 0, 3), (6, 0, 79), (7, -2147483648, 2147483647), (8, 2, 5), (9, -2147483648, 2147483647)], [(false, 5, 2), (false, 5, 6)], [], [(28, 4, .retAddr 8), (111, 0, .retAddr 9), (111, 5, .retAddr 10)], [])), [(139, 6, [.ref 38, .retAddr 2, .retAddr 3, .float 0, .float 0], []), (237, 59, [.ref 38, .retAddr 2, .retAddr 5, .retAddr 6], [.retAddr 7, .ref 39])], [(0, 5, 0), (1, 4, 20), (0, 4, 0), (1, 3, 13)])
noncomputable def qn_lone111_3 : qa_Nd := (139, (35, [.ref 38, .retAddr 2, .retAddr 3, .retAddr 4, .retAddr 5], [], (12, [(0, 0, 3066), (1, 0, 29), (2, 0, 79), (3, -2147483648, 2147483647), (4, 0, 30), (5, 0, 19), (6, 0, 3), (7, 0, 79), (8, -2147483648, 2147483647), (9, 2, 5), (10, -2147483648, 2147483647), (11, 0, 8)], [(false, 6, 2), (false, 6, 7)], [], [(28, 4, .retAddr 9), (111, 0, .retAddr 10), (111, 5, .retAddr 11), (111, 7, .retAddr 12)], [])), [(237, 59, [.ref 38, .retAddr 2, .retAddr 6, .retAddr 7], [.retAddr 8, .ref 39])], [(0, 5, 0), (1, 5, 20), (0, 3, 0), (1, 4, 30)])
noncomputable def qn_lone111_4 : qa_Nd := (137, (9, [.ref 38, .retAddr 2, .retAddr 3, .retAddr 4], [], (12, [(0, 0, 3066), (1, 0, 29), (2, 1, 79), (3, 7, 13), (4, 0, 19), (5, 0, 2), (6, 1, 79), (7, 0, 30), (8, -2147483648, 2147483647), (9, 2, 5), (10, -2147483648, 2147483647), (11, 0, 8)], [(true, 5, 2), (true, 5, 6)], [], [(6, 0, .retAddr 8), (28, 4, .retAddr 9), (111, 0, .retAddr 10), (111, 5, .retAddr 11), (111, 7, .retAddr 12)], [])), [(139, 6, [.ref 38, .retAddr 2, .retAddr 3, .float 0, .float 0], []), (237, 89, [.ref 38, .retAddr 2, .retAddr 5, .retAddr 6], [.retAddr 7, .ref 39])], [(0, 5, 0), (1, 4, 20), (0, 2, 0), (1, 3, 13)])
noncomputable def qn_lone111_5 : qa_Nd := (139, (35, [.ref 38, .retAddr 2, .retAddr 3, .retAddr 4, .retAddr 5], [], (13, [(0, 0, 3066), (1, 0, 29), (2, 1, 79), (3, -2147483648, 2147483647), (4, 0, 30), (5, 0, 19), (6, 0, 2), (7, 1, 79), (8, 0, 30), (9, -2147483648, 2147483647), (10, 2, 5), (11, -2147483648, 2147483647), (12, 0, 8)], [(false, 4, 8), (true, 6, 2), (true, 6, 7)], [], [(6, 0, .retAddr 9), (28, 4, .retAddr 10), (111, 0, .retAddr 11), (111, 5, .retAddr 12), (111, 7, .retAddr 13)], [])), [(237, 89, [.ref 38, .retAddr 2, .retAddr 6, .retAddr 7], [.retAddr 8, .ref 39])], [(0, 5, 0), (1, 5, 20), (0, 1, 0), (1, 4, 30)])
theorem qk_lone111_0 : qa_all qp_lone111 [qn_lone111_1] [qc_ct 111] (some none) qn_lone111_0.2.2.2 3000 (50 - qn_lone111_0.2.2.1.length) qn_lone111_0.1 qn_lone111_0.2.1 qn_lone111_0.2.2.1 = true := qf_all_ok (T := [(23700002, qn_lone111_1)]) (by decide +kernel)
theorem qk_lone111_1 : qa_all qp_lone111 [qn_lone111_1, qn_lone111_2] [qc_ct 111] (some none) qn_lone111_1.2.2.2 3000 (50 - qn_lone111_1.2.2.1.length) qn_lone111_1.1 qn_lone111_1.2.1 qn_lone111_1.2.2.1 = true := qf_all_ok (T := [(23700002, qn_lone111_1), (13700009, qn_lone111_2)]) (by decide +kernel)
theorem qk_lone111_2 : qa_all qp_lone111 [qn_lone111_2, qn_lone111_3] [qc_ct 111] (some none) qn_lone111_2.2.2.2 3000 (50 - qn_lone111_2.2.2.1.length) qn_lone111_2.1 qn_lone111_2.2.1 qn_lone111_2.2.2.1 = true := qf_all_ok (T := [(13700009, qn_lone111_2), (13900035, qn_lone111_3)]) (by decide +kernel)
theorem qk_lone111_3 : qa_all qp_lone111 [qn_lone111_1, qn_lone111_3, qn_lone111_4] [qc_ct 111] (some none) qn_lone111_3.2.2.2 3000 (50 - qn_lone111_3.2.2.1.length) qn_lone111_3.1 qn_lone111_3.2.1 qn_lone111_3.2.2.1 = true := qf_all_ok (T := [(23700002, qn_lone111_1), (13900035, qn_lone111_3), (13700009, qn_lone111_4)]) (by decide +kernel)
theorem qk_lone111_4 : qa_all qp_lone111 [qn_lone111_4, qn_lone111_5] [qc_ct 111] (some none) qn_lone111_4.2.2.2 3000 (50 - qn_lone111_4.2.2.1.length) qn_lone111_4.1 qn_lone111_4.2.1 qn_lone111_4.2.2.1 = true := qf_all_ok (T := [(13700009, qn_lone111_4), (13900035, qn_lone111_5)]) (by decide +kernel)
theorem qk_lone111_5 : qa_all qp_lone111 [qn_lone111_1, qn_lone111_5] [qc_ct 111] (some none) qn_lone111_5.2.2.2 3000 (50 - qn_lone111_5.2.2.1.length) qn_lone111_5.1 qn_lone111_5.2.1 qn_lone111_5.2.2.1 = true := qf_all_ok (T := [(23700002, qn_lone111_1), (13900035, qn_lone111_5)]) (by decide +kernel)
noncomputable def qT_lone111 : List qa_Nd := [qn_lone111_0, qn_lone111_1, qn_lone111_2, qn_lone111_3, qn_lone111_4, qn_lone111_5]
theorem qN_lone111 : ∀ nd ∈ qT_lone111, qa_nok qp_lone111 [qc_ct 111] (some none) 50 qT_lone111 nd := List.forall_mem_cons.mpr ⟨⟨by decide +kernel, 3000, [qn_lone111_1], List.forall_mem_cons.mpr ⟨List.mem_cons_of_mem _ (List.mem_cons_self), fun _ h => absurd h List.not_mem_nil⟩, qk_lone111_0⟩, List.forall_mem_cons.mpr ⟨⟨by decide +kernel, 3000, [qn_lone111_1, qn_lone111_2], List.forall_mem_cons.mpr ⟨List.mem_cons_of_mem _ (List.mem_cons_self), List.forall_mem_cons.mpr ⟨List.mem_cons_of_mem _ (List.mem_cons_of_mem _ (List.mem_cons_self)), fun _ h => absurd h List.not_mem_nil⟩⟩, qk_lone111_1⟩, List.forall_mem_cons.mpr ⟨⟨by decide +kernel, 3000, [qn_lone111_2, qn_lone111_3], List.forall_mem_cons.mpr ⟨List.mem_cons_of_mem _ (List.mem_cons_of_mem _ (List.mem_cons_self)), List.forall_mem_cons.mpr ⟨List.mem_cons_of_mem _ (List.mem_cons_of_mem _ (List.mem_cons_of_mem _ (List.mem_cons_self))), fun _ h => absurd h List.not_mem_nil⟩⟩, qk_lone111_2⟩, List.forall_mem_cons.mpr ⟨⟨by decide +kernel, 3000, [qn_lone111_1, qn_lone111_3, qn_lone111_4], List.forall_mem_cons.mpr ⟨List.mem_cons_of_mem _ (List.mem_cons_self), List.forall_mem_cons.mpr ⟨List.mem_cons_of_mem _ (List.mem_cons_of_mem _ (List.mem_cons_of_mem _ (List.mem_cons_self))), List.forall_mem_cons.mpr ⟨List.mem_cons_of_mem _ (List.mem_cons_of_mem _ (List.mem_cons_of_mem _ (List.mem_cons_of_mem _ (List.mem_cons_self)))), fun _ h => absurd h List.not_mem_nil⟩⟩⟩, qk_lone111_3⟩, List.forall_mem_cons.mpr ⟨⟨by decide +kernel, 3000, [qn_lone111_4, qn_lone111_5], List.forall_mem_cons.mpr ⟨List.mem_cons_of_mem _ (List.mem_cons_of_mem _ (List.mem_cons_of_mem _ (List.mem_cons_of_mem _ (List.mem_cons_self)))), List.forall_mem_cons.mpr ⟨List.mem_cons_of_mem _ (List.mem_cons_of_mem _ (List.mem_cons_of_mem _ (List.mem_cons_of_mem _ (List.mem_cons_of_mem _ (List.mem_cons_self))))), fun _ h => absurd h List.not_mem_nil⟩⟩, qk_lone111_4⟩, List.forall_mem_cons.mpr ⟨⟨by decide +kernel, 3000, [qn_lone111_1, qn_lone111_5], List.forall_mem_cons.mpr ⟨List.mem_cons_of_mem _ (List.mem_cons_self), List.forall_mem_cons.mpr ⟨List.mem_cons_of_mem _ (List.mem_cons_of_mem _ (List.mem_cons_of_mem _ (List.mem_cons_of_mem _ (List.mem_cons_of_mem _ (List.mem_cons_self))))), fun _ h => absurd h List.not_mem_nil⟩⟩, qk_lone111_5⟩, fun _ h => absurd h List.not_mem_nil⟩⟩⟩⟩⟩⟩
theorem hs_lone111 {L : Nat} {xs : Nat → Int32} {Z : Option Value → qm_H → Prop} {h : qm_H} {d : Nat} {x0 : Int32} (h6 : 6 ≤ L) (hH : hk_H h) (hT : h.2.2.2 0 9 = some 29 ∧ h.2.2.2 28 2 = some 111) (hB : hk_B h.2.1) (hr : hk_ru h.2.1) (hx0 : qa_in (0, 29) x0) (hW : wS h 111) (hd : 50 ≤ d) (k : ∀ (I : Nat → Nat → Int32) (J : Nat → Nat → Int64), hk_B I → (∀ o, qm_lone111.contains o = false → ∀ i, I o i = h.2.1 o i) → Z none (h.1, I, J, h.2.2.2)) : qm_Ru (some (L, xs)) d cd_237 (qm_ent 4 [.ref 38, .int x0] h) Z := by
  refine qc_run (P := qp_lone111) (S := qc_S h qm_lone111) (T := qT_lone111) (CT := [qc_ct 111]) (ro := none) (D := 50) (j := 237) (las := [.ref 38, .retAddr 2, .float 0, .float 0]) (K0 := (2, [(0, 0, 3066), (1, 0, 29)], [], [], [], [])) (rk := [(0, 100000, 0), (0, 0, 0), (0, 0, 0), (0, 0, 0)]) qc_loc h6 rfl (qc_held h6 hH hr (by decide) hW qm_lone111_w qm_lone111_r) qN_lone111 List.mem_cons_self rfl rfl [0, x0] rfl ⟨rfl, List.forall_mem_cons.mpr ⟨⟨_, rfl, ⟨by decide, by decide⟩⟩, List.forall_mem_cons.mpr ⟨⟨_, rfl, hx0⟩, fun _ h => absurd h List.not_mem_nil⟩⟩, fun _ h => absurd h List.not_mem_nil, fun _ h => absurd h List.not_mem_nil⟩ ⟨fun _ h => absurd h List.not_mem_nil, fun _ h => absurd h List.not_mem_nil⟩ ⟨_, _, rfl, rfl, ⟨_, _, rfl, ⟨_, rfl, rfl⟩, ⟨_, _, rfl, rfl, ⟨_, _, rfl, rfl, rfl⟩⟩⟩⟩ (qa_Inv_of hH hT hB ⟨rfl, rfl, fun _ _ _ => rfl⟩ hr) hd (fun r h2 hr2 hI2 => ?_)
  obtain ⟨a1, a2, a3, a4, a5⟩ := hI2
  obtain ⟨s1, s2, s3⟩ := a4
  obtain ⟨sh2, I2, J2, R2⟩ := h2
  have s1 : sh2 = h.1 := s1
  have s2 : R2 = h.2.2.2 := s2
  subst s1
  subst s2
  have hr2 : r = none := hr2
  subst hr2
  exact k I2 J2 a2 s3
noncomputable def qm_aover : List Nat := []
noncomputable def qp_aover : qa_P := qa_P0 (qc_foot qm_aover)
noncomputable def qn_aover_0 : qa_Nd := (144, (0, [.ref 28, .float 0, .float 0], [], (1, [(0, 0, 3066)], [], [], [], [])), [], [(0, 100000, 0), (0, 0, 0), (0, 0, 0), (0, 0, 0)])
noncomputable def qn_aover_1 : qa_Nd := (144, (4, [.ref 28, .retAddr 2, .retAddr 3], [], (3, [(0, 0, 3066), (1, -2147483648, 2147483647), (2, 0, 30)], [], [], [], [])), [], [(0, 2, 0), (1, 2, 30), (0, 100000, 0), (0, 0, 0)])
noncomputable def qn_aover_2 : qa_Nd := (146, (4, [.ref 28, .retAddr 2, .retAddr 3, .retAddr 4], [], (8, [(0, 0, 3066), (1, 0, 4), (2, -2147483648, 2147483647), (3, 0, 4), (4, 0, 29), (5, 2, 3), (6, -2147483648, 2147483647), (7, 1, 30)], [(true, 4, 7)], [], [(6, 0, .retAddr 8)], [(11, 4, .int 1), (12, 4, .retAddr 2), (14, 4, .retAddr 6)])), [(145, 30, [.ref 28, .retAddr 5, .retAddr 2, .retAddr 6, .float 0], []), (144, 34, [.ref 28, .retAddr 7, .retAddr 5], [.retAddr 7])], [(0, 2, 0), (1, 4, 30), (0, 1, 0), (1, 3, 4)])
theorem qk_aover_0 : qa_all qp_aover [qn_aover_1] [] (some (some (-2147483648, 2147483647))) qn_aover_0.2.2.2 3000 (20 - qn_aover_0.2.2.1.length) qn_aover_0.1 qn_aover_0.2.1 qn_aover_0.2.2.1 = true := qf_all_ok (T := [(14400004, qn_aover_1)]) (by decide +kernel)
theorem qk_aover_1 : qa_all qp_aover [qn_aover_1, qn_aover_2] [] (some (some (-2147483648, 2147483647))) qn_aover_1.2.2.2 3000 (20 - qn_aover_1.2.2.1.length) qn_aover_1.1 qn_aover_1.2.1 qn_aover_1.2.2.1 = true := qf_all_ok (T := [(14400004, qn_aover_1), (14600004, qn_aover_2)]) (by decide +kernel)
theorem qk_aover_2 : qa_all qp_aover [qn_aover_1, qn_aover_2] [] (some (some (-2147483648, 2147483647))) qn_aover_2.2.2.2 3000 (20 - qn_aover_2.2.2.1.length) qn_aover_2.1 qn_aover_2.2.1 qn_aover_2.2.2.1 = true := qf_all_ok (T := [(14400004, qn_aover_1), (14600004, qn_aover_2)]) (by decide +kernel)
noncomputable def qT_aover : List qa_Nd := [qn_aover_0, qn_aover_1, qn_aover_2]
theorem qN_aover : ∀ nd ∈ qT_aover, qa_nok qp_aover [] (some (some (-2147483648, 2147483647))) 20 qT_aover nd := List.forall_mem_cons.mpr ⟨⟨by decide +kernel, 3000, [qn_aover_1], List.forall_mem_cons.mpr ⟨List.mem_cons_of_mem _ (List.mem_cons_self), fun _ h => absurd h List.not_mem_nil⟩, qk_aover_0⟩, List.forall_mem_cons.mpr ⟨⟨by decide +kernel, 3000, [qn_aover_1, qn_aover_2], List.forall_mem_cons.mpr ⟨List.mem_cons_of_mem _ (List.mem_cons_self), List.forall_mem_cons.mpr ⟨List.mem_cons_of_mem _ (List.mem_cons_of_mem _ (List.mem_cons_self)), fun _ h => absurd h List.not_mem_nil⟩⟩, qk_aover_1⟩, List.forall_mem_cons.mpr ⟨⟨by decide +kernel, 3000, [qn_aover_1, qn_aover_2], List.forall_mem_cons.mpr ⟨List.mem_cons_of_mem _ (List.mem_cons_self), List.forall_mem_cons.mpr ⟨List.mem_cons_of_mem _ (List.mem_cons_of_mem _ (List.mem_cons_self)), fun _ h => absurd h List.not_mem_nil⟩⟩, qk_aover_2⟩, fun _ h => absurd h List.not_mem_nil⟩⟩⟩
theorem hs_aover {L : Nat} {xs : Nat → Int32} {Z : Option Value → qm_H → Prop} {h : qm_H} {d : Nat} (h6 : 6 ≤ L) (hH : hk_H h) (hB : hk_B h.2.1) (hr : hk_ru h.2.1) (hd : 20 ≤ d) (k : ∀ (v : Int32) (I : Nat → Nat → Int32) (J : Nat → Nat → Int64), qa_in (-2147483648, 2147483647) v → hk_B I → (∀ o, qm_aover.contains o = false → ∀ i, I o i = h.2.1 o i) → Z (some (.int v)) (h.1, I, J, h.2.2.2)) : qm_Ru (some (L, xs)) d cd_144 (qm_ent 3 [.ref 28] h) Z := by
  refine qc_run (P := qp_aover) (S := qc_S h qm_aover) (T := qT_aover) (CT := []) (ro := (some (-2147483648, 2147483647))) (D := 20) (j := 144) (las := [.ref 28, .float 0, .float 0]) (K0 := (1, [(0, 0, 3066)], [], [], [], [])) (rk := [(0, 100000, 0), (0, 0, 0), (0, 0, 0), (0, 0, 0)]) qc_loc0 h6 rfl (fun _ h => absurd h List.not_mem_nil) qN_aover List.mem_cons_self rfl rfl [0] rfl ⟨rfl, List.forall_mem_cons.mpr ⟨⟨_, rfl, ⟨by decide, by decide⟩⟩, fun _ h => absurd h List.not_mem_nil⟩, fun _ h => absurd h List.not_mem_nil, fun _ h => absurd h List.not_mem_nil⟩ ⟨fun _ h => absurd h List.not_mem_nil, fun _ h => absurd h List.not_mem_nil⟩ ⟨_, _, rfl, rfl, ⟨_, _, rfl, rfl, ⟨_, _, rfl, rfl, rfl⟩⟩⟩ (qa_Inv_of0 hH hB ⟨rfl, rfl, fun _ _ _ => rfl⟩ hr) hd (fun r h2 hr2 hI2 => ?_)
  obtain ⟨a1, a2, a3, a4, a5⟩ := hI2
  obtain ⟨s1, s2, s3⟩ := a4
  obtain ⟨sh2, I2, J2, R2⟩ := h2
  have s1 : sh2 = h.1 := s1
  have s2 : R2 = h.2.2.2 := s2
  subst s1
  subst s2
  obtain ⟨v, e, b⟩ := hr2
  subst e
  exact k v I2 J2 b a2 s3
