/-! summaries of methods by the engine -/
noncomputable def qm_thold29 : List Nat := []
noncomputable def qp_thold29 : qa_P := qa_P0 (qc_foot qm_thold29)
noncomputable def qn_thold29_0 : qa_Nd := (131, (0, [.ref 29, .retAddr 2, .float 0, .float 0, .float 0], [], (2, [(0, 0, 3066), (1, 0, 15)], [], [], [], [])), [], [(0, 100000, 0), (0, 0, 0)])
noncomputable def qn_thold29_1 : qa_Nd := (131, (9, [.ref 29, .retAddr 2, .retAddr 3, .retAddr 4, .float 1], [], (4, [(0, 0, 3066), (1, 0, 15), (2, 0, 18), (3, 0, 400)], [(false, 2, 3)], [], [], [])), [], [(0, 1, 0), (1, 3, 400)])
theorem qk_thold29_0 : qa_all qp_thold29 [qn_thold29_1] [] (some (some (0, 1))) qn_thold29_0.2.2.2 3000 (20 - qn_thold29_0.2.2.1.length) qn_thold29_0.1 qn_thold29_0.2.1 qn_thold29_0.2.2.1 = true := qf_all_ok (T := [(13100009, qn_thold29_1)]) (by decide +kernel)
theorem qk_thold29_1 : qa_all qp_thold29 [qn_thold29_1] [] (some (some (0, 1))) qn_thold29_1.2.2.2 3000 (20 - qn_thold29_1.2.2.1.length) qn_thold29_1.1 qn_thold29_1.2.1 qn_thold29_1.2.2.1 = true := qf_all_ok (T := [(13100009, qn_thold29_1)]) (by decide +kernel)
noncomputable def qT_thold29 : List qa_Nd := [qn_thold29_0, qn_thold29_1]
theorem qN_thold29 : ∀ nd ∈ qT_thold29, qa_nok qp_thold29 [] (some (some (0, 1))) 20 qT_thold29 nd := List.forall_mem_cons.mpr ⟨⟨by decide +kernel, 3000, [qn_thold29_1], List.forall_mem_cons.mpr ⟨List.mem_cons_of_mem _ (List.mem_cons_self), fun _ h => absurd h List.not_mem_nil⟩, qk_thold29_0⟩, List.forall_mem_cons.mpr ⟨⟨by decide +kernel, 3000, [qn_thold29_1], List.forall_mem_cons.mpr ⟨List.mem_cons_of_mem _ (List.mem_cons_self), fun _ h => absurd h List.not_mem_nil⟩, qk_thold29_1⟩, fun _ h => absurd h List.not_mem_nil⟩⟩
theorem hs_thold29 {L : Nat} {xs : Nat → Int32} {Z : Option Value → qm_H → Prop} {h : qm_H} {d : Nat} {x0 : Int32} (h6 : 6 ≤ L) (hH : hk_H h) (hB : hk_B h.2.1) (hr : hk_ru h.2.1) (hx0 : qa_in (0, 15) x0) (hd : 20 ≤ d) (k : ∀ (v : Int32) (I : Nat → Nat → Int32) (J : Nat → Nat → Int64), qa_in (0, 1) v → hk_B I → (∀ o, qm_thold29.contains o = false → ∀ i, I o i = h.2.1 o i) → Z (some (.int v)) (h.1, I, J, h.2.2.2)) : qm_Ru (some (L, xs)) d cd_131 (qm_ent 5 [.ref 29, .int x0] h) Z := by
  refine qc_run (P := qp_thold29) (S := qc_S h qm_thold29) (T := qT_thold29) (CT := []) (ro := (some (0, 1))) (D := 20) (j := 131) (las := [.ref 29, .retAddr 2, .float 0, .float 0, .float 0]) (K0 := (2, [(0, 0, 3066), (1, 0, 15)], [], [], [], [])) (rk := [(0, 100000, 0), (0, 0, 0)]) qc_loc0 h6 rfl (fun _ h => absurd h List.not_mem_nil) qN_thold29 List.mem_cons_self rfl rfl [0, x0] rfl ⟨rfl, List.forall_mem_cons.mpr ⟨⟨_, rfl, ⟨by decide, by decide⟩⟩, List.forall_mem_cons.mpr ⟨⟨_, rfl, hx0⟩, fun _ h => absurd h List.not_mem_nil⟩⟩, fun _ h => absurd h List.not_mem_nil, fun _ h => absurd h List.not_mem_nil⟩ ⟨fun _ h => absurd h List.not_mem_nil, fun _ h => absurd h List.not_mem_nil⟩ ⟨_, _, rfl, rfl, ⟨_, _, rfl, ⟨_, rfl, rfl⟩, ⟨_, _, rfl, rfl, ⟨_, _, rfl, rfl, ⟨_, _, rfl, rfl, rfl⟩⟩⟩⟩⟩ (qa_Inv_of0 hH hB ⟨rfl, rfl, fun _ _ _ => rfl⟩ hr) hd (fun r h2 hr2 hI2 => ?_)
  obtain ⟨a1, a2, a3, a4, a5⟩ := hI2
  obtain ⟨s1, s2, s3⟩ := a4
  obtain ⟨sh2, I2, J2, R2⟩ := h2
  have s1 : sh2 = h.1 := s1
  have s2 : R2 = h.2.2.2 := s2
  subst s1
  subst s2
  obtain ⟨v, e, b⟩ := hr2
  subst e
  exact k v I2 J2 b a2 s3
noncomputable def qm_thold111 : List Nat := []
noncomputable def qp_thold111 : qa_P := qa_P0 (qc_foot qm_thold111)
noncomputable def qn_thold111_0 : qa_Nd := (131, (0, [.ref 111, .retAddr 2, .float 0, .float 0, .float 0], [], (2, [(0, 0, 3066), (1, 0, 15)], [], [], [], [])), [], [(0, 100000, 0), (0, 0, 0)])
noncomputable def qn_thold111_1 : qa_Nd := (131, (9, [.ref 111, .retAddr 2, .retAddr 3, .retAddr 4, .float 1], [], (4, [(0, 0, 3066), (1, 0, 15), (2, 0, 18), (3, 0, 400)], [(false, 2, 3)], [], [], [])), [], [(0, 1, 0), (1, 3, 400)])
theorem qk_thold111_0 : qa_all qp_thold111 [qn_thold111_1] [] (some (some (0, 1))) qn_thold111_0.2.2.2 3000 (20 - qn_thold111_0.2.2.1.length) qn_thold111_0.1 qn_thold111_0.2.1 qn_thold111_0.2.2.1 = true := qf_all_ok (T := [(13100009, qn_thold111_1)]) (by decide +kernel)
theorem qk_thold111_1 : qa_all qp_thold111 [qn_thold111_1] [] (some (some (0, 1))) qn_thold111_1.2.2.2 3000 (20 - qn_thold111_1.2.2.1.length) qn_thold111_1.1 qn_thold111_1.2.1 qn_thold111_1.2.2.1 = true := qf_all_ok (T := [(13100009, qn_thold111_1)]) (by decide +kernel)
noncomputable def qT_thold111 : List qa_Nd := [qn_thold111_0, qn_thold111_1]
theorem qN_thold111 : ∀ nd ∈ qT_thold111, qa_nok qp_thold111 [] (some (some (0, 1))) 20 qT_thold111 nd := List.forall_mem_cons.mpr ⟨⟨by decide +kernel, 3000, [qn_thold111_1], List.forall_mem_cons.mpr ⟨List.mem_cons_of_mem _ (List.mem_cons_self), fun _ h => absurd h List.not_mem_nil⟩, qk_thold111_0⟩, List.forall_mem_cons.mpr ⟨⟨by decide +kernel, 3000, [qn_thold111_1], List.forall_mem_cons.mpr ⟨List.mem_cons_of_mem _ (List.mem_cons_self), fun _ h => absurd h List.not_mem_nil⟩, qk_thold111_1⟩, fun _ h => absurd h List.not_mem_nil⟩⟩
theorem hs_thold111 {L : Nat} {xs : Nat → Int32} {Z : Option Value → qm_H → Prop} {h : qm_H} {d : Nat} {x0 : Int32} (h6 : 6 ≤ L) (hH : hk_H h) (hB : hk_B h.2.1) (hr : hk_ru h.2.1) (hx0 : qa_in (0, 15) x0) (hd : 20 ≤ d) (k : ∀ (v : Int32) (I : Nat → Nat → Int32) (J : Nat → Nat → Int64), qa_in (0, 1) v → hk_B I → (∀ o, qm_thold111.contains o = false → ∀ i, I o i = h.2.1 o i) → Z (some (.int v)) (h.1, I, J, h.2.2.2)) : qm_Ru (some (L, xs)) d cd_131 (qm_ent 5 [.ref 111, .int x0] h) Z := by
  refine qc_run (P := qp_thold111) (S := qc_S h qm_thold111) (T := qT_thold111) (CT := []) (ro := (some (0, 1))) (D := 20) (j := 131) (las := [.ref 111, .retAddr 2, .float 0, .float 0, .float 0]) (K0 := (2, [(0, 0, 3066), (1, 0, 15)], [], [], [], [])) (rk := [(0, 100000, 0), (0, 0, 0)]) qc_loc0 h6 rfl (fun _ h => absurd h List.not_mem_nil) qN_thold111 List.mem_cons_self rfl rfl [0, x0] rfl ⟨rfl, List.forall_mem_cons.mpr ⟨⟨_, rfl, ⟨by decide, by decide⟩⟩, List.forall_mem_cons.mpr ⟨⟨_, rfl, hx0⟩, fun _ h => absurd h List.not_mem_nil⟩⟩, fun _ h => absurd h List.not_mem_nil, fun _ h => absurd h List.not_mem_nil⟩ ⟨fun _ h => absurd h List.not_mem_nil, fun _ h => absurd h List.not_mem_nil⟩ ⟨_, _, rfl, rfl, ⟨_, _, rfl, ⟨_, rfl, rfl⟩, ⟨_, _, rfl, rfl, ⟨_, _, rfl, rfl, ⟨_, _, rfl, rfl, rfl⟩⟩⟩⟩⟩ (qa_Inv_of0 hH hB ⟨rfl, rfl, fun _ _ _ => rfl⟩ hr) hd (fun r h2 hr2 hI2 => ?_)
  obtain ⟨a1, a2, a3, a4, a5⟩ := hI2
  obtain ⟨s1, s2, s3⟩ := a4
  obtain ⟨sh2, I2, J2, R2⟩ := h2
  have s1 : sh2 = h.1 := s1
  have s2 : R2 = h.2.2.2 := s2
  subst s1
  subst s2
  obtain ⟨v, e, b⟩ := hr2
  subst e
  exact k v I2 J2 b a2 s3
