/-! summaries of methods by the engine -/
noncomputable def qm_keep : List Nat := [46, 47, 48]
noncomputable def qp_keep : qa_P := qa_P0 (qc_foot qm_keep)
noncomputable def qn_keep_0 : qa_Nd := (178, (0, [.ref 42, .retAddr 2, .float 0], [], (2, [(0, 0, 3066), (1, 0, 59)], [], [], [], [])), [], [(0, 100000, 0), (0, 0, 0)])
noncomputable def qn_keep_1 : qa_Nd := (178, (23, [.ref 42, .retAddr 2, .retAddr 3], [], (3, [(0, 0, 3066), (1, 0, 59), (2, 0, 30)], [], [], [], [])), [], [(0, 1, 0), (1, 2, 30)])
theorem qk_keep_0 : qa_all qp_keep [qn_keep_1] [] (some none) qn_keep_0.2.2.2 3000 (20 - qn_keep_0.2.2.1.length) qn_keep_0.1 qn_keep_0.2.1 qn_keep_0.2.2.1 = true := qf_all_ok (T := [(17800023, qn_keep_1)]) (by decide +kernel)
theorem qk_keep_1 : qa_all qp_keep [qn_keep_1] [] (some none) qn_keep_1.2.2.2 3000 (20 - qn_keep_1.2.2.1.length) qn_keep_1.1 qn_keep_1.2.1 qn_keep_1.2.2.1 = true := qf_all_ok (T := [(17800023, qn_keep_1)]) (by decide +kernel)
noncomputable def qT_keep : List qa_Nd := [qn_keep_0, qn_keep_1]
theorem qN_keep : ∀ nd ∈ qT_keep, qa_nok qp_keep [] (some none) 20 qT_keep nd := List.forall_mem_cons.mpr ⟨⟨by decide +kernel, 3000, [qn_keep_1], List.forall_mem_cons.mpr ⟨List.mem_cons_of_mem _ (List.mem_cons_self), fun _ h => absurd h List.not_mem_nil⟩, qk_keep_0⟩, List.forall_mem_cons.mpr ⟨⟨by decide +kernel, 3000, [qn_keep_1], List.forall_mem_cons.mpr ⟨List.mem_cons_of_mem _ (List.mem_cons_self), fun _ h => absurd h List.not_mem_nil⟩, qk_keep_1⟩, fun _ h => absurd h List.not_mem_nil⟩⟩
theorem hs_keep {L : Nat} {xs : Nat → Int32} {Z : Option Value → qm_H → Prop} {h : qm_H} {d : Nat} {x0 : Int32} (h6 : 6 ≤ L) (hH : hk_H h) (hB : hk_B h.2.1) (hr : hk_ru h.2.1) (hx0 : qa_in (0, 59) x0) (hd : 20 ≤ d) (k : ∀ (I : Nat → Nat → Int32) (J : Nat → Nat → Int64), hk_B I → (∀ o, qm_keep.contains o = false → ∀ i, I o i = h.2.1 o i) → Z none (h.1, I, J, h.2.2.2)) : qm_Ru (some (L, xs)) d cd_178 (qm_ent 3 [.ref 42, .int x0] h) Z := by
  refine qc_run (P := qp_keep) (S := qc_S h qm_keep) (T := qT_keep) (CT := []) (ro := none) (D := 20) (j := 178) (las := [.ref 42, .retAddr 2, .float 0]) (K0 := (2, [(0, 0, 3066), (1, 0, 59)], [], [], [], [])) (rk := [(0, 100000, 0), (0, 0, 0)]) qc_loc0 h6 rfl (fun _ h => absurd h List.not_mem_nil) qN_keep List.mem_cons_self rfl rfl [0, x0] rfl ⟨rfl, List.forall_mem_cons.mpr ⟨⟨_, rfl, ⟨by decide, by decide⟩⟩, List.forall_mem_cons.mpr ⟨⟨_, rfl, hx0⟩, fun _ h => absurd h List.not_mem_nil⟩⟩, fun _ h => absurd h List.not_mem_nil, fun _ h => absurd h List.not_mem_nil⟩ ⟨fun _ h => absurd h List.not_mem_nil, fun _ h => absurd h List.not_mem_nil⟩ ⟨_, _, rfl, rfl, ⟨_, _, rfl, ⟨_, rfl, rfl⟩, ⟨_, _, rfl, rfl, rfl⟩⟩⟩ (qa_Inv_of0 hH hB ⟨rfl, rfl, fun _ _ _ => rfl⟩ hr) hd (fun r h2 hr2 hI2 => ?_)
  obtain ⟨a1, a2, a3, a4, a5⟩ := hI2
  obtain ⟨s1, s2, s3⟩ := a4
  obtain ⟨sh2, I2, J2, R2⟩ := h2
  have s1 : sh2 = h.1 := s1
  have s2 : R2 = h.2.2.2 := s2
  subst s1
  subst s2
  have hr2 : r = none := hr2
  subst hr2
  exact k I2 J2 a2 s3
