/-! summaries of methods by the engine -/
noncomputable def qm_onside : List Nat := []
noncomputable def qp_onside : qa_P := qa_P0 (qc_foot qm_onside)
noncomputable def qn_onside_0 : qa_Nd := (207, (0, [.ref 51, .retAddr 2, .retAddr 3, .float 0, .float 0, .float 0], [], (3, [(0, 0, 3066), (1, 0, 1), (2, -2147483648, 2147483647)], [], [], [], [])), [], [(0, 0, 0)])
theorem qk_onside_0 : qa_all qp_onside [] [] (some (some (0, 1))) qn_onside_0.2.2.2 3000 (10 - qn_onside_0.2.2.1.length) qn_onside_0.1 qn_onside_0.2.1 qn_onside_0.2.2.1 = true := qf_all_ok (T := []) (by decide +kernel)
noncomputable def qT_onside : List qa_Nd := [qn_onside_0]
theorem qN_onside : ∀ nd ∈ qT_onside, qa_nok qp_onside [] (some (some (0, 1))) 10 qT_onside nd := List.forall_mem_cons.mpr ⟨⟨by decide +kernel, 3000, [], fun _ h => absurd h List.not_mem_nil, qk_onside_0⟩, fun _ h => absurd h List.not_mem_nil⟩
theorem hs_onside {L : Nat} {xs : Nat → Int32} {Z : Option Value → qm_H → Prop} {h : qm_H} {d : Nat} {x0 x1 : Int32} (h6 : 6 ≤ L) (hH : hk_H h) (hB : hk_B h.2.1) (hr : hk_ru h.2.1) (hx0 : qa_in (0, 1) x0) (hx1 : qa_in (-2147483648, 2147483647) x1) (hd : 10 ≤ d) (k : ∀ (v : Int32) (I : Nat → Nat → Int32) (J : Nat → Nat → Int64), qa_in (0, 1) v → hk_B I → (∀ o, qm_onside.contains o = false → ∀ i, I o i = h.2.1 o i) → Z (some (.int v)) (h.1, I, J, h.2.2.2)) : qm_Ru (some (L, xs)) d cd_207 (qm_ent 6 [.ref 51, .int x0, .int x1] h) Z := by
  refine qc_run (P := qp_onside) (S := qc_S h qm_onside) (T := qT_onside) (CT := []) (ro := (some (0, 1))) (D := 10) (j := 207) (las := [.ref 51, .retAddr 2, .retAddr 3, .float 0, .float 0, .float 0]) (K0 := (3, [(0, 0, 3066), (1, 0, 1), (2, -2147483648, 2147483647)], [], [], [], [])) (rk := [(0, 0, 0)]) qc_loc0 h6 rfl (fun _ h => absurd h List.not_mem_nil) qN_onside List.mem_cons_self rfl rfl [0, x0, x1] rfl ⟨rfl, List.forall_mem_cons.mpr ⟨⟨_, rfl, ⟨by decide, by decide⟩⟩, List.forall_mem_cons.mpr ⟨⟨_, rfl, hx0⟩, List.forall_mem_cons.mpr ⟨⟨_, rfl, hx1⟩, fun _ h => absurd h List.not_mem_nil⟩⟩⟩, fun _ h => absurd h List.not_mem_nil, fun _ h => absurd h List.not_mem_nil⟩ ⟨fun _ h => absurd h List.not_mem_nil, fun _ h => absurd h List.not_mem_nil⟩ ⟨_, _, rfl, rfl, ⟨_, _, rfl, ⟨_, rfl, rfl⟩, ⟨_, _, rfl, ⟨_, rfl, rfl⟩, ⟨_, _, rfl, rfl, ⟨_, _, rfl, rfl, ⟨_, _, rfl, rfl, rfl⟩⟩⟩⟩⟩⟩ (qa_Inv_of0 hH hB ⟨rfl, rfl, fun _ _ _ => rfl⟩ hr) hd (fun r h2 hr2 hI2 => ?_)
  obtain ⟨a1, a2, a3, a4, a5⟩ := hI2
  obtain ⟨s1, s2, s3⟩ := a4
  obtain ⟨sh2, I2, J2, R2⟩ := h2
  have s1 : sh2 = h.1 := s1
  have s2 : R2 = h.2.2.2 := s2
  subst s1
  subst s2
  obtain ⟨v, e, b⟩ := hr2
  subst e
  exact k v I2 J2 b a2 s3
