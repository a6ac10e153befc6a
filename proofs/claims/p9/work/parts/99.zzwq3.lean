/-! summaries of methods by the engine -/
noncomputable def qm_ccov29 : List Nat := [28]
noncomputable def qp_ccov29 : qa_P := qa_PC 29 111 (qc_foot qm_ccov29)
noncomputable def qn_ccov29_0 : qa_Nd := (71, (0, [.ref 0, .retAddr 2, .retAddr 3], [], (3, [(0, 0, 3066), (1, -2147483648, 2147483647), (2, 0, 1)], [], [], [], [])), [], [(0, 100000, 0), (0, 0, 0)])
noncomputable def qn_ccov29_1 : qa_Nd := (74, (2, [.ref 28, .retAddr 2, .retAddr 3], [], (6, [(0, 0, 3066), (1, 0, 4), (2, 0, 4), (3, 0, 0), (4, -2147483648, 2147483647), (5, 2, 5)], [(true, 1, 5)], [], [(28, 4, .retAddr 5), (29, 0, .retAddr 6)], [])), [(71, 37, [.ref 0, .retAddr 2, .retAddr 4], [])], [(0, 1, 0), (1, 2, 4)])
theorem qk_ccov29_0 : qa_all qp_ccov29 [qn_ccov29_1] [] (some (some (0, 1))) qn_ccov29_0.2.2.2 3000 (20 - qn_ccov29_0.2.2.1.length) qn_ccov29_0.1 qn_ccov29_0.2.1 qn_ccov29_0.2.2.1 = true := qf_all_ok (T := [(7400002, qn_ccov29_1)]) (by decide +kernel)
theorem qk_ccov29_1 : qa_all qp_ccov29 [qn_ccov29_1] [] (some (some (0, 1))) qn_ccov29_1.2.2.2 3000 (20 - qn_ccov29_1.2.2.1.length) qn_ccov29_1.1 qn_ccov29_1.2.1 qn_ccov29_1.2.2.1 = true := qf_all_ok (T := [(7400002, qn_ccov29_1)]) (by decide +kernel)
noncomputable def qT_ccov29 : List qa_Nd := [qn_ccov29_0, qn_ccov29_1]
theorem qN_ccov29 : ∀ nd ∈ qT_ccov29, qa_nok qp_ccov29 [] (some (some (0, 1))) 20 qT_ccov29 nd := List.forall_mem_cons.mpr ⟨⟨by decide +kernel, 3000, [qn_ccov29_1], List.forall_mem_cons.mpr ⟨List.mem_cons_of_mem _ (List.mem_cons_self), fun _ h => absurd h List.not_mem_nil⟩, qk_ccov29_0⟩, List.forall_mem_cons.mpr ⟨⟨by decide +kernel, 3000, [qn_ccov29_1], List.forall_mem_cons.mpr ⟨List.mem_cons_of_mem _ (List.mem_cons_self), fun _ h => absurd h List.not_mem_nil⟩, qk_ccov29_1⟩, fun _ h => absurd h List.not_mem_nil⟩⟩
theorem hs_ccov29 {L : Nat} {xs : Nat → Int32} {Z : Option Value → qm_H → Prop} {h : qm_H} {d : Nat} {x0 x1 : Int32} (h6 : 6 ≤ L) (hH : hk_H h) (hT : h.2.2.2 0 9 = some 111 ∧ h.2.2.2 28 2 = some 29) (hB : hk_B h.2.1) (hr : hk_ru h.2.1) (hx0 : qa_in (-2147483648, 2147483647) x0) (hx1 : qa_in (0, 1) x1) (hd : 20 ≤ d) (k : ∀ (v : Int32) (I : Nat → Nat → Int32) (J : Nat → Nat → Int64), qa_in (0, 1) v → hk_B I → (∀ o, qm_ccov29.contains o = false → ∀ i, I o i = h.2.1 o i) → Z (some (.int v)) (h.1, I, J, h.2.2.2)) : qm_Ru (some (L, xs)) d cd_71 (qm_ent 3 [.ref 0, .int x0, .int x1] h) Z := by
  refine qc_run (P := qp_ccov29) (S := qc_S h qm_ccov29) (T := qT_ccov29) (CT := []) (ro := (some (0, 1))) (D := 20) (j := 71) (las := [.ref 0, .retAddr 2, .retAddr 3]) (K0 := (3, [(0, 0, 3066), (1, -2147483648, 2147483647), (2, 0, 1)], [], [], [], [])) (rk := [(0, 100000, 0), (0, 0, 0)]) qc_loc h6 rfl (fun _ h => absurd h List.not_mem_nil) qN_ccov29 List.mem_cons_self rfl rfl [0, x0, x1] rfl ⟨rfl, List.forall_mem_cons.mpr ⟨⟨_, rfl, ⟨by decide, by decide⟩⟩, List.forall_mem_cons.mpr ⟨⟨_, rfl, hx0⟩, List.forall_mem_cons.mpr ⟨⟨_, rfl, hx1⟩, fun _ h => absurd h List.not_mem_nil⟩⟩⟩, fun _ h => absurd h List.not_mem_nil, fun _ h => absurd h List.not_mem_nil⟩ ⟨fun _ h => absurd h List.not_mem_nil, fun _ h => absurd h List.not_mem_nil⟩ ⟨_, _, rfl, rfl, ⟨_, _, rfl, ⟨_, rfl, rfl⟩, ⟨_, _, rfl, ⟨_, rfl, rfl⟩, rfl⟩⟩⟩ (qa_Inv_of hH hT hB ⟨rfl, rfl, fun _ _ _ => rfl⟩ hr) hd (fun r h2 hr2 hI2 => ?_)
  obtain ⟨a1, a2, a3, a4, a5⟩ := hI2
  obtain ⟨s1, s2, s3⟩ := a4
  obtain ⟨sh2, I2, J2, R2⟩ := h2
  have s1 : sh2 = h.1 := s1
  have s2 : R2 = h.2.2.2 := s2
  subst s1
  subst s2
  obtain ⟨v, e, b⟩ := hr2
  subst e
  exact k v I2 J2 b a2 s3
noncomputable def qm_ccov111 : List Nat := [28]
noncomputable def qp_ccov111 : qa_P := qa_PC 111 29 (qc_foot qm_ccov111)
noncomputable def qn_ccov111_0 : qa_Nd := (71, (0, [.ref 0, .retAddr 2, .retAddr 3], [], (3, [(0, 0, 3066), (1, -2147483648, 2147483647), (2, 0, 1)], [], [], [], [])), [], [(0, 100000, 0), (0, 0, 0)])
noncomputable def qn_ccov111_1 : qa_Nd := (74, (2, [.ref 28, .retAddr 2, .retAddr 3], [], (6, [(0, 0, 3066), (1, 0, 4), (2, 0, 4), (3, 0, 0), (4, -2147483648, 2147483647), (5, 2, 5)], [(true, 1, 5)], [], [(28, 4, .retAddr 5), (111, 0, .retAddr 6)], [])), [(71, 37, [.ref 0, .retAddr 2, .retAddr 4], [])], [(0, 1, 0), (1, 2, 4)])
theorem qk_ccov111_0 : qa_all qp_ccov111 [qn_ccov111_1] [] (some (some (0, 1))) qn_ccov111_0.2.2.2 3000 (20 - qn_ccov111_0.2.2.1.length) qn_ccov111_0.1 qn_ccov111_0.2.1 qn_ccov111_0.2.2.1 = true := qf_all_ok (T := [(7400002, qn_ccov111_1)]) (by decide +kernel)
theorem qk_ccov111_1 : qa_all qp_ccov111 [qn_ccov111_1] [] (some (some (0, 1))) qn_ccov111_1.2.2.2 3000 (20 - qn_ccov111_1.2.2.1.length) qn_ccov111_1.1 qn_ccov111_1.2.1 qn_ccov111_1.2.2.1 = true := qf_all_ok (T := [(7400002, qn_ccov111_1)]) (by decide +kernel)
noncomputable def qT_ccov111 : List qa_Nd := [qn_ccov111_0, qn_ccov111_1]
theorem qN_ccov111 : ∀ nd ∈ qT_ccov111, qa_nok qp_ccov111 [] (some (some (0, 1))) 20 qT_ccov111 nd := List.forall_mem_cons.mpr ⟨⟨by decide +kernel, 3000, [qn_ccov111_1], List.forall_mem_cons.mpr ⟨List.mem_cons_of_mem _ (List.mem_cons_self), fun _ h => absurd h List.not_mem_nil⟩, qk_ccov111_0⟩, List.forall_mem_cons.mpr ⟨⟨by decide +kernel, 3000, [qn_ccov111_1], List.forall_mem_cons.mpr ⟨List.mem_cons_of_mem _ (List.mem_cons_self), fun _ h => absurd h List.not_mem_nil⟩, qk_ccov111_1⟩, fun _ h => absurd h List.not_mem_nil⟩⟩
theorem hs_ccov111 {L : Nat} {xs : Nat → Int32} {Z : Option Value → qm_H → Prop} {h : qm_H} {d : Nat} {x0 x1 : Int32} (h6 : 6 ≤ L) (hH : hk_H h) (hT : h.2.2.2 0 9 = some 29 ∧ h.2.2.2 28 2 = some 111) (hB : hk_B h.2.1) (hr : hk_ru h.2.1) (hx0 : qa_in (-2147483648, 2147483647) x0) (hx1 : qa_in (0, 1) x1) (hd : 20 ≤ d) (k : ∀ (v : Int32) (I : Nat → Nat → Int32) (J : Nat → Nat → Int64), qa_in (0, 1) v → hk_B I → (∀ o, qm_ccov111.contains o = false → ∀ i, I o i = h.2.1 o i) → Z (some (.int v)) (h.1, I, J, h.2.2.2)) : qm_Ru (some (L, xs)) d cd_71 (qm_ent 3 [.ref 0, .int x0, .int x1] h) Z := by
  refine qc_run (P := qp_ccov111) (S := qc_S h qm_ccov111) (T := qT_ccov111) (CT := []) (ro := (some (0, 1))) (D := 20) (j := 71) (las := [.ref 0, .retAddr 2, .retAddr 3]) (K0 := (3, [(0, 0, 3066), (1, -2147483648, 2147483647), (2, 0, 1)], [], [], [], [])) (rk := [(0, 100000, 0), (0, 0, 0)]) qc_loc h6 rfl (fun _ h => absurd h List.not_mem_nil) qN_ccov111 List.mem_cons_self rfl rfl [0, x0, x1] rfl ⟨rfl, List.forall_mem_cons.mpr ⟨⟨_, rfl, ⟨by decide, by decide⟩⟩, List.forall_mem_cons.mpr ⟨⟨_, rfl, hx0⟩, List.forall_mem_cons.mpr ⟨⟨_, rfl, hx1⟩, fun _ h => absurd h List.not_mem_nil⟩⟩⟩, fun _ h => absurd h List.not_mem_nil, fun _ h => absurd h List.not_mem_nil⟩ ⟨fun _ h => absurd h List.not_mem_nil, fun _ h => absurd h List.not_mem_nil⟩ ⟨_, _, rfl, rfl, ⟨_, _, rfl, ⟨_, rfl, rfl⟩, ⟨_, _, rfl, ⟨_, rfl, rfl⟩, rfl⟩⟩⟩ (qa_Inv_of hH hT hB ⟨rfl, rfl, fun _ _ _ => rfl⟩ hr) hd (fun r h2 hr2 hI2 => ?_)
  obtain ⟨a1, a2, a3, a4, a5⟩ := hI2
  obtain ⟨s1, s2, s3⟩ := a4
  obtain ⟨sh2, I2, J2, R2⟩ := h2
  have s1 : sh2 = h.1 := s1
  have s2 : R2 = h.2.2.2 := s2
  subst s1
  subst s2
  obtain ⟨v, e, b⟩ := hr2
  subst e
  exact k v I2 J2 b a2 s3
noncomputable def qm_rcov : List Nat := [118]
noncomputable def qp_rcov : qa_P := qa_P0 (qc_foot8 qm_rcov [54])
noncomputable def qn_rcov_0 : qa_Nd := (273, (0, [.ref 118, .retAddr 2, .retAddr 3], [], (3, [(0, 0, 3066), (1, -2147483648, 2147483647), (2, 0, 1)], [], [], [], [])), [], [(0, 100000, 0), (0, 0, 0)])
noncomputable def qn_rcov_1 : qa_Nd := (276, (2, [.ref 118, .retAddr 2, .retAddr 3], [], (7, [(0, 0, 3066), (1, 0, 4), (2, 0, 4), (3, 0, 0), (4, 0, 1), (5, -2147483648, 2147483647), (6, 1, 5)], [], [], [(118, 18, .retAddr 5), (118, 54, .retAddr 6)], [(127, 4, .retAddr 7)])), [(273, 26, [.ref 118, .retAddr 2, .retAddr 4], [])], [(0, 1, 0), (1, 2, 4)])
theorem qk_rcov_0 : qa_all qp_rcov [qn_rcov_1] [] (some (some (0, 1))) qn_rcov_0.2.2.2 3000 (20 - qn_rcov_0.2.2.1.length) qn_rcov_0.1 qn_rcov_0.2.1 qn_rcov_0.2.2.1 = true := qf_all_ok (T := [(27600002, qn_rcov_1)]) (by decide +kernel)
theorem qk_rcov_1 : qa_all qp_rcov [qn_rcov_1] [] (some (some (0, 1))) qn_rcov_1.2.2.2 3000 (20 - qn_rcov_1.2.2.1.length) qn_rcov_1.1 qn_rcov_1.2.1 qn_rcov_1.2.2.1 = true := qf_all_ok (T := [(27600002, qn_rcov_1)]) (by decide +kernel)
noncomputable def qT_rcov : List qa_Nd := [qn_rcov_0, qn_rcov_1]
theorem qN_rcov : ∀ nd ∈ qT_rcov, qa_nok qp_rcov [] (some (some (0, 1))) 20 qT_rcov nd := List.forall_mem_cons.mpr ⟨⟨by decide +kernel, 3000, [qn_rcov_1], List.forall_mem_cons.mpr ⟨List.mem_cons_of_mem _ (List.mem_cons_self), fun _ h => absurd h List.not_mem_nil⟩, qk_rcov_0⟩, List.forall_mem_cons.mpr ⟨⟨by decide +kernel, 3000, [qn_rcov_1], List.forall_mem_cons.mpr ⟨List.mem_cons_of_mem _ (List.mem_cons_self), fun _ h => absurd h List.not_mem_nil⟩, qk_rcov_1⟩, fun _ h => absurd h List.not_mem_nil⟩⟩
theorem hs_rcov {L : Nat} {xs : Nat → Int32} {Z : Option Value → qm_H → Prop} {h : qm_H} {d : Nat} {x0 x1 : Int32} (h6 : 6 ≤ L) (hH : hk_H h) (hB : hk_B h.2.1) (hr : hk_ru h.2.1) (hx0 : qa_in (-2147483648, 2147483647) x0) (hx1 : qa_in (0, 1) x1) (hd : 20 ≤ d) (k : ∀ (v : Int32) (I : Nat → Nat → Int32) (J : Nat → Nat → Int64), qa_in (0, 1) v → hk_B I → (∀ o, qm_rcov.contains o = false → ∀ i, I o i = h.2.1 o i) → (∀ i, ([54].contains i || Nat.ble 105 i) = false → I 118 i = h.2.1 118 i) → Z (some (.int v)) (h.1, I, J, h.2.2.2)) : qm_Ru (some (L, xs)) d cd_273 (qm_ent 3 [.ref 118, .int x0, .int x1] h) Z := by
  refine qc_run (P := qp_rcov) (S := qc_S8 h qm_rcov [54]) (T := qT_rcov) (CT := []) (ro := (some (0, 1))) (D := 20) (j := 273) (las := [.ref 118, .retAddr 2, .retAddr 3]) (K0 := (3, [(0, 0, 3066), (1, -2147483648, 2147483647), (2, 0, 1)], [], [], [], [])) (rk := [(0, 100000, 0), (0, 0, 0)]) qc_loc8 h6 rfl (fun _ h => absurd h List.not_mem_nil) qN_rcov List.mem_cons_self rfl rfl [0, x0, x1] rfl ⟨rfl, List.forall_mem_cons.mpr ⟨⟨_, rfl, ⟨by decide, by decide⟩⟩, List.forall_mem_cons.mpr ⟨⟨_, rfl, hx0⟩, List.forall_mem_cons.mpr ⟨⟨_, rfl, hx1⟩, fun _ h => absurd h List.not_mem_nil⟩⟩⟩, fun _ h => absurd h List.not_mem_nil, fun _ h => absurd h List.not_mem_nil⟩ ⟨fun _ h => absurd h List.not_mem_nil, fun _ h => absurd h List.not_mem_nil⟩ ⟨_, _, rfl, rfl, ⟨_, _, rfl, ⟨_, rfl, rfl⟩, ⟨_, _, rfl, ⟨_, rfl, rfl⟩, rfl⟩⟩⟩ (qa_Inv_of0 hH hB ⟨rfl, rfl, fun _ _ _ => rfl, fun _ _ => rfl⟩ hr) hd (fun r h2 hr2 hI2 => ?_)
  obtain ⟨a1, a2, a3, a4, a5⟩ := hI2
  obtain ⟨s1, s2, s3, s4⟩ := a4
  obtain ⟨sh2, I2, J2, R2⟩ := h2
  have s1 : sh2 = h.1 := s1
  have s2 : R2 = h.2.2.2 := s2
  subst s1
  subst s2
  obtain ⟨v, e, b⟩ := hr2
  subst e
  exact k v I2 J2 b a2 s3 s4
noncomputable def qm_cstk : List Nat := [10]
noncomputable def qp_cstk : qa_P := qa_P0 (qc_foot qm_cstk)
noncomputable def qn_cstk_0 : qa_Nd := (69, (0, [.ref 0, .retAddr 2, .retAddr 3], [], (3, [(0, 0, 3066), (1, -2147483648, 2147483647), (2, 0, 1)], [], [], [], [])), [], [(0, 0, 0)])
theorem qk_cstk_0 : qa_all qp_cstk [] [] (some (some (0, 1))) qn_cstk_0.2.2.2 3000 (20 - qn_cstk_0.2.2.1.length) qn_cstk_0.1 qn_cstk_0.2.1 qn_cstk_0.2.2.1 = true := qf_all_ok (T := []) (by decide +kernel)
noncomputable def qT_cstk : List qa_Nd := [qn_cstk_0]
theorem qN_cstk : ∀ nd ∈ qT_cstk, qa_nok qp_cstk [] (some (some (0, 1))) 20 qT_cstk nd := List.forall_mem_cons.mpr ⟨⟨by decide +kernel, 3000, [], fun _ h => absurd h List.not_mem_nil, qk_cstk_0⟩, fun _ h => absurd h List.not_mem_nil⟩
theorem hs_cstk {L : Nat} {xs : Nat → Int32} {Z : Option Value → qm_H → Prop} {h : qm_H} {d : Nat} {x0 x1 : Int32} (h6 : 6 ≤ L) (hH : hk_H h) (hB : hk_B h.2.1) (hr : hk_ru h.2.1) (hx0 : qa_in (-2147483648, 2147483647) x0) (hx1 : qa_in (0, 1) x1) (hd : 20 ≤ d) (k : ∀ (v : Int32) (I : Nat → Nat → Int32) (J : Nat → Nat → Int64), qa_in (0, 1) v → hk_B I → (∀ o, qm_cstk.contains o = false → ∀ i, I o i = h.2.1 o i) → Z (some (.int v)) (h.1, I, J, h.2.2.2)) : qm_Ru (some (L, xs)) d cd_69 (qm_ent 3 [.ref 0, .int x0, .int x1] h) Z := by
  refine qc_run (P := qp_cstk) (S := qc_S h qm_cstk) (T := qT_cstk) (CT := []) (ro := (some (0, 1))) (D := 20) (j := 69) (las := [.ref 0, .retAddr 2, .retAddr 3]) (K0 := (3, [(0, 0, 3066), (1, -2147483648, 2147483647), (2, 0, 1)], [], [], [], [])) (rk := [(0, 0, 0)]) qc_loc0 h6 rfl (fun _ h => absurd h List.not_mem_nil) qN_cstk List.mem_cons_self rfl rfl [0, x0, x1] rfl ⟨rfl, List.forall_mem_cons.mpr ⟨⟨_, rfl, ⟨by decide, by decide⟩⟩, List.forall_mem_cons.mpr ⟨⟨_, rfl, hx0⟩, List.forall_mem_cons.mpr ⟨⟨_, rfl, hx1⟩, fun _ h => absurd h List.not_mem_nil⟩⟩⟩, fun _ h => absurd h List.not_mem_nil, fun _ h => absurd h List.not_mem_nil⟩ ⟨fun _ h => absurd h List.not_mem_nil, fun _ h => absurd h List.not_mem_nil⟩ ⟨_, _, rfl, rfl, ⟨_, _, rfl, ⟨_, rfl, rfl⟩, ⟨_, _, rfl, ⟨_, rfl, rfl⟩, rfl⟩⟩⟩ (qa_Inv_of0 hH hB ⟨rfl, rfl, fun _ _ _ => rfl⟩ hr) hd (fun r h2 hr2 hI2 => ?_)
  obtain ⟨a1, a2, a3, a4, a5⟩ := hI2
  obtain ⟨s1, s2, s3⟩ := a4
  obtain ⟨sh2, I2, J2, R2⟩ := h2
  have s1 : sh2 = h.1 := s1
  have s2 : R2 = h.2.2.2 := s2
  subst s1
  subst s2
  obtain ⟨v, e, b⟩ := hr2
  subst e
  exact k v I2 J2 b a2 s3
noncomputable def qm_rstk : List Nat := [149]
noncomputable def qp_rstk : qa_P := qa_P0 (qc_foot qm_rstk)
noncomputable def qn_rstk_0 : qa_Nd := (271, (0, [.ref 118, .retAddr 2, .retAddr 3], [], (3, [(0, 0, 3066), (1, -2147483648, 2147483647), (2, 0, 1)], [], [], [], [])), [], [(0, 0, 0)])
theorem qk_rstk_0 : qa_all qp_rstk [] [] (some (some (0, 1))) qn_rstk_0.2.2.2 3000 (20 - qn_rstk_0.2.2.1.length) qn_rstk_0.1 qn_rstk_0.2.1 qn_rstk_0.2.2.1 = true := qf_all_ok (T := []) (by decide +kernel)
noncomputable def qT_rstk : List qa_Nd := [qn_rstk_0]
theorem qN_rstk : ∀ nd ∈ qT_rstk, qa_nok qp_rstk [] (some (some (0, 1))) 20 qT_rstk nd := List.forall_mem_cons.mpr ⟨⟨by decide +kernel, 3000, [], fun _ h => absurd h List.not_mem_nil, qk_rstk_0⟩, fun _ h => absurd h List.not_mem_nil⟩
theorem hs_rstk {L : Nat} {xs : Nat → Int32} {Z : Option Value → qm_H → Prop} {h : qm_H} {d : Nat} {x0 x1 : Int32} (h6 : 6 ≤ L) (hH : hk_H h) (hB : hk_B h.2.1) (hr : hk_ru h.2.1) (hx0 : qa_in (-2147483648, 2147483647) x0) (hx1 : qa_in (0, 1) x1) (hd : 20 ≤ d) (k : ∀ (v : Int32) (I : Nat → Nat → Int32) (J : Nat → Nat → Int64), qa_in (0, 1) v → hk_B I → (∀ o, qm_rstk.contains o = false → ∀ i, I o i = h.2.1 o i) → Z (some (.int v)) (h.1, I, J, h.2.2.2)) : qm_Ru (some (L, xs)) d cd_271 (qm_ent 3 [.ref 118, .int x0, .int x1] h) Z := by
  refine qc_run (P := qp_rstk) (S := qc_S h qm_rstk) (T := qT_rstk) (CT := []) (ro := (some (0, 1))) (D := 20) (j := 271) (las := [.ref 118, .retAddr 2, .retAddr 3]) (K0 := (3, [(0, 0, 3066), (1, -2147483648, 2147483647), (2, 0, 1)], [], [], [], [])) (rk := [(0, 0, 0)]) qc_loc0 h6 rfl (fun _ h => absurd h List.not_mem_nil) qN_rstk List.mem_cons_self rfl rfl [0, x0, x1] rfl ⟨rfl, List.forall_mem_cons.mpr ⟨⟨_, rfl, ⟨by decide, by decide⟩⟩, List.forall_mem_cons.mpr ⟨⟨_, rfl, hx0⟩, List.forall_mem_cons.mpr ⟨⟨_, rfl, hx1⟩, fun _ h => absurd h List.not_mem_nil⟩⟩⟩, fun _ h => absurd h List.not_mem_nil, fun _ h => absurd h List.not_mem_nil⟩ ⟨fun _ h => absurd h List.not_mem_nil, fun _ h => absurd h List.not_mem_nil⟩ ⟨_, _, rfl, rfl, ⟨_, _, rfl, ⟨_, rfl, rfl⟩, ⟨_, _, rfl, ⟨_, rfl, rfl⟩, rfl⟩⟩⟩ (qa_Inv_of0 hH hB ⟨rfl, rfl, fun _ _ _ => rfl⟩ hr) hd (fun r h2 hr2 hI2 => ?_)
  obtain ⟨a1, a2, a3, a4, a5⟩ := hI2
  obtain ⟨s1, s2, s3⟩ := a4
  obtain ⟨sh2, I2, J2, R2⟩ := h2
  have s1 : sh2 = h.1 := s1
  have s2 : R2 = h.2.2.2 := s2
  subst s1
  subst s2
  obtain ⟨v, e, b⟩ := hr2
  subst e
  exact k v I2 J2 b a2 s3
