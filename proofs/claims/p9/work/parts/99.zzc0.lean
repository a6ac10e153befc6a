/-! summaries of methods by the engine -/
noncomputable def qm_adv : List Nat := [1]
noncomputable def qp_adv : qa_P := qa_P0 (qc_foot qm_adv)
noncomputable def qn_adv_0 : qa_Nd := (21, (0, [.ref 1], [], (1, [(0, 0, 3066)], [], [], [], [])), [], [(0, 100000, 0), (0, 0, 0)])
noncomputable def qn_adv_1 : qa_Nd := (21, (0, [.ref 1], [], (3, [(0, 0, 3066), (1, 1, 2000), (2, 1, 2000)], [(false, 2, 1)], [], [(1, 1, .retAddr 2), (1, 2, .retAddr 3)], [])), [], [(0, 3, 0), (1, 2, 2000)])
noncomputable def qn_adv_2 : qa_Nd := (24, (5, [.ref 1], [], (5, [(0, 0, 3066), (1, 1, 2000), (2, 0, 2000), (3, 0, 1999), (4, 97, 122)], [(false, 2, 1), (true, 3, 1), (false, 3, 2)], [], [(1, 1, .retAddr 2), (1, 2, .retAddr 3), (1, 4, .retAddr 4)], [(2, 3, .retAddr 5)])), [(21, 86, [.ref 1], [])], [(0, 1, 0), (1, 2, 2000)])
noncomputable def qn_adv_3 : qa_Nd := (27, (5, [.ref 1], [], (6, [(0, 0, 3066), (1, 1, 2000), (2, 0, 2000), (3, 0, 1999), (4, -2147483648, 2147483647), (5, 48, 57)], [(false, 2, 1), (true, 3, 1), (false, 3, 2)], [], [(1, 1, .retAddr 2), (1, 2, .retAddr 3), (1, 4, .retAddr 4), (1, 5, .retAddr 5)], [(2, 3, .retAddr 6)])), [(21, 108, [.ref 1], [])], [(0, 2, 0), (1, 2, 2000)])
theorem qk_adv_0 : qa_all qp_adv [qn_adv_1, qn_adv_2, qn_adv_3] [qc_kc] (some none) qn_adv_0.2.2.2 3000 (16 - qn_adv_0.2.2.1.length) qn_adv_0.1 qn_adv_0.2.1 qn_adv_0.2.2.1 = true := qf_all_ok (T := [(2100000, qn_adv_1), (2400005, qn_adv_2), (2700005, qn_adv_3)]) (by decide +kernel)
theorem qk_adv_1 : qa_all qp_adv [qn_adv_1, qn_adv_2, qn_adv_3] [qc_kc] (some none) qn_adv_1.2.2.2 3000 (16 - qn_adv_1.2.2.1.length) qn_adv_1.1 qn_adv_1.2.1 qn_adv_1.2.2.1 = true := qf_all_ok (T := [(2100000, qn_adv_1), (2400005, qn_adv_2), (2700005, qn_adv_3)]) (by decide +kernel)
theorem qk_adv_2 : qa_all qp_adv [qn_adv_2] [qc_kc] (some none) qn_adv_2.2.2.2 3000 (16 - qn_adv_2.2.2.1.length) qn_adv_2.1 qn_adv_2.2.1 qn_adv_2.2.2.1 = true := qf_all_ok (T := [(2400005, qn_adv_2)]) (by decide +kernel)
theorem qk_adv_3 : qa_all qp_adv [qn_adv_3] [qc_kc] (some none) qn_adv_3.2.2.2 3000 (16 - qn_adv_3.2.2.1.length) qn_adv_3.1 qn_adv_3.2.1 qn_adv_3.2.2.1 = true := qf_all_ok (T := [(2700005, qn_adv_3)]) (by decide +kernel)
noncomputable def qT_adv : List qa_Nd := [qn_adv_0, qn_adv_1, qn_adv_2, qn_adv_3]
theorem qN_adv : ∀ nd ∈ qT_adv, qa_nok qp_adv [qc_kc] (some none) 16 qT_adv nd := List.forall_mem_cons.mpr ⟨⟨by decide +kernel, 3000, [qn_adv_1, qn_adv_2, qn_adv_3], List.forall_mem_cons.mpr ⟨List.mem_cons_of_mem _ (List.mem_cons_self), List.forall_mem_cons.mpr ⟨List.mem_cons_of_mem _ (List.mem_cons_of_mem _ (List.mem_cons_self)), List.forall_mem_cons.mpr ⟨List.mem_cons_of_mem _ (List.mem_cons_of_mem _ (List.mem_cons_of_mem _ (List.mem_cons_self))), fun _ h => absurd h List.not_mem_nil⟩⟩⟩, qk_adv_0⟩, List.forall_mem_cons.mpr ⟨⟨by decide +kernel, 3000, [qn_adv_1, qn_adv_2, qn_adv_3], List.forall_mem_cons.mpr ⟨List.mem_cons_of_mem _ (List.mem_cons_self), List.forall_mem_cons.mpr ⟨List.mem_cons_of_mem _ (List.mem_cons_of_mem _ (List.mem_cons_self)), List.forall_mem_cons.mpr ⟨List.mem_cons_of_mem _ (List.mem_cons_of_mem _ (List.mem_cons_of_mem _ (List.mem_cons_self))), fun _ h => absurd h List.not_mem_nil⟩⟩⟩, qk_adv_1⟩, List.forall_mem_cons.mpr ⟨⟨by decide +kernel, 3000, [qn_adv_2], List.forall_mem_cons.mpr ⟨List.mem_cons_of_mem _ (List.mem_cons_of_mem _ (List.mem_cons_self)), fun _ h => absurd h List.not_mem_nil⟩, qk_adv_2⟩, List.forall_mem_cons.mpr ⟨⟨by decide +kernel, 3000, [qn_adv_3], List.forall_mem_cons.mpr ⟨List.mem_cons_of_mem _ (List.mem_cons_of_mem _ (List.mem_cons_of_mem _ (List.mem_cons_self))), fun _ h => absurd h List.not_mem_nil⟩, qk_adv_3⟩, fun _ h => absurd h List.not_mem_nil⟩⟩⟩⟩
theorem hs_adv {L : Nat} {xs : Nat → Int32} {Z : Option Value → qm_H → Prop} {h : qm_H} {d : Nat} (h6 : 6 ≤ L) (hH : hk_H h) (hB : hk_B h.2.1) (hr : hk_ru h.2.1) (hd : 16 ≤ d) (k : ∀ (I : Nat → Nat → Int32) (J : Nat → Nat → Int64), hk_B I → (∀ o, qm_adv.contains o = false → ∀ i, I o i = h.2.1 o i) → Z none (h.1, I, J, h.2.2.2)) : qm_Ru (some (L, xs)) d cd_21 (qm_ent 1 [.ref 1] h) Z := by
  refine qc_run (P := qp_adv) (S := qc_S h qm_adv) (T := qT_adv) (CT := [qc_kc]) (ro := none) (D := 16) (j := 21) (las := [.ref 1]) (K0 := (1, [(0, 0, 3066)], [], [], [], [])) (rk := [(0, 100000, 0), (0, 0, 0)]) qc_loc0 h6 rfl (qc_kind) qN_adv List.mem_cons_self rfl rfl [0] rfl ⟨rfl, List.forall_mem_cons.mpr ⟨⟨_, rfl, ⟨by decide, by decide⟩⟩, fun _ h => absurd h List.not_mem_nil⟩, fun _ h => absurd h List.not_mem_nil, fun _ h => absurd h List.not_mem_nil⟩ ⟨fun _ h => absurd h List.not_mem_nil, fun _ h => absurd h List.not_mem_nil⟩ ⟨_, _, rfl, rfl, rfl⟩ (qa_Inv_of0 hH hB ⟨rfl, rfl, fun _ _ _ => rfl⟩ hr) hd (fun r h2 hr2 hI2 => ?_)
  obtain ⟨a1, a2, a3, a4, a5⟩ := hI2
  obtain ⟨s1, s2, s3⟩ := a4
  obtain ⟨sh2, I2, J2, R2⟩ := h2
  have s1 : sh2 = h.1 := s1
  have s2 : R2 = h.2.2.2 := s2
  subst s1
  subst s2
  have hr2 : r = none := hr2
  subst hr2
  exact k I2 J2 a2 s3
noncomputable def qc_ac : qa_Ct := (21, qc_pre 1 [], none, [1], 16)
/-- advance as a contract of the engine, over cells that stay but for those of a list -/
theorem qc_adv {h : qm_H} {mod : List Nat} {t L : Nat} {xs : Nat → Int32} (h6 : 6 ≤ L) (hH : hk_H h) (hr : hk_ru h.2.1) (hm : ∀ o, mod.contains o = false → [1].contains o = false) (hm2 : ∀ o, [11, 12, 13, 14, 150, 151].contains o = true → mod.contains o = false) : ∀ q ∈ [qc_ac], qa_hc (qa_PR t (qc_foot mod)) (qc_S h mod) (some (L, xs)) q := by
  refine List.forall_mem_cons.mpr ⟨?_, fun _ h => absurd h List.not_mem_nil⟩
  intro p K as as' h' d Z hs hp hg hpre hI hd k
  obtain ⟨t0, t0', e1, g1, c1⟩ := qc_pre_1 hg hpre
  have e4 := qc_ints_0 g1 c1
  subst e4
  subst e1
  obtain ⟨i1, i2, i3, i4, i5⟩ := hI
  have hd : 16 ≤ d := hd
  have hH' : hk_H h' := by
    refine ⟨fun o q hq => ?_, fun o i w hq => ?_⟩
    · rw [i4.1]
      exact hH.1 o q hq
    · rw [i4.2.1]
      exact hH.2 o i w hq
  have hr' : hk_ru h'.2.1 := hk_ru_cg hr (fun o ho i => i4.2.2 o (hm2 o ho) i)
  refine hs_adv h6 hH' i2 hr' hd (fun I J hB e => ?_)
  have e : ∀ o, [1].contains o = false → ∀ i, I o i = h'.2.1 o i := e
  refine k none (h'.1, I, J, h'.2.2.2) rfl ⟨i1, hB, i3, ⟨i4.1, i4.2.1, fun o ho i => ?_⟩, ?_⟩ e
  · show I o i = h.2.1 o i
    rw [e o (hm o ho) i]
    exact i4.2.2 o ho i
  · intro r hr1 _ _ i ei
    exact hk_ru_cg hr' (fun o ho i => e o (hm o (hm2 o ho)) i) r hr1 i ei
