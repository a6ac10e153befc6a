/-! the contracts of all methods that the engine takes at their word, over the law's calls -/
theorem gS_ru {h : qm_H} (hS : gS h) : hk_ru h.2.1 := v_R_ru hS.2.1.1.1
theorem gS_held {t1 t2 L : Nat} {xs : Nat → Int32} (h6 : 6 ≤ L) (ht : t1 = 29 ∨ t1 = 111) : qa_hc (qa_PC t1 t2 qa_foot) gS (some (L, xs)) (qc_ct t1) := by
  intro p K as as' h' d Z hs hp hg hpre hI hd k
  obtain ⟨t0, t0', e1, g1, c1⟩ := qc_pre_1 hg hpre
  obtain ⟨x, t1', t1'', e2, bx, g2, c2⟩ := qc_ints_1 hs g1 c1
  obtain ⟨y, t2', t2'', e3, by_, g3, c3⟩ := qc_ints_1 hs g2 c2
  have e4 := qc_ints_0 g3 c3
  subst e4
  subst e3
  subst e2
  subst e1
  have hH' := (hk_H_in hI).1
  obtain ⟨i1, i2, i3, i4, i5⟩ := hI
  have hd : 22 ≤ d := hd
  obtain ⟨d, rfl⟩ : ∃ e, d = e + 22 := ⟨d - 22, by omega⟩
  refine hs_held h6 hH' i2 (gS_ru i4) ht (wI_S i4.2.2 ht) bx by_ (fun v I J hB e => ?_)
  have e' : ∀ o ∈ 118 :: 158 :: [6, 11, 12, 13, 14, 16, 17, 36, 150, 151] ++ q_objs, ∀ i, I o i = h'.2.1 o i := fun o ho i => e o ((show ∀ o ∈ 118 :: 158 :: [6, 11, 12, 13, 14, 16, 17, 36, 150, 151] ++ q_objs, qc_wm.contains o = false from by decide) o ho) i
  have hS' : gS (h'.1, I, J, h'.2.2.2) := ⟨v_C_cg9 i4.1 (fun o ho i => e' o (List.mem_append_left _ (List.mem_cons_of_mem _ (List.mem_cons_of_mem _ (List.contains_iff_mem.mp ho)))) i), v_S_sm i4.2.1 (fun o ho i => e' o (List.mem_append_right _ ho) i) (e' 158 (by decide)) (e' 118 (by decide) 18) (e' 118 (by decide) 44) (e' 118 (by decide) 59), wI_same i4.2.2 rfl rfl⟩
  exact k (some (.int v)) (h'.1, I, J, h'.2.2.2) ⟨v, rfl, qa_in_full v⟩ ⟨i1, hB, i3, hS', fun r hr1 _ _ i ei => gS_ru hS' r hr1 i ei⟩ e
noncomputable def qp_a : qa_P := qa_PC 29 111 qa_foot
noncomputable def qa_ka66 : qa_Ct := (66, qc_pre 6 [(0, 40), (0, 4), (0, 5)], some (-1, 29), [6, 7, 8, 9, 10, 11, 12, 13, 14, 16, 17, 28, 36, 37], 20)
theorem qz_a66 {L : Nat} {xs : Nat → Int32} (h6 : 6 ≤ L) : qa_hc qp_a gS (some (L, xs)) qa_ka66 := by
  refine hc_lift hc_make h6 (fun _ hS => hS.1) (fun _ _ _ => trivial) (fun h I J hS hV e => gS_c hS hV e (by decide)) (fun _ hS => gS_ru hS) (fun p K as as2 I hs hg hc => ?_)
  obtain ⟨t, t0, rfl, g, q⟩ := qc_pre_1 hg hc
  obtain ⟨x0, s0, t1, rfl, b0, g, q⟩ := qc_ints_1 hs g q
  obtain ⟨x1, s1, t2, rfl, b1, g, q⟩ := qc_ints_1 hs g q
  obtain ⟨x2, s2, t3, rfl, b2, g, q⟩ := qc_ints_1 hs g q
  obtain rfl := qc_ints_0 g q
  exact ⟨x0, x1, x2, rfl, b0, b1, b2⟩
noncomputable def qa_ka76 : qa_Ct := (76, qc_pre 0 [(-2147483648, 2147483647), (-2147483648, 2147483647)], some (-1, 3), [6, 7, 8, 9, 10, 11, 12, 13, 14, 16, 17, 28, 36, 37], 20)
theorem qz_a76 {L : Nat} {xs : Nat → Int32} (h6 : 6 ≤ L) : qa_hc qp_a gS (some (L, xs)) qa_ka76 := by
  refine hc_lift hc_store h6 (fun _ hS => hS.1) (fun _ _ _ => trivial) (fun h I J hS hV e => gS_c hS hV e (by decide)) (fun _ hS => gS_ru hS) (fun p K as as2 I hs hg hc => ?_)
  obtain ⟨t, t0, rfl, g, q⟩ := qc_pre_1 hg hc
  obtain ⟨x0, s0, t1, rfl, b0, g, q⟩ := qc_ints_1 hs g q
  obtain ⟨x1, s1, t2, rfl, b1, g, q⟩ := qc_ints_1 hs g q
  obtain rfl := qc_ints_0 g q
  exact ⟨x0, x1, rfl, b0, b1⟩
noncomputable def qa_ka80 : qa_Ct := (80, qc_pre 0 [(-2147483648, 2147483647)], some (-2, 29), [6, 7, 8, 9, 10, 11, 12, 13, 14, 16, 17, 28, 36, 37], 30)
theorem qz_a80 {L : Nat} {xs : Nat → Int32} (h6 : 6 ≤ L) : qa_hc qp_a gS (some (L, xs)) qa_ka80 := by
  refine hc_lift hc_fetch h6 (fun _ hS => hS.1) (fun _ _ _ => trivial) (fun h I J hS hV e => gS_c hS hV e (by decide)) (fun _ hS => gS_ru hS) (fun p K as as2 I hs hg hc => ?_)
  obtain ⟨t, t0, rfl, g, q⟩ := qc_pre_1 hg hc
  obtain ⟨x0, s0, t1, rfl, b0, g, q⟩ := qc_ints_1 hs g q
  obtain rfl := qc_ints_0 g q
  exact ⟨x0, rfl, b0⟩
noncomputable def qa_ka86 : qa_Ct := (86, qc_pre 28 [(-2147483648, 2147483647), (-2147483648, 2147483647), (-2147483648, 2147483647)], some (-3, 3), [6, 7, 8, 9, 10, 11, 12, 13, 14, 16, 17, 28, 36, 37], 40)
theorem qz_a86 {L : Nat} {xs : Nat → Int32} (h6 : 6 ≤ L) : qa_hc qp_a gS (some (L, xs)) qa_ka86 := by
  refine hc_lift hc_loading29 h6 (fun _ hS => hS.1) (fun _ _ hT => hT) (fun h I J hS hV e => gS_c hS hV e (by decide)) (fun _ hS => gS_ru hS) (fun p K as as2 I hs hg hc => ?_)
  obtain ⟨t, t0, rfl, g, q⟩ := qc_pre_1 hg hc
  obtain ⟨x0, s0, t1, rfl, b0, g, q⟩ := qc_ints_1 hs g q
  obtain ⟨x1, s1, t2, rfl, b1, g, q⟩ := qc_ints_1 hs g q
  obtain ⟨x2, s2, t3, rfl, b2, g, q⟩ := qc_ints_1 hs g q
  obtain rfl := qc_ints_0 g q
  exact ⟨x0, x1, x2, rfl, b0, b1, b2⟩
noncomputable def qa_ka102 : qa_Ct := (102, qc_pre 28 [(-2147483648, 2147483647), (-2147483648, 2147483647), (-2147483648, 2147483647)], some (-3, 2), [6, 7, 8, 9, 10, 11, 12, 13, 14, 16, 17, 28, 36, 37], 40)
theorem qz_a102 {L : Nat} {xs : Nat → Int32} (h6 : 6 ≤ L) : qa_hc qp_a gS (some (L, xs)) qa_ka102 := by
  refine hc_lift hc_unloading29 h6 (fun _ hS => hS.1) (fun _ _ hT => hT) (fun h I J hS hV e => gS_c hS hV e (by decide)) (fun _ hS => gS_ru hS) (fun p K as as2 I hs hg hc => ?_)
  obtain ⟨t, t0, rfl, g, q⟩ := qc_pre_1 hg hc
  obtain ⟨x0, s0, t1, rfl, b0, g, q⟩ := qc_ints_1 hs g q
  obtain ⟨x1, s1, t2, rfl, b1, g, q⟩ := qc_ints_1 hs g q
  obtain ⟨x2, s2, t3, rfl, b2, g, q⟩ := qc_ints_1 hs g q
  obtain rfl := qc_ints_0 g q
  exact ⟨x0, x1, x2, rfl⟩
noncomputable def qa_ka160 : qa_Ct := (160, qc_pre 15 [], some (-2, 36), [15, 19, 20, 22, 23, 24, 25, 26, 27], 100)
theorem qz_a160 {L : Nat} {xs : Nat → Int32} (h6 : 6 ≤ L) : qa_hc qp_a gS (some (L, xs)) qa_ka160 := by
  refine hc_lift hc_yrule h6 (fun _ hS => hS.1) (fun _ _ _ => trivial) (fun h I J hS hV e => gS_c hS hV e (by decide)) (fun _ hS => gS_ru hS) (fun p K as as2 I hs hg hc => ?_)
  obtain ⟨t, t0, rfl, g, q⟩ := qc_pre_1 hg hc
  obtain rfl := qc_ints_0 g q
  exact rfl
noncomputable def qa_ka169 : qa_Ct := (169, qc_pre 15 [], some (-3, 5), [15, 19, 20, 22, 23, 24, 25, 26, 27], 220)
theorem qz_a169 {L : Nat} {xs : Nat → Int32} (h6 : 6 ≤ L) : qa_hc qp_a gS (some (L, xs)) qa_ka169 := by
  refine hc_lift hc_yleast h6 (fun _ hS => hS.1) (fun _ _ _ => trivial) (fun h I J hS hV e => gS_c hS hV e (by decide)) (fun _ hS => gS_ru hS) (fun p K as as2 I hs hg hc => ?_)
  obtain ⟨t, t0, rfl, g, q⟩ := qc_pre_1 hg hc
  obtain rfl := qc_ints_0 g q
  exact rfl
noncomputable def qa_ka175 : qa_Ct := (175, qc_pre 15 [], some (0, 16), [15, 19, 20, 22, 23, 24, 25, 26, 27], 40)
theorem qz_a175 {L : Nat} {xs : Nat → Int32} (h6 : 6 ≤ L) : qa_hc qp_a gS (some (L, xs)) qa_ka175 := by
  refine hc_lift hc_blockers h6 (fun _ hS => hS.1) (fun _ _ _ => trivial) (fun h I J hS hV e => gS_c hS hV e (by decide)) (fun _ hS => gS_ru hS) (fun p K as as2 I hs hg hc => ?_)
  obtain ⟨t, t0, rfl, g, q⟩ := qc_pre_1 hg hc
  obtain rfl := qc_ints_0 g q
  exact rfl
noncomputable def qa_ke207 : qa_Ct := (207, qc_pre 51 [(0, 1), (-2147483648, 2147483647)], some (0, 1), [], 10)
theorem qz_e207 {t1 t2 L : Nat} {xs : Nat → Int32} (h6 : 6 ≤ L) : qa_hc (qa_PC t1 t2 qa_foot) gS (some (L, xs)) qa_ke207 := by
  intro p K as as2 h d Z hs hp hg hc hI hd k
  obtain ⟨u, w0, rfl, g, q⟩ := qc_pre_1 hg hc
  obtain ⟨x0, u0, w1, rfl, b0, g, q⟩ := qc_ints_1 hs g q
  obtain ⟨x1, u1, w2, rfl, b1, g, q⟩ := qc_ints_1 hs g q
  obtain rfl := qc_ints_0 g q
  have hd : 10 ≤ d := hd
  have hH := (hk_H_in hI).1
  obtain ⟨i1, i2, i3, i4, i5⟩ := hI
  refine hs_onside h6 hH i2 (gS_ru i4) b0 b1 hd (fun v I J bv hB e => ?_)
  have eI : I = h.2.1 := funext fun o => funext fun i => e o rfl i
  subst eI
  exact k (some (.int v)) (h.1, h.2.1, J, h.2.2.2) ⟨v, rfl, bv⟩ ⟨i1, i2, i3, gS_loc (t1 := t1) (t2 := t2) h h.2.1 J (fun _ _ _ => rfl) i4, fun r hr1 _ _ i ei => gS_ru i4 r hr1 i ei⟩ (fun _ _ _ => rfl)
noncomputable def qa_ka232 : qa_Ct := (232, qc_pre 0 [(-2147483648, 2147483647)], some (-2147483648, 2147483647), [11, 12, 13, 14, 28, 34, 36, 37, 192, 193, 194, 195, 196, 197, 198, 199, 200, 201, 202, 203, 204, 205, 206, 207, 208, 209, 210, 211, 212, 213, 214, 215, 216, 217, 218, 219, 220, 221, 222, 223, 224, 225, 226, 227, 228, 229, 230, 231, 232, 233], 120)
theorem qz_a232 {L : Nat} {xs : Nat → Int32} (h6 : 6 ≤ L) : qa_hc qp_a gS (some (L, xs)) qa_ka232 := by
  refine hc_lift hc_cbest29 h6 (fun _ hS => hS.1) (fun _ hS hT => ⟨hT, wI_S hS.2.2 (Or.inl rfl)⟩) (fun h I J hS hV e => gS_c hS hV e (by decide)) (fun _ hS => gS_ru hS) (fun p K as as2 I hs hg hc => ?_)
  obtain ⟨t, t0, rfl, g, q⟩ := qc_pre_1 hg hc
  obtain ⟨x0, s0, t1, rfl, b0, g, q⟩ := qc_ints_1 hs g q
  obtain rfl := qc_ints_0 g q
  exact ⟨x0, rfl⟩
noncomputable def qa_ka236 : qa_Ct := (236, qc_pre 0 [(-2147483648, 2147483647), (-2147483648, 2147483647)], some (-2147483648, 2147483647), [11, 12, 13, 14, 28, 34, 36, 37, 39, 192, 193, 194, 195, 196, 197, 198, 199, 200, 201, 202, 203, 204, 205, 206, 207, 208, 209, 210, 211, 212, 213, 214, 215, 216, 217, 218, 219, 220, 221, 222, 223, 224, 225, 226, 227, 228, 229, 230, 231, 232, 233], 120)
theorem qz_a236 {L : Nat} {xs : Nat → Int32} (h6 : 6 ≤ L) : qa_hc qp_a gS (some (L, xs)) qa_ka236 := by
  refine hc_lift hc_ctwo29 h6 (fun _ hS => hS.1) (fun _ hS hT => ⟨hT, wI_S hS.2.2 (Or.inl rfl)⟩) (fun h I J hS hV e => gS_c hS hV e (by decide)) (fun _ hS => gS_ru hS) (fun p K as as2 I hs hg hc => ?_)
  obtain ⟨t, t0, rfl, g, q⟩ := qc_pre_1 hg hc
  obtain ⟨x0, s0, t1, rfl, b0, g, q⟩ := qc_ints_1 hs g q
  obtain ⟨x1, s1, t2, rfl, b1, g, q⟩ := qc_ints_1 hs g q
  obtain rfl := qc_ints_0 g q
  exact ⟨x0, x1, rfl⟩
noncomputable def qa_ka269 : qa_Ct := (269, qc_pre 118 [(-2147483648, 2147483647), (-2147483648, 2147483647), (-2147483648, 2147483647)], some (-1, 29), [118, 146, 147, 148, 149, 150, 151, 152, 153, 154, 155, 156], 20)
theorem qz_a269 {L : Nat} {xs : Nat → Int32} (h6 : 6 ≤ L) : qa_hc qp_a gS (some (L, xs)) qa_ka269 := by
  refine hc_lift hcS_rbox h6 (fun _ hS => hS.2.1) (fun _ _ _ => trivial) (fun h I J hS hV e => gS_r hS hV e (by decide)) (fun _ hS => gS_ru hS) (fun p K as as2 I hs hg hc => ?_)
  obtain ⟨t, t0, rfl, g, q⟩ := qc_pre_1 hg hc
  obtain ⟨x0, s0, t1, rfl, b0, g, q⟩ := qc_ints_1 hs g q
  obtain ⟨x1, s1, t2, rfl, b1, g, q⟩ := qc_ints_1 hs g q
  obtain ⟨x2, s2, t3, rfl, b2, g, q⟩ := qc_ints_1 hs g q
  obtain rfl := qc_ints_0 g q
  exact ⟨x0, x1, x2, rfl, b0, b1, b2⟩
noncomputable def qa_ka277 : qa_Ct := (277, qc_pre 118 [(-2147483648, 2147483647), (-2147483648, 2147483647)], some (-1, 3), [146, 147, 148, 149, 150, 151, 152, 153, 154, 155, 156], 60)
theorem qz_a277 {L : Nat} {xs : Nat → Int32} (h6 : 6 ≤ L) : qa_hc qp_a gS (some (L, xs)) qa_ka277 := by
  refine hc_lift hcS_rstore h6 (fun _ hS => hS.2.1) (fun _ _ _ => trivial) (fun h I J hS hV e => gS_r hS hV e (by decide)) (fun _ hS => gS_ru hS) (fun p K as as2 I hs hg hc => ?_)
  obtain ⟨t, t0, rfl, g, q⟩ := qc_pre_1 hg hc
  obtain ⟨x0, s0, t1, rfl, b0, g, q⟩ := qc_ints_1 hs g q
  obtain ⟨x1, s1, t2, rfl, b1, g, q⟩ := qc_ints_1 hs g q
  obtain rfl := qc_ints_0 g q
  exact ⟨x0, x1, rfl⟩
noncomputable def qa_ka280 : qa_Ct := (280, qc_pre 118 [(-2147483648, 2147483647)], some (-2, 29), [146, 147, 148, 149, 150, 151, 152, 153, 154, 155, 156], 60)
theorem qz_a280 {L : Nat} {xs : Nat → Int32} (h6 : 6 ≤ L) : qa_hc qp_a gS (some (L, xs)) qa_ka280 := by
  refine hc_lift hcS_rfetch h6 (fun _ hS => hS.2.1) (fun _ _ _ => trivial) (fun h I J hS hV e => gS_r hS hV e (by decide)) (fun _ hS => gS_ru hS) (fun p K as as2 I hs hg hc => ?_)
  obtain ⟨t, t0, rfl, g, q⟩ := qc_pre_1 hg hc
  obtain ⟨x0, s0, t1, rfl, b0, g, q⟩ := qc_ints_1 hs g q
  obtain rfl := qc_ints_0 g q
  exact ⟨x0, rfl⟩
noncomputable def qa_ka284 : qa_Ct := (284, qc_pre 118 [(-2147483648, 2147483647), (-2147483648, 2147483647), (-2147483648, 2147483647)], some (-3, 3), [146, 147, 148, 149, 150, 151, 152, 153, 154, 155, 156], 60)
theorem qz_a284 {L : Nat} {xs : Nat → Int32} (h6 : 6 ≤ L) : qa_hc qp_a gS (some (L, xs)) qa_ka284 := by
  refine hc_lift hcS_rload h6 (fun _ hS => hS.2.1) (fun _ _ _ => trivial) (fun h I J hS hV e => gS_r hS hV e (by decide)) (fun _ hS => gS_ru hS) (fun p K as as2 I hs hg hc => ?_)
  obtain ⟨t, t0, rfl, g, q⟩ := qc_pre_1 hg hc
  obtain ⟨x0, s0, t1, rfl, b0, g, q⟩ := qc_ints_1 hs g q
  obtain ⟨x1, s1, t2, rfl, b1, g, q⟩ := qc_ints_1 hs g q
  obtain ⟨x2, s2, t3, rfl, b2, g, q⟩ := qc_ints_1 hs g q
  obtain rfl := qc_ints_0 g q
  exact ⟨x0, x1, x2, rfl⟩
noncomputable def qa_ka298 : qa_Ct := (298, qc_pre 118 [(-2147483648, 2147483647), (-2147483648, 2147483647), (-2147483648, 2147483647)], some (-3, 2), [146, 147, 148, 149, 150, 151, 152, 153, 154, 155, 156], 60)
theorem qz_a298 {L : Nat} {xs : Nat → Int32} (h6 : 6 ≤ L) : qa_hc qp_a gS (some (L, xs)) qa_ka298 := by
  refine hc_lift hcS_runload h6 (fun _ hS => hS.2.1) (fun _ _ _ => trivial) (fun h I J hS hV e => gS_r hS hV e (by decide)) (fun _ hS => gS_ru hS) (fun p K as as2 I hs hg hc => ?_)
  obtain ⟨t, t0, rfl, g, q⟩ := qc_pre_1 hg hc
  obtain ⟨x0, s0, t1, rfl, b0, g, q⟩ := qc_ints_1 hs g q
  obtain ⟨x1, s1, t2, rfl, b1, g, q⟩ := qc_ints_1 hs g q
  obtain ⟨x2, s2, t3, rfl, b2, g, q⟩ := qc_ints_1 hs g q
  obtain rfl := qc_ints_0 g q
  exact ⟨x0, x1, x2, rfl⟩
noncomputable def qa_ka302 : qa_Ct := (302, qc_pre 118 [(-2147483648, 2147483647), (-2147483648, 2147483647), (-2147483648, 2147483647), (-2147483648, 2147483647)], some (-2147483648, 2147483647), [146, 147, 148, 149, 150, 151, 152, 153, 154, 155, 156], 60)
theorem qz_a302 {L : Nat} {xs : Nat → Int32} (h6 : 6 ≤ L) : qa_hc qp_a gS (some (L, xs)) qa_ka302 := by
  refine hc_lift hcS_rwould h6 (fun _ hS => hS.2.1) (fun _ _ _ => trivial) (fun h I J hS hV e => gS_r hS hV e (by decide)) (fun _ hS => gS_ru hS) (fun p K as as2 I hs hg hc => ?_)
  obtain ⟨t, t0, rfl, g, q⟩ := qc_pre_1 hg hc
  obtain ⟨x0, s0, t1, rfl, b0, g, q⟩ := qc_ints_1 hs g q
  obtain ⟨x1, s1, t2, rfl, b1, g, q⟩ := qc_ints_1 hs g q
  obtain ⟨x2, s2, t3, rfl, b2, g, q⟩ := qc_ints_1 hs g q
  obtain ⟨x3, s3, t4, rfl, b3, g, q⟩ := qc_ints_1 hs g q
  obtain rfl := qc_ints_0 g q
  exact ⟨x0, x1, x2, x3, rfl⟩
noncomputable def qa_ka303 : qa_Ct := (303, qc_pre 118 [(-2147483648, 2147483647)], some (-2147483648, 2147483647), [118, 144, 145], 90)
theorem qz_a303 {L : Nat} {xs : Nat → Int32} (h6 : 6 ≤ L) : qa_hc qp_a gS (some (L, xs)) qa_ka303 := by
  refine hc_lift hcS_rpairs h6 (fun _ hS => hS.2.1) (fun _ _ _ => trivial) (fun h I J hS hV e => gS_r hS hV e (by decide)) (fun _ hS => gS_ru hS) (fun p K as as2 I hs hg hc => ?_)
  obtain ⟨t, t0, rfl, g, q⟩ := qc_pre_1 hg hc
  obtain ⟨x0, s0, t1, rfl, b0, g, q⟩ := qc_ints_1 hs g q
  obtain rfl := qc_ints_0 g q
  exact ⟨x0, rfl⟩
noncomputable def qa_ka311 : qa_Ct := (311, qc_pre 118 [(-2147483648, 2147483647), (-2147483648, 2147483647)], some (-2147483648, 2147483647), [118, 144, 145], 90)
theorem qz_a311 {L : Nat} {xs : Nat → Int32} (h6 : 6 ≤ L) : qa_hc qp_a gS (some (L, xs)) qa_ka311 := by
  refine hc_lift hcS_rpair h6 (fun _ hS => hS.2.1) (fun _ _ _ => trivial) (fun h I J hS hV e => gS_r hS hV e (by decide)) (fun _ hS => gS_ru hS) (fun p K as as2 I hs hg hc => ?_)
  obtain ⟨t, t0, rfl, g, q⟩ := qc_pre_1 hg hc
  obtain ⟨x0, s0, t1, rfl, b0, g, q⟩ := qc_ints_1 hs g q
  obtain ⟨x1, s1, t2, rfl, b1, g, q⟩ := qc_ints_1 hs g q
  obtain rfl := qc_ints_0 g q
  exact ⟨x0, x1, rfl⟩
noncomputable def qa_ka312 : qa_Ct := (312, qc_pre 118 [(-2147483648, 2147483647)], some (-2147483648, 2147483647), [118, 144, 145], 90)
theorem qz_a312 {L : Nat} {xs : Nat → Int32} (h6 : 6 ≤ L) : qa_hc qp_a gS (some (L, xs)) qa_ka312 := by
  refine hc_lift hcS_rplaces h6 (fun _ hS => hS.2.1) (fun _ _ _ => trivial) (fun h I J hS hV e => gS_r hS hV e (by decide)) (fun _ hS => gS_ru hS) (fun p K as as2 I hs hg hc => ?_)
  obtain ⟨t, t0, rfl, g, q⟩ := qc_pre_1 hg hc
  obtain ⟨x0, s0, t1, rfl, b0, g, q⟩ := qc_ints_1 hs g q
  obtain rfl := qc_ints_0 g q
  exact ⟨x0, rfl⟩
noncomputable def qa_ka315 : qa_Ct := (315, qc_pre 118 [(-2147483648, 2147483647), (-2147483648, 2147483647), (-2147483648, 2147483647)], some (-2147483648, 2147483647), [118, 144, 145, 150, 151], 90)
theorem qz_a315 {L : Nat} {xs : Nat → Int32} (h6 : 6 ≤ L) : qa_hc qp_a gS (some (L, xs)) qa_ka315 := by
  refine hc_lift hcS_rbreaks h6 (fun _ hS => hS.2.1) (fun _ _ _ => trivial) (fun h I J hS hV e => gS_r hS hV e (by decide)) (fun _ hS => gS_ru hS) (fun p K as as2 I hs hg hc => ?_)
  obtain ⟨t, t0, rfl, g, q⟩ := qc_pre_1 hg hc
  obtain ⟨x0, s0, t1, rfl, b0, g, q⟩ := qc_ints_1 hs g q
  obtain ⟨x1, s1, t2, rfl, b1, g, q⟩ := qc_ints_1 hs g q
  obtain ⟨x2, s2, t3, rfl, b2, g, q⟩ := qc_ints_1 hs g q
  obtain rfl := qc_ints_0 g q
  exact ⟨x0, x1, x2, rfl⟩
noncomputable def qa_ka328 : qa_Ct := (328, qc_pre 118 [(-2147483648, 2147483647)], some (-2147483648, 2147483647), [118, 158], 30)
theorem qz_a328 {L : Nat} {xs : Nat → Int32} (h6 : 6 ≤ L) : qa_hc qp_a gS (some (L, xs)) qa_ka328 := by
  refine hc_lift hc_rlorry h6 (fun _ hS => hS.2.1) (fun _ _ _ => trivial) (fun h I J hS hV e => gS_r hS hV e (by decide)) (fun _ hS => gS_ru hS) (fun p K as as2 I hs hg hc => ?_)
  obtain ⟨t, t0, rfl, g, q⟩ := qc_pre_1 hg hc
  obtain ⟨x0, s0, t1, rfl, b0, g, q⟩ := qc_ints_1 hs g q
  obtain rfl := qc_ints_0 g q
  exact ⟨x0, rfl⟩
noncomputable def qa_ka329 : qa_Ct := (329, qc_pre 118 [], some (-2147483648, 2147483647), [118], 30)
theorem qz_a329 {L : Nat} {xs : Nat → Int32} (h6 : 6 ≤ L) : qa_hc qp_a gS (some (L, xs)) qa_ka329 := by
  refine hc_lift hc_rclear h6 (fun _ hS => hS.2.1) (fun _ _ _ => trivial) (fun h I J hS hV e => gS_r hS hV e (by decide)) (fun _ hS => gS_ru hS) (fun p K as as2 I hs hg hc => ?_)
  obtain ⟨t, t0, rfl, g, q⟩ := qc_pre_1 hg hc
  obtain rfl := qc_ints_0 g q
  exact rfl
noncomputable def qa_ka331 : qa_Ct := (331, qc_pre 118 [(-2147483648, 2147483647)], some (-2147483648, 2147483647), [118, 159, 160, 161, 162], 100)
theorem qz_a331 {L : Nat} {xs : Nat → Int32} (h6 : 6 ≤ L) : qa_hc qp_a gS (some (L, xs)) qa_ka331 := by
  refine hc_lift hc_rbyrule h6 (fun _ hS => hS.2.1) (fun _ _ _ => trivial) (fun h I J hS hV e => gS_r hS hV e (by decide)) (fun _ hS => gS_ru hS) (fun p K as as2 I hs hg hc => ?_)
  obtain ⟨t, t0, rfl, g, q⟩ := qc_pre_1 hg hc
  obtain ⟨x0, s0, t1, rfl, b0, g, q⟩ := qc_ints_1 hs g q
  obtain rfl := qc_ints_0 g q
  exact ⟨x0, rfl⟩
noncomputable def qa_ka340 : qa_Ct := (340, qc_pre 118 [], some (-3, 5), [118, 159, 160, 161, 162, 163], 110)
theorem qz_a340 {L : Nat} {xs : Nat → Int32} (h6 : 6 ≤ L) : qa_hc qp_a gS (some (L, xs)) qa_ka340 := by
  refine hc_lift hc_rleast h6 (fun _ hS => hS.2.1) (fun _ _ _ => trivial) (fun h I J hS hV e => gS_r hS hV e (by decide)) (fun _ hS => gS_ru hS) (fun p K as as2 I hs hg hc => ?_)
  obtain ⟨t, t0, rfl, g, q⟩ := qc_pre_1 hg hc
  obtain rfl := qc_ints_0 g q
  exact rfl
noncomputable def qa_ka377 : qa_Ct := (377, qc_pre 118 [(-2147483648, 2147483647)], some (-2147483648, 2147483647), [118, 144, 145, 146, 147, 148, 149, 150, 151, 152, 153, 154, 155, 156], 100)
theorem qz_a377 {L : Nat} {xs : Nat → Int32} (h6 : 6 ≤ L) : qa_hc qp_a gS (some (L, xs)) qa_ka377 := by
  refine hc_lift hcS_rbest h6 (fun _ hS => hS.2.1) (fun _ _ _ => trivial) (fun h I J hS hV e => gS_r hS hV e (by decide)) (fun _ hS => gS_ru hS) (fun p K as as2 I hs hg hc => ?_)
  obtain ⟨t, t0, rfl, g, q⟩ := qc_pre_1 hg hc
  obtain ⟨x0, s0, t1, rfl, b0, g, q⟩ := qc_ints_1 hs g q
  obtain rfl := qc_ints_0 g q
  exact ⟨x0, rfl⟩
noncomputable def qa_ka379 : qa_Ct := (379, qc_pre 118 [(-2147483648, 2147483647), (-2147483648, 2147483647)], some (-2147483648, 2147483647), [118, 144, 145, 146, 147, 148, 149, 150, 151, 152, 153, 154, 155, 156], 100)
theorem qz_a379 {L : Nat} {xs : Nat → Int32} (h6 : 6 ≤ L) : qa_hc qp_a gS (some (L, xs)) qa_ka379 := by
  refine hc_lift hcS_rtwo h6 (fun _ hS => hS.2.1) (fun _ _ _ => trivial) (fun h I J hS hV e => gS_r hS hV e (by decide)) (fun _ hS => gS_ru hS) (fun p K as as2 I hs hg hc => ?_)
  obtain ⟨t, t0, rfl, g, q⟩ := qc_pre_1 hg hc
  obtain ⟨x0, s0, t1, rfl, b0, g, q⟩ := qc_ints_1 hs g q
  obtain ⟨x1, s1, t2, rfl, b1, g, q⟩ := qc_ints_1 hs g q
  obtain rfl := qc_ints_0 g q
  exact ⟨x0, x1, rfl⟩
noncomputable def qa_Ca : List qa_Ct := [qa_ka66, qa_ka76, qa_ka80, qa_ka86, qa_ka102, qc_ct 29, qa_ka160, qa_ka169, qa_ka175, qa_ke207, qa_ka232, qa_ka236, qa_ka269, qa_ka277, qa_ka280, qa_ka284, qa_ka298, qa_ka302, qa_ka303, qa_ka311, qa_ka312, qa_ka315, qa_ka328, qa_ka329, qa_ka331, qa_ka340, qa_ka377, qa_ka379]
theorem qz_a {L : Nat} {xs : Nat → Int32} (h6 : 6 ≤ L) : ∀ q ∈ qa_Ca, qa_hc qp_a gS (some (L, xs)) q := List.forall_mem_cons.mpr ⟨qz_a66 h6, List.forall_mem_cons.mpr ⟨qz_a76 h6, List.forall_mem_cons.mpr ⟨qz_a80 h6, List.forall_mem_cons.mpr ⟨qz_a86 h6, List.forall_mem_cons.mpr ⟨qz_a102 h6, List.forall_mem_cons.mpr ⟨gS_held h6 (Or.inl rfl), List.forall_mem_cons.mpr ⟨qz_a160 h6, List.forall_mem_cons.mpr ⟨qz_a169 h6, List.forall_mem_cons.mpr ⟨qz_a175 h6, List.forall_mem_cons.mpr ⟨qz_e207 h6, List.forall_mem_cons.mpr ⟨qz_a232 h6, List.forall_mem_cons.mpr ⟨qz_a236 h6, List.forall_mem_cons.mpr ⟨qz_a269 h6, List.forall_mem_cons.mpr ⟨qz_a277 h6, List.forall_mem_cons.mpr ⟨qz_a280 h6, List.forall_mem_cons.mpr ⟨qz_a284 h6, List.forall_mem_cons.mpr ⟨qz_a298 h6, List.forall_mem_cons.mpr ⟨qz_a302 h6, List.forall_mem_cons.mpr ⟨qz_a303 h6, List.forall_mem_cons.mpr ⟨qz_a311 h6, List.forall_mem_cons.mpr ⟨qz_a312 h6, List.forall_mem_cons.mpr ⟨qz_a315 h6, List.forall_mem_cons.mpr ⟨qz_a328 h6, List.forall_mem_cons.mpr ⟨qz_a329 h6, List.forall_mem_cons.mpr ⟨qz_a331 h6, List.forall_mem_cons.mpr ⟨qz_a340 h6, List.forall_mem_cons.mpr ⟨qz_a377 h6, List.forall_mem_cons.mpr ⟨qz_a379 h6, fun _ h => absurd h List.not_mem_nil⟩⟩⟩⟩⟩⟩⟩⟩⟩⟩⟩⟩⟩⟩⟩⟩⟩⟩⟩⟩⟩⟩⟩⟩⟩⟩⟩⟩
noncomputable def qp_b : qa_P := qa_PC 111 29 qa_foot
noncomputable def qa_kb66 : qa_Ct := (66, qc_pre 6 [(0, 40), (0, 4), (0, 5)], some (-1, 29), [6, 7, 8, 9, 10, 11, 12, 13, 14, 16, 17, 28, 36, 37], 20)
theorem qz_b66 {L : Nat} {xs : Nat → Int32} (h6 : 6 ≤ L) : qa_hc qp_b gS (some (L, xs)) qa_kb66 := by
  refine hc_lift hc_make h6 (fun _ hS => hS.1) (fun _ _ _ => trivial) (fun h I J hS hV e => gS_c hS hV e (by decide)) (fun _ hS => gS_ru hS) (fun p K as as2 I hs hg hc => ?_)
  obtain ⟨t, t0, rfl, g, q⟩ := qc_pre_1 hg hc
  obtain ⟨x0, s0, t1, rfl, b0, g, q⟩ := qc_ints_1 hs g q
  obtain ⟨x1, s1, t2, rfl, b1, g, q⟩ := qc_ints_1 hs g q
  obtain ⟨x2, s2, t3, rfl, b2, g, q⟩ := qc_ints_1 hs g q
  obtain rfl := qc_ints_0 g q
  exact ⟨x0, x1, x2, rfl, b0, b1, b2⟩
noncomputable def qa_kb76 : qa_Ct := (76, qc_pre 0 [(-2147483648, 2147483647), (-2147483648, 2147483647)], some (-1, 3), [6, 7, 8, 9, 10, 11, 12, 13, 14, 16, 17, 28, 36, 37], 20)
theorem qz_b76 {L : Nat} {xs : Nat → Int32} (h6 : 6 ≤ L) : qa_hc qp_b gS (some (L, xs)) qa_kb76 := by
  refine hc_lift hc_store h6 (fun _ hS => hS.1) (fun _ _ _ => trivial) (fun h I J hS hV e => gS_c hS hV e (by decide)) (fun _ hS => gS_ru hS) (fun p K as as2 I hs hg hc => ?_)
  obtain ⟨t, t0, rfl, g, q⟩ := qc_pre_1 hg hc
  obtain ⟨x0, s0, t1, rfl, b0, g, q⟩ := qc_ints_1 hs g q
  obtain ⟨x1, s1, t2, rfl, b1, g, q⟩ := qc_ints_1 hs g q
  obtain rfl := qc_ints_0 g q
  exact ⟨x0, x1, rfl, b0, b1⟩
noncomputable def qa_kb80 : qa_Ct := (80, qc_pre 0 [(-2147483648, 2147483647)], some (-2, 29), [6, 7, 8, 9, 10, 11, 12, 13, 14, 16, 17, 28, 36, 37], 30)
theorem qz_b80 {L : Nat} {xs : Nat → Int32} (h6 : 6 ≤ L) : qa_hc qp_b gS (some (L, xs)) qa_kb80 := by
  refine hc_lift hc_fetch h6 (fun _ hS => hS.1) (fun _ _ _ => trivial) (fun h I J hS hV e => gS_c hS hV e (by decide)) (fun _ hS => gS_ru hS) (fun p K as as2 I hs hg hc => ?_)
  obtain ⟨t, t0, rfl, g, q⟩ := qc_pre_1 hg hc
  obtain ⟨x0, s0, t1, rfl, b0, g, q⟩ := qc_ints_1 hs g q
  obtain rfl := qc_ints_0 g q
  exact ⟨x0, rfl, b0⟩
noncomputable def qa_kb86 : qa_Ct := (86, qc_pre 28 [(-2147483648, 2147483647), (-2147483648, 2147483647), (-2147483648, 2147483647)], some (-3, 3), [6, 7, 8, 9, 10, 11, 12, 13, 14, 16, 17, 28, 36, 37], 40)
theorem qz_b86 {L : Nat} {xs : Nat → Int32} (h6 : 6 ≤ L) : qa_hc qp_b gS (some (L, xs)) qa_kb86 := by
  refine hc_lift hc_loading111 h6 (fun _ hS => hS.1) (fun _ _ hT => hT) (fun h I J hS hV e => gS_c hS hV e (by decide)) (fun _ hS => gS_ru hS) (fun p K as as2 I hs hg hc => ?_)
  obtain ⟨t, t0, rfl, g, q⟩ := qc_pre_1 hg hc
  obtain ⟨x0, s0, t1, rfl, b0, g, q⟩ := qc_ints_1 hs g q
  obtain ⟨x1, s1, t2, rfl, b1, g, q⟩ := qc_ints_1 hs g q
  obtain ⟨x2, s2, t3, rfl, b2, g, q⟩ := qc_ints_1 hs g q
  obtain rfl := qc_ints_0 g q
  exact ⟨x0, x1, x2, rfl, b0, b1, b2⟩
noncomputable def qa_kb102 : qa_Ct := (102, qc_pre 28 [(-2147483648, 2147483647), (-2147483648, 2147483647), (-2147483648, 2147483647)], some (-3, 2), [6, 7, 8, 9, 10, 11, 12, 13, 14, 16, 17, 28, 36, 37], 40)
theorem qz_b102 {L : Nat} {xs : Nat → Int32} (h6 : 6 ≤ L) : qa_hc qp_b gS (some (L, xs)) qa_kb102 := by
  refine hc_lift hc_unloading111 h6 (fun _ hS => hS.1) (fun _ _ hT => hT) (fun h I J hS hV e => gS_c hS hV e (by decide)) (fun _ hS => gS_ru hS) (fun p K as as2 I hs hg hc => ?_)
  obtain ⟨t, t0, rfl, g, q⟩ := qc_pre_1 hg hc
  obtain ⟨x0, s0, t1, rfl, b0, g, q⟩ := qc_ints_1 hs g q
  obtain ⟨x1, s1, t2, rfl, b1, g, q⟩ := qc_ints_1 hs g q
  obtain ⟨x2, s2, t3, rfl, b2, g, q⟩ := qc_ints_1 hs g q
  obtain rfl := qc_ints_0 g q
  exact ⟨x0, x1, x2, rfl⟩
noncomputable def qa_kb160 : qa_Ct := (160, qc_pre 15 [], some (-2, 36), [15, 19, 20, 22, 23, 24, 25, 26, 27], 100)
theorem qz_b160 {L : Nat} {xs : Nat → Int32} (h6 : 6 ≤ L) : qa_hc qp_b gS (some (L, xs)) qa_kb160 := by
  refine hc_lift hc_yrule h6 (fun _ hS => hS.1) (fun _ _ _ => trivial) (fun h I J hS hV e => gS_c hS hV e (by decide)) (fun _ hS => gS_ru hS) (fun p K as as2 I hs hg hc => ?_)
  obtain ⟨t, t0, rfl, g, q⟩ := qc_pre_1 hg hc
  obtain rfl := qc_ints_0 g q
  exact rfl
noncomputable def qa_kb169 : qa_Ct := (169, qc_pre 15 [], some (-3, 5), [15, 19, 20, 22, 23, 24, 25, 26, 27], 220)
theorem qz_b169 {L : Nat} {xs : Nat → Int32} (h6 : 6 ≤ L) : qa_hc qp_b gS (some (L, xs)) qa_kb169 := by
  refine hc_lift hc_yleast h6 (fun _ hS => hS.1) (fun _ _ _ => trivial) (fun h I J hS hV e => gS_c hS hV e (by decide)) (fun _ hS => gS_ru hS) (fun p K as as2 I hs hg hc => ?_)
  obtain ⟨t, t0, rfl, g, q⟩ := qc_pre_1 hg hc
  obtain rfl := qc_ints_0 g q
  exact rfl
noncomputable def qa_kb175 : qa_Ct := (175, qc_pre 15 [], some (0, 16), [15, 19, 20, 22, 23, 24, 25, 26, 27], 40)
theorem qz_b175 {L : Nat} {xs : Nat → Int32} (h6 : 6 ≤ L) : qa_hc qp_b gS (some (L, xs)) qa_kb175 := by
  refine hc_lift hc_blockers h6 (fun _ hS => hS.1) (fun _ _ _ => trivial) (fun h I J hS hV e => gS_c hS hV e (by decide)) (fun _ hS => gS_ru hS) (fun p K as as2 I hs hg hc => ?_)
  obtain ⟨t, t0, rfl, g, q⟩ := qc_pre_1 hg hc
  obtain rfl := qc_ints_0 g q
  exact rfl
noncomputable def qa_kb232 : qa_Ct := (232, qc_pre 0 [(-2147483648, 2147483647)], some (-2147483648, 2147483647), [11, 12, 13, 14, 28, 36, 37, 116, 192, 193, 194, 195, 196, 197, 198, 199, 200, 201, 202, 203, 204, 205, 206, 207, 208, 209, 210, 211, 212, 213, 214, 215, 216, 217, 218, 219, 220, 221, 222, 223, 224, 225, 226, 227, 228, 229, 230, 231, 232, 233], 120)
theorem qz_b232 {L : Nat} {xs : Nat → Int32} (h6 : 6 ≤ L) : qa_hc qp_b gS (some (L, xs)) qa_kb232 := by
  refine hc_lift hc_cbest111 h6 (fun _ hS => hS.1) (fun _ hS hT => ⟨hT, wI_S hS.2.2 (Or.inr rfl)⟩) (fun h I J hS hV e => gS_c hS hV e (by decide)) (fun _ hS => gS_ru hS) (fun p K as as2 I hs hg hc => ?_)
  obtain ⟨t, t0, rfl, g, q⟩ := qc_pre_1 hg hc
  obtain ⟨x0, s0, t1, rfl, b0, g, q⟩ := qc_ints_1 hs g q
  obtain rfl := qc_ints_0 g q
  exact ⟨x0, rfl⟩
noncomputable def qa_kb236 : qa_Ct := (236, qc_pre 0 [(-2147483648, 2147483647), (-2147483648, 2147483647)], some (-2147483648, 2147483647), [11, 12, 13, 14, 28, 36, 37, 39, 116, 192, 193, 194, 195, 196, 197, 198, 199, 200, 201, 202, 203, 204, 205, 206, 207, 208, 209, 210, 211, 212, 213, 214, 215, 216, 217, 218, 219, 220, 221, 222, 223, 224, 225, 226, 227, 228, 229, 230, 231, 232, 233], 120)
theorem qz_b236 {L : Nat} {xs : Nat → Int32} (h6 : 6 ≤ L) : qa_hc qp_b gS (some (L, xs)) qa_kb236 := by
  refine hc_lift hc_ctwo111 h6 (fun _ hS => hS.1) (fun _ hS hT => ⟨hT, wI_S hS.2.2 (Or.inr rfl)⟩) (fun h I J hS hV e => gS_c hS hV e (by decide)) (fun _ hS => gS_ru hS) (fun p K as as2 I hs hg hc => ?_)
  obtain ⟨t, t0, rfl, g, q⟩ := qc_pre_1 hg hc
  obtain ⟨x0, s0, t1, rfl, b0, g, q⟩ := qc_ints_1 hs g q
  obtain ⟨x1, s1, t2, rfl, b1, g, q⟩ := qc_ints_1 hs g q
  obtain rfl := qc_ints_0 g q
  exact ⟨x0, x1, rfl⟩
noncomputable def qa_kb269 : qa_Ct := (269, qc_pre 118 [(-2147483648, 2147483647), (-2147483648, 2147483647), (-2147483648, 2147483647)], some (-1, 29), [118, 146, 147, 148, 149, 150, 151, 152, 153, 154, 155, 156], 20)
theorem qz_b269 {L : Nat} {xs : Nat → Int32} (h6 : 6 ≤ L) : qa_hc qp_b gS (some (L, xs)) qa_kb269 := by
  refine hc_lift hcS_rbox h6 (fun _ hS => hS.2.1) (fun _ _ _ => trivial) (fun h I J hS hV e => gS_r hS hV e (by decide)) (fun _ hS => gS_ru hS) (fun p K as as2 I hs hg hc => ?_)
  obtain ⟨t, t0, rfl, g, q⟩ := qc_pre_1 hg hc
  obtain ⟨x0, s0, t1, rfl, b0, g, q⟩ := qc_ints_1 hs g q
  obtain ⟨x1, s1, t2, rfl, b1, g, q⟩ := qc_ints_1 hs g q
  obtain ⟨x2, s2, t3, rfl, b2, g, q⟩ := qc_ints_1 hs g q
  obtain rfl := qc_ints_0 g q
  exact ⟨x0, x1, x2, rfl, b0, b1, b2⟩
noncomputable def qa_kb277 : qa_Ct := (277, qc_pre 118 [(-2147483648, 2147483647), (-2147483648, 2147483647)], some (-1, 3), [146, 147, 148, 149, 150, 151, 152, 153, 154, 155, 156], 60)
theorem qz_b277 {L : Nat} {xs : Nat → Int32} (h6 : 6 ≤ L) : qa_hc qp_b gS (some (L, xs)) qa_kb277 := by
  refine hc_lift hcS_rstore h6 (fun _ hS => hS.2.1) (fun _ _ _ => trivial) (fun h I J hS hV e => gS_r hS hV e (by decide)) (fun _ hS => gS_ru hS) (fun p K as as2 I hs hg hc => ?_)
  obtain ⟨t, t0, rfl, g, q⟩ := qc_pre_1 hg hc
  obtain ⟨x0, s0, t1, rfl, b0, g, q⟩ := qc_ints_1 hs g q
  obtain ⟨x1, s1, t2, rfl, b1, g, q⟩ := qc_ints_1 hs g q
  obtain rfl := qc_ints_0 g q
  exact ⟨x0, x1, rfl⟩
noncomputable def qa_kb280 : qa_Ct := (280, qc_pre 118 [(-2147483648, 2147483647)], some (-2, 29), [146, 147, 148, 149, 150, 151, 152, 153, 154, 155, 156], 60)
theorem qz_b280 {L : Nat} {xs : Nat → Int32} (h6 : 6 ≤ L) : qa_hc qp_b gS (some (L, xs)) qa_kb280 := by
  refine hc_lift hcS_rfetch h6 (fun _ hS => hS.2.1) (fun _ _ _ => trivial) (fun h I J hS hV e => gS_r hS hV e (by decide)) (fun _ hS => gS_ru hS) (fun p K as as2 I hs hg hc => ?_)
  obtain ⟨t, t0, rfl, g, q⟩ := qc_pre_1 hg hc
  obtain ⟨x0, s0, t1, rfl, b0, g, q⟩ := qc_ints_1 hs g q
  obtain rfl := qc_ints_0 g q
  exact ⟨x0, rfl⟩
noncomputable def qa_kb284 : qa_Ct := (284, qc_pre 118 [(-2147483648, 2147483647), (-2147483648, 2147483647), (-2147483648, 2147483647)], some (-3, 3), [146, 147, 148, 149, 150, 151, 152, 153, 154, 155, 156], 60)
theorem qz_b284 {L : Nat} {xs : Nat → Int32} (h6 : 6 ≤ L) : qa_hc qp_b gS (some (L, xs)) qa_kb284 := by
  refine hc_lift hcS_rload h6 (fun _ hS => hS.2.1) (fun _ _ _ => trivial) (fun h I J hS hV e => gS_r hS hV e (by decide)) (fun _ hS => gS_ru hS) (fun p K as as2 I hs hg hc => ?_)
  obtain ⟨t, t0, rfl, g, q⟩ := qc_pre_1 hg hc
  obtain ⟨x0, s0, t1, rfl, b0, g, q⟩ := qc_ints_1 hs g q
  obtain ⟨x1, s1, t2, rfl, b1, g, q⟩ := qc_ints_1 hs g q
  obtain ⟨x2, s2, t3, rfl, b2, g, q⟩ := qc_ints_1 hs g q
  obtain rfl := qc_ints_0 g q
  exact ⟨x0, x1, x2, rfl⟩
noncomputable def qa_kb298 : qa_Ct := (298, qc_pre 118 [(-2147483648, 2147483647), (-2147483648, 2147483647), (-2147483648, 2147483647)], some (-3, 2), [146, 147, 148, 149, 150, 151, 152, 153, 154, 155, 156], 60)
theorem qz_b298 {L : Nat} {xs : Nat → Int32} (h6 : 6 ≤ L) : qa_hc qp_b gS (some (L, xs)) qa_kb298 := by
  refine hc_lift hcS_runload h6 (fun _ hS => hS.2.1) (fun _ _ _ => trivial) (fun h I J hS hV e => gS_r hS hV e (by decide)) (fun _ hS => gS_ru hS) (fun p K as as2 I hs hg hc => ?_)
  obtain ⟨t, t0, rfl, g, q⟩ := qc_pre_1 hg hc
  obtain ⟨x0, s0, t1, rfl, b0, g, q⟩ := qc_ints_1 hs g q
  obtain ⟨x1, s1, t2, rfl, b1, g, q⟩ := qc_ints_1 hs g q
  obtain ⟨x2, s2, t3, rfl, b2, g, q⟩ := qc_ints_1 hs g q
  obtain rfl := qc_ints_0 g q
  exact ⟨x0, x1, x2, rfl⟩
noncomputable def qa_kb302 : qa_Ct := (302, qc_pre 118 [(-2147483648, 2147483647), (-2147483648, 2147483647), (-2147483648, 2147483647), (-2147483648, 2147483647)], some (-2147483648, 2147483647), [146, 147, 148, 149, 150, 151, 152, 153, 154, 155, 156], 60)
theorem qz_b302 {L : Nat} {xs : Nat → Int32} (h6 : 6 ≤ L) : qa_hc qp_b gS (some (L, xs)) qa_kb302 := by
  refine hc_lift hcS_rwould h6 (fun _ hS => hS.2.1) (fun _ _ _ => trivial) (fun h I J hS hV e => gS_r hS hV e (by decide)) (fun _ hS => gS_ru hS) (fun p K as as2 I hs hg hc => ?_)
  obtain ⟨t, t0, rfl, g, q⟩ := qc_pre_1 hg hc
  obtain ⟨x0, s0, t1, rfl, b0, g, q⟩ := qc_ints_1 hs g q
  obtain ⟨x1, s1, t2, rfl, b1, g, q⟩ := qc_ints_1 hs g q
  obtain ⟨x2, s2, t3, rfl, b2, g, q⟩ := qc_ints_1 hs g q
  obtain ⟨x3, s3, t4, rfl, b3, g, q⟩ := qc_ints_1 hs g q
  obtain rfl := qc_ints_0 g q
  exact ⟨x0, x1, x2, x3, rfl⟩
noncomputable def qa_kb303 : qa_Ct := (303, qc_pre 118 [(-2147483648, 2147483647)], some (-2147483648, 2147483647), [118, 144, 145], 90)
theorem qz_b303 {L : Nat} {xs : Nat → Int32} (h6 : 6 ≤ L) : qa_hc qp_b gS (some (L, xs)) qa_kb303 := by
  refine hc_lift hcS_rpairs h6 (fun _ hS => hS.2.1) (fun _ _ _ => trivial) (fun h I J hS hV e => gS_r hS hV e (by decide)) (fun _ hS => gS_ru hS) (fun p K as as2 I hs hg hc => ?_)
  obtain ⟨t, t0, rfl, g, q⟩ := qc_pre_1 hg hc
  obtain ⟨x0, s0, t1, rfl, b0, g, q⟩ := qc_ints_1 hs g q
  obtain rfl := qc_ints_0 g q
  exact ⟨x0, rfl⟩
noncomputable def qa_kb311 : qa_Ct := (311, qc_pre 118 [(-2147483648, 2147483647), (-2147483648, 2147483647)], some (-2147483648, 2147483647), [118, 144, 145], 90)
theorem qz_b311 {L : Nat} {xs : Nat → Int32} (h6 : 6 ≤ L) : qa_hc qp_b gS (some (L, xs)) qa_kb311 := by
  refine hc_lift hcS_rpair h6 (fun _ hS => hS.2.1) (fun _ _ _ => trivial) (fun h I J hS hV e => gS_r hS hV e (by decide)) (fun _ hS => gS_ru hS) (fun p K as as2 I hs hg hc => ?_)
  obtain ⟨t, t0, rfl, g, q⟩ := qc_pre_1 hg hc
  obtain ⟨x0, s0, t1, rfl, b0, g, q⟩ := qc_ints_1 hs g q
  obtain ⟨x1, s1, t2, rfl, b1, g, q⟩ := qc_ints_1 hs g q
  obtain rfl := qc_ints_0 g q
  exact ⟨x0, x1, rfl⟩
noncomputable def qa_kb312 : qa_Ct := (312, qc_pre 118 [(-2147483648, 2147483647)], some (-2147483648, 2147483647), [118, 144, 145], 90)
theorem qz_b312 {L : Nat} {xs : Nat → Int32} (h6 : 6 ≤ L) : qa_hc qp_b gS (some (L, xs)) qa_kb312 := by
  refine hc_lift hcS_rplaces h6 (fun _ hS => hS.2.1) (fun _ _ _ => trivial) (fun h I J hS hV e => gS_r hS hV e (by decide)) (fun _ hS => gS_ru hS) (fun p K as as2 I hs hg hc => ?_)
  obtain ⟨t, t0, rfl, g, q⟩ := qc_pre_1 hg hc
  obtain ⟨x0, s0, t1, rfl, b0, g, q⟩ := qc_ints_1 hs g q
  obtain rfl := qc_ints_0 g q
  exact ⟨x0, rfl⟩
noncomputable def qa_kb315 : qa_Ct := (315, qc_pre 118 [(-2147483648, 2147483647), (-2147483648, 2147483647), (-2147483648, 2147483647)], some (-2147483648, 2147483647), [118, 144, 145, 150, 151], 90)
theorem qz_b315 {L : Nat} {xs : Nat → Int32} (h6 : 6 ≤ L) : qa_hc qp_b gS (some (L, xs)) qa_kb315 := by
  refine hc_lift hcS_rbreaks h6 (fun _ hS => hS.2.1) (fun _ _ _ => trivial) (fun h I J hS hV e => gS_r hS hV e (by decide)) (fun _ hS => gS_ru hS) (fun p K as as2 I hs hg hc => ?_)
  obtain ⟨t, t0, rfl, g, q⟩ := qc_pre_1 hg hc
  obtain ⟨x0, s0, t1, rfl, b0, g, q⟩ := qc_ints_1 hs g q
  obtain ⟨x1, s1, t2, rfl, b1, g, q⟩ := qc_ints_1 hs g q
  obtain ⟨x2, s2, t3, rfl, b2, g, q⟩ := qc_ints_1 hs g q
  obtain rfl := qc_ints_0 g q
  exact ⟨x0, x1, x2, rfl⟩
noncomputable def qa_kb328 : qa_Ct := (328, qc_pre 118 [(-2147483648, 2147483647)], some (-2147483648, 2147483647), [118, 158], 30)
theorem qz_b328 {L : Nat} {xs : Nat → Int32} (h6 : 6 ≤ L) : qa_hc qp_b gS (some (L, xs)) qa_kb328 := by
  refine hc_lift hc_rlorry h6 (fun _ hS => hS.2.1) (fun _ _ _ => trivial) (fun h I J hS hV e => gS_r hS hV e (by decide)) (fun _ hS => gS_ru hS) (fun p K as as2 I hs hg hc => ?_)
  obtain ⟨t, t0, rfl, g, q⟩ := qc_pre_1 hg hc
  obtain ⟨x0, s0, t1, rfl, b0, g, q⟩ := qc_ints_1 hs g q
  obtain rfl := qc_ints_0 g q
  exact ⟨x0, rfl⟩
noncomputable def qa_kb329 : qa_Ct := (329, qc_pre 118 [], some (-2147483648, 2147483647), [118], 30)
theorem qz_b329 {L : Nat} {xs : Nat → Int32} (h6 : 6 ≤ L) : qa_hc qp_b gS (some (L, xs)) qa_kb329 := by
  refine hc_lift hc_rclear h6 (fun _ hS => hS.2.1) (fun _ _ _ => trivial) (fun h I J hS hV e => gS_r hS hV e (by decide)) (fun _ hS => gS_ru hS) (fun p K as as2 I hs hg hc => ?_)
  obtain ⟨t, t0, rfl, g, q⟩ := qc_pre_1 hg hc
  obtain rfl := qc_ints_0 g q
  exact rfl
noncomputable def qa_kb331 : qa_Ct := (331, qc_pre 118 [(-2147483648, 2147483647)], some (-2147483648, 2147483647), [118, 159, 160, 161, 162], 100)
theorem qz_b331 {L : Nat} {xs : Nat → Int32} (h6 : 6 ≤ L) : qa_hc qp_b gS (some (L, xs)) qa_kb331 := by
  refine hc_lift hc_rbyrule h6 (fun _ hS => hS.2.1) (fun _ _ _ => trivial) (fun h I J hS hV e => gS_r hS hV e (by decide)) (fun _ hS => gS_ru hS) (fun p K as as2 I hs hg hc => ?_)
  obtain ⟨t, t0, rfl, g, q⟩ := qc_pre_1 hg hc
  obtain ⟨x0, s0, t1, rfl, b0, g, q⟩ := qc_ints_1 hs g q
  obtain rfl := qc_ints_0 g q
  exact ⟨x0, rfl⟩
noncomputable def qa_kb340 : qa_Ct := (340, qc_pre 118 [], some (-3, 5), [118, 159, 160, 161, 162, 163], 110)
theorem qz_b340 {L : Nat} {xs : Nat → Int32} (h6 : 6 ≤ L) : qa_hc qp_b gS (some (L, xs)) qa_kb340 := by
  refine hc_lift hc_rleast h6 (fun _ hS => hS.2.1) (fun _ _ _ => trivial) (fun h I J hS hV e => gS_r hS hV e (by decide)) (fun _ hS => gS_ru hS) (fun p K as as2 I hs hg hc => ?_)
  obtain ⟨t, t0, rfl, g, q⟩ := qc_pre_1 hg hc
  obtain rfl := qc_ints_0 g q
  exact rfl
noncomputable def qa_kb377 : qa_Ct := (377, qc_pre 118 [(-2147483648, 2147483647)], some (-2147483648, 2147483647), [118, 144, 145, 146, 147, 148, 149, 150, 151, 152, 153, 154, 155, 156], 100)
theorem qz_b377 {L : Nat} {xs : Nat → Int32} (h6 : 6 ≤ L) : qa_hc qp_b gS (some (L, xs)) qa_kb377 := by
  refine hc_lift hcS_rbest h6 (fun _ hS => hS.2.1) (fun _ _ _ => trivial) (fun h I J hS hV e => gS_r hS hV e (by decide)) (fun _ hS => gS_ru hS) (fun p K as as2 I hs hg hc => ?_)
  obtain ⟨t, t0, rfl, g, q⟩ := qc_pre_1 hg hc
  obtain ⟨x0, s0, t1, rfl, b0, g, q⟩ := qc_ints_1 hs g q
  obtain rfl := qc_ints_0 g q
  exact ⟨x0, rfl⟩
noncomputable def qa_kb379 : qa_Ct := (379, qc_pre 118 [(-2147483648, 2147483647), (-2147483648, 2147483647)], some (-2147483648, 2147483647), [118, 144, 145, 146, 147, 148, 149, 150, 151, 152, 153, 154, 155, 156], 100)
theorem qz_b379 {L : Nat} {xs : Nat → Int32} (h6 : 6 ≤ L) : qa_hc qp_b gS (some (L, xs)) qa_kb379 := by
  refine hc_lift hcS_rtwo h6 (fun _ hS => hS.2.1) (fun _ _ _ => trivial) (fun h I J hS hV e => gS_r hS hV e (by decide)) (fun _ hS => gS_ru hS) (fun p K as as2 I hs hg hc => ?_)
  obtain ⟨t, t0, rfl, g, q⟩ := qc_pre_1 hg hc
  obtain ⟨x0, s0, t1, rfl, b0, g, q⟩ := qc_ints_1 hs g q
  obtain ⟨x1, s1, t2, rfl, b1, g, q⟩ := qc_ints_1 hs g q
  obtain rfl := qc_ints_0 g q
  exact ⟨x0, x1, rfl⟩
noncomputable def qa_Cb : List qa_Ct := [qa_kb66, qa_kb76, qa_kb80, qa_kb86, qa_kb102, qc_ct 111, qa_kb160, qa_kb169, qa_kb175, qa_ke207, qa_kb232, qa_kb236, qa_kb269, qa_kb277, qa_kb280, qa_kb284, qa_kb298, qa_kb302, qa_kb303, qa_kb311, qa_kb312, qa_kb315, qa_kb328, qa_kb329, qa_kb331, qa_kb340, qa_kb377, qa_kb379]
theorem qz_b {L : Nat} {xs : Nat → Int32} (h6 : 6 ≤ L) : ∀ q ∈ qa_Cb, qa_hc qp_b gS (some (L, xs)) q := List.forall_mem_cons.mpr ⟨qz_b66 h6, List.forall_mem_cons.mpr ⟨qz_b76 h6, List.forall_mem_cons.mpr ⟨qz_b80 h6, List.forall_mem_cons.mpr ⟨qz_b86 h6, List.forall_mem_cons.mpr ⟨qz_b102 h6, List.forall_mem_cons.mpr ⟨gS_held h6 (Or.inr rfl), List.forall_mem_cons.mpr ⟨qz_b160 h6, List.forall_mem_cons.mpr ⟨qz_b169 h6, List.forall_mem_cons.mpr ⟨qz_b175 h6, List.forall_mem_cons.mpr ⟨qz_e207 h6, List.forall_mem_cons.mpr ⟨qz_b232 h6, List.forall_mem_cons.mpr ⟨qz_b236 h6, List.forall_mem_cons.mpr ⟨qz_b269 h6, List.forall_mem_cons.mpr ⟨qz_b277 h6, List.forall_mem_cons.mpr ⟨qz_b280 h6, List.forall_mem_cons.mpr ⟨qz_b284 h6, List.forall_mem_cons.mpr ⟨qz_b298 h6, List.forall_mem_cons.mpr ⟨qz_b302 h6, List.forall_mem_cons.mpr ⟨qz_b303 h6, List.forall_mem_cons.mpr ⟨qz_b311 h6, List.forall_mem_cons.mpr ⟨qz_b312 h6, List.forall_mem_cons.mpr ⟨qz_b315 h6, List.forall_mem_cons.mpr ⟨qz_b328 h6, List.forall_mem_cons.mpr ⟨qz_b329 h6, List.forall_mem_cons.mpr ⟨qz_b331 h6, List.forall_mem_cons.mpr ⟨qz_b340 h6, List.forall_mem_cons.mpr ⟨qz_b377 h6, List.forall_mem_cons.mpr ⟨qz_b379 h6, fun _ h => absurd h List.not_mem_nil⟩⟩⟩⟩⟩⟩⟩⟩⟩⟩⟩⟩⟩⟩⟩⟩⟩⟩⟩⟩⟩⟩⟩⟩⟩⟩⟩⟩
