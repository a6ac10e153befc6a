/-! what class and reference have in common between calls: the tape's length, how many boxes, facts, rows of books; the facts; the rows -/
noncomputable def gF (I : Nat → Nat → Int32) : Prop := ∀ k : Nat, (k : Int) < (I 42 7).toInt → (0 ≤ (I 164 k).toInt ∧ (I 164 k).toInt ≤ 4 ∧ I 43 k = I 164 k) ∧ ((I 164 k).toInt ≤ 2 → I 44 k = I 165 k) ∧ ((I 164 k).toInt = 0 → I 45 k = I 166 k) ∧ (3 ≤ (I 164 k).toInt → I 45 k = I 165 k) ∧ ((I 164 k).toInt = 4 → 0 ≤ (I 165 k).toInt ∧ (I 165 k).toInt < (k : Int))
noncomputable def gY (I : Nat → Nat → Int32) : Prop := ∀ b i : Nat, b < 2 → (i : Int) < (I 99 b).toInt → I (102 + b) i = I 183 (30 * b + i) ∧ I (105 + b) i = I 184 (30 * b + i) ∧ I (108 + b) i = I 185 (30 * b + i)
noncomputable def gR (I : Nat → Nat → Int32) : Prop := I 1 1 = I 118 2 ∧ I 6 0 = I 118 44 ∧ I 42 7 = I 118 70 ∧ (∀ b, I 99 b = I 182 b) ∧ gF I ∧ gY I
noncomputable def r_objs : List Nat := [43, 44, 45, 99, 102, 103, 105, 106, 108, 109, 164, 165, 166, 182, 183, 184, 185]
theorem gF_cg {I I2 : Nat → Nat → Int32} (h : gF I) (e : ∀ o ∈ r_objs, ∀ i, I2 o i = I o i) (e7 : I2 42 7 = I 42 7) : gF I2 := by
  intro k hk
  rw [e7] at hk
  rw [e 164 (by decide), e 43 (by decide), e 44 (by decide), e 165 (by decide), e 45 (by decide), e 166 (by decide)]
  exact h k hk
theorem gY_cg {I I2 : Nat → Nat → Int32} (h : gY I) (e : ∀ o ∈ r_objs, ∀ i, I2 o i = I o i) : gY I2 := by
  intro b i hb hi
  rw [e 99 (by decide)] at hi
  have := h b i hb hi
  match b, hb with
  | 0, _ =>
    rw [e 102 (by decide), e 183 (by decide), e 105 (by decide), e 184 (by decide), e 108 (by decide), e 185 (by decide)]
    exact this
  | 1, _ =>
    rw [e 103 (by decide), e 183 (by decide), e 106 (by decide), e 184 (by decide), e 109 (by decide), e 185 (by decide)]
    exact this
theorem gR_cg {I I2 : Nat → Nat → Int32} (h : gR I) (e : ∀ o ∈ r_objs, ∀ i, I2 o i = I o i) (e1 : I2 1 1 = I 1 1) (e6 : I2 6 0 = I 6 0) (e7 : I2 42 7 = I 42 7) (e2 : I2 118 2 = I 118 2) (e44 : I2 118 44 = I 118 44) (e70 : I2 118 70 = I 118 70) : gR I2 := by
  obtain ⟨a, b, c, d, f, g⟩ := h
  refine ⟨by rw [e1, e2]; exact a, by rw [e6, e44]; exact b, by rw [e7, e70]; exact c, fun k => by rw [e 99 (by decide), e 182 (by decide)]; exact d k, gF_cg f e e7, gY_cg g e⟩
noncomputable def qa_foot2 : List Nat := qa_foot ++ (r_objs ++ [1001001, 1042007, 1118002, 1118070])
noncomputable def gS2 (h : qm_H) : Prop := gS h ∧ gR h.2.1
theorem gS2_loc {t1 t2 : Nat} : qa_loc (qa_PC t1 t2 qa_foot2) gS2 := by
  intro h I J e hS
  have sub : ∀ n, qa_foot.contains n = true → qa_foot2.contains n = true := fun n hn => List.contains_iff_mem.mpr (List.mem_append_left _ (List.contains_iff_mem.mp hn))
  have f : ∀ o i, qa_foot2.contains (1000000 + 1000 * o + i) = true → (∃ q, qa_Psh o = some q ∧ 5 ≤ q.1) → I o i = h.2.1 o i := fun o i hi hq => e o i (Or.inr (Or.inr ⟨hi, hq⟩))
  refine ⟨gS_loc (t1 := t1) (t2 := t2) h I J (fun o i hf => e o i ?_) hS.1, gR_cg hS.2 (fun o ho i => e o i (Or.inl ?_)) (f 1 1 (by decide) ⟨(12, 7), rfl, by decide⟩) (e 6 0 (Or.inl (show qa_foot2.contains 6 = true from by decide))) (f 42 7 (by decide) ⟨(7, 11), rfl, by decide⟩) (f 118 2 (by decide) ⟨(17, 105), rfl, by decide⟩) (f 118 44 (by decide) ⟨(17, 105), rfl, by decide⟩) (f 118 70 (by decide) ⟨(17, 105), rfl, by decide⟩)⟩
  · rcases hf with z | z | ⟨z, q⟩
    · exact Or.inl (sub _ z)
    · exact Or.inr (Or.inl z)
    · exact Or.inr (Or.inr ⟨sub _ z, q⟩)
  · exact List.contains_iff_mem.mpr (List.mem_append_right _ (List.mem_append_left _ ho))
noncomputable def fr_FL : List (Nat × Nat) := [(6, 0), (17, 2), (17, 44), (17, 70)]
noncomputable def fr_Ms : List Nat := [8, 33, 58, 65, 67, 68, 70, 72, 73, 75, 76, 77, 78, 79, 80, 81, 82, 83, 84, 86, 87, 88, 89, 90, 91, 92, 93, 94, 95, 96, 97, 98, 99, 100, 102, 103, 104, 105, 106, 114, 115, 116, 117, 118, 119, 120, 121, 122, 123, 124, 125, 126, 127, 128, 129, 130, 131, 132, 137, 139, 140, 144, 145, 146, 147, 148, 160, 161, 162, 163, 164, 165, 166, 169, 170, 171, 172, 175, 207, 232, 233, 234, 235, 236, 237, 238, 270, 272, 274, 275, 277, 278, 279, 280, 281, 282, 283, 284, 285, 286, 287, 288, 289, 290, 291, 292, 293, 294, 295, 296, 297, 298, 302, 303, 304, 305, 306, 307, 308, 309, 310, 311, 312, 313, 314, 315, 316, 318, 319, 320, 321, 328, 329, 331, 332, 333, 334, 335, 336, 337, 338, 340, 341, 342, 377, 378, 379]
theorem fr_Mok : fr_M fr_FL fr_Ms = true := by decide +kernel
/-- more that both have in common: the bytes; the place of the last read; the words of the kinds -/
noncomputable def x_objs : List Nat := [2, 119]
noncomputable def gP (I : Nat → Nat → Int32) : Prop := (∀ i : Nat, (i : Int) < (I 1 1).toInt → I 2 i = I 119 i) ∧ I 3 4 = I 118 17
noncomputable def gX (h : qm_H) : Prop := gP h.2.1 ∧ kJ kwF h
theorem gP_cg {I I2 : Nat → Nat → Int32} (h : gP I) (e : ∀ o ∈ x_objs, ∀ i, I2 o i = I o i) (e1 : I2 1 1 = I 1 1) (e4 : I2 3 4 = I 3 4) (e17 : I2 118 17 = I 118 17) : gP I2 := ⟨fun i hi => by
  rw [e1] at hi
  rw [e 2 (by decide), e 119 (by decide)]
  exact h.1 i hi, by rw [e4, e17]; exact h.2⟩
noncomputable def qa_foot3 : List Nat := qa_foot2 ++ [2, 119, 1003004, 1118017]
noncomputable def gS3 (h : qm_H) : Prop := gS2 h ∧ gX h
theorem gS3_ru {h : qm_H} (hS : gS3 h) : hk_ru h.2.1 := gS_ru hS.1.1
theorem gS3_loc {t1 t2 : Nat} : qa_locK (qa_PC t1 t2 qa_foot3) gS3 := by
  intro h I J e hK hS
  have sub : ∀ n, qa_foot2.contains n = true → qa_foot3.contains n = true := fun n hn => List.contains_iff_mem.mpr (List.mem_append_left _ (List.contains_iff_mem.mp hn))
  have f : ∀ o i, qa_foot3.contains (1000000 + 1000 * o + i) = true → (∃ q, qa_Psh o = some q ∧ 5 ≤ q.1) → I o i = h.2.1 o i := fun o i hi hq => e o i (Or.inr (Or.inr ⟨hi, hq⟩))
  refine ⟨gS2_loc (t1 := t1) (t2 := t2) h I J (fun o i hf => e o i ?_) hS.1, gP_cg hS.2.1 (fun o ho i => e o i (Or.inl ((show ∀ o ∈ x_objs, qa_foot3.contains o = true from by decide) o ho))) (f 1 1 (by decide) ⟨(12, 7), rfl, by decide⟩) (f 3 4 (by decide) ⟨(8, 14), rfl, by decide⟩) (f 118 17 (by decide) ⟨(17, 105), rfl, by decide⟩), hS.2.2.1, fun k hk => (hK 125 hS.2.2.1 k).trans (hS.2.2.2 k hk)⟩
  rcases hf with z | z | ⟨z, q⟩
  · exact Or.inl (sub _ z)
  · exact Or.inr (Or.inl z)
  · exact Or.inr (Or.inr ⟨sub _ z, q⟩)
noncomputable def fr_FL3 : List (Nat × Nat) := [(6, 0), (8, 4), (17, 2), (17, 17), (17, 44), (17, 70)]
theorem fr_Mok3 : fr_M fr_FL3 fr_Ms = true := by decide +kernel
/-- a contract keeps what both have in common -/
theorem hc_R3 {t1 t2 L : Nat} {xs : Nat → Int32} {q : qa_Ct} (hc : qa_hc (qa_PC t1 t2 qa_foot) gS (some (L, xs)) q) (hj : fr_Ms.contains q.1 = true) (hm : ∀ o ∈ 1 :: 42 :: (r_objs ++ x_objs), q.2.2.2.1.contains o = false) : qa_hc (qa_PC t1 t2 qa_foot3) gS3 (some (L, xs)) q := by
  intro p K as as' h d Z hs hp hg hpre hI hd k
  have hH := (hk_H_in hI).1
  obtain ⟨i1, i2, i3, i4, i5⟩ := hI
  have hI0 : qa_Inv (qa_PC t1 t2 qa_foot) gS h := ⟨i1, i2, i3, i4.1.1, fun r hr1 _ _ i e => gS_ru i4.1.1 r hr1 i e⟩
  have hcd : fr_cd fr_FL3 fr_Ms (qm_F q.1).2 = true := List.all_eq_true.mp fr_Mok3 q.1 (List.contains_iff_mem.mp hj)
  have w := hc p K as as' h d (fun r h' => kJ kwF h' → (∀ o, q.2.2.2.1.contains o = false → ∀ i, h'.2.1 o i = h.2.1 o i) ∧ (gR h'.2.1 → gP h'.2.1 → Z r h')) hs hp hg hpre hI0 hd (fun r h' a b c kk => ⟨c, fun g gp => k r h' a ⟨b.1, b.2.1, b.2.2.1, ⟨⟨b.2.2.2.1, g⟩, gp, kk⟩, fun r hr1 _ _ i e => gS_ru b.2.2.2.1 r hr1 i e⟩ c⟩)
  have w := jr_im kwF_nz (by exact i4.2.2) w
  have w := fr_Ru (k0 := 6) (f := 0) (o0 := 6) (n0 := 9) (FL := fr_FL3) (M := fr_Ms) (by decide) (by decide) fr_Mok3 hcd (hH.1 6 (6, 9) rfl) w
  have w := fr_Ru (k0 := 8) (f := 4) (o0 := 3) (n0 := 14) (FL := fr_FL3) (M := fr_Ms) (by decide) (by decide) fr_Mok3 hcd (hH.1 3 (8, 14) rfl) w
  have w := fr_Ru (k0 := 17) (f := 2) (o0 := 118) (n0 := 105) (FL := fr_FL3) (M := fr_Ms) (by decide) (by decide) fr_Mok3 hcd (hH.1 118 (17, 105) rfl) w
  have w := fr_Ru (k0 := 17) (f := 17) (o0 := 118) (n0 := 105) (FL := fr_FL3) (M := fr_Ms) (by decide) (by decide) fr_Mok3 hcd (hH.1 118 (17, 105) rfl) w
  have w := fr_Ru (k0 := 17) (f := 44) (o0 := 118) (n0 := 105) (FL := fr_FL3) (M := fr_Ms) (by decide) (by decide) fr_Mok3 hcd (hH.1 118 (17, 105) rfl) w
  have w := fr_Ru (k0 := 17) (f := 70) (o0 := 118) (n0 := 105) (FL := fr_FL3) (M := fr_Ms) (by decide) (by decide) fr_Mok3 hcd (hH.1 118 (17, 105) rfl) w
  refine w.mono (fun r h' z => ?_)
  obtain ⟨⟨⟨⟨⟨⟨⟨a, b⟩, e6⟩, e4⟩, e2⟩, e17⟩, e44⟩, e70⟩ := z
  have a1 := a 1 (hm 1 List.mem_cons_self) 1
  exact b (gR_cg i4.1.2 (fun o ho i => a o (hm o (List.mem_cons_of_mem _ (List.mem_cons_of_mem _ (List.mem_append_left _ ho)))) i) a1 e6 (a 42 (hm 42 (List.mem_cons_of_mem _ List.mem_cons_self)) 7) e2 e44 e70) (gP_cg i4.2.1 (fun o ho i => a o (hm o (List.mem_cons_of_mem _ (List.mem_cons_of_mem _ (List.mem_append_right _ ho)))) i) a1 e4 e17)
noncomputable def qp_a3 : qa_P := qa_PC 29 111 qa_foot3
noncomputable def qa_Ca3 : List qa_Ct := [qa_ka76, qa_ka80, qa_ka86, qa_ka102, qc_ct 29, qa_ka160, qa_ka169, qa_ka175, qa_ke207, qa_ka232, qa_ka236, qa_ka277, qa_ka280, qa_ka284, qa_ka298, qa_ka302, qa_ka303, qa_ka311, qa_ka312, qa_ka315, qa_ka328, qa_ka329, qa_ka331, qa_ka340, qa_ka377, qa_ka379]
theorem qz_a3 {L : Nat} {xs : Nat → Int32} (h6 : 6 ≤ L) : ∀ q ∈ qa_Ca3, qa_hc qp_a3 gS3 (some (L, xs)) q := List.forall_mem_cons.mpr ⟨hc_R3 (qz_a76 h6) (by decide) (by decide), List.forall_mem_cons.mpr ⟨hc_R3 (qz_a80 h6) (by decide) (by decide), List.forall_mem_cons.mpr ⟨hc_R3 (qz_a86 h6) (by decide) (by decide), List.forall_mem_cons.mpr ⟨hc_R3 (qz_a102 h6) (by decide) (by decide), List.forall_mem_cons.mpr ⟨hc_R3 (gS_held h6 (Or.inl rfl)) (by decide) (by decide), List.forall_mem_cons.mpr ⟨hc_R3 (qz_a160 h6) (by decide) (by decide), List.forall_mem_cons.mpr ⟨hc_R3 (qz_a169 h6) (by decide) (by decide), List.forall_mem_cons.mpr ⟨hc_R3 (qz_a175 h6) (by decide) (by decide), List.forall_mem_cons.mpr ⟨hc_R3 (qz_e207 h6) (by decide) (by decide), List.forall_mem_cons.mpr ⟨hc_R3 (qz_a232 h6) (by decide) (by decide), List.forall_mem_cons.mpr ⟨hc_R3 (qz_a236 h6) (by decide) (by decide), List.forall_mem_cons.mpr ⟨hc_R3 (qz_a277 h6) (by decide) (by decide), List.forall_mem_cons.mpr ⟨hc_R3 (qz_a280 h6) (by decide) (by decide), List.forall_mem_cons.mpr ⟨hc_R3 (qz_a284 h6) (by decide) (by decide), List.forall_mem_cons.mpr ⟨hc_R3 (qz_a298 h6) (by decide) (by decide), List.forall_mem_cons.mpr ⟨hc_R3 (qz_a302 h6) (by decide) (by decide), List.forall_mem_cons.mpr ⟨hc_R3 (qz_a303 h6) (by decide) (by decide), List.forall_mem_cons.mpr ⟨hc_R3 (qz_a311 h6) (by decide) (by decide), List.forall_mem_cons.mpr ⟨hc_R3 (qz_a312 h6) (by decide) (by decide), List.forall_mem_cons.mpr ⟨hc_R3 (qz_a315 h6) (by decide) (by decide), List.forall_mem_cons.mpr ⟨hc_R3 (qz_a328 h6) (by decide) (by decide), List.forall_mem_cons.mpr ⟨hc_R3 (qz_a329 h6) (by decide) (by decide), List.forall_mem_cons.mpr ⟨hc_R3 (qz_a331 h6) (by decide) (by decide), List.forall_mem_cons.mpr ⟨hc_R3 (qz_a340 h6) (by decide) (by decide), List.forall_mem_cons.mpr ⟨hc_R3 (qz_a377 h6) (by decide) (by decide), List.forall_mem_cons.mpr ⟨hc_R3 (qz_a379 h6) (by decide) (by decide), fun _ h => absurd h List.not_mem_nil⟩⟩⟩⟩⟩⟩⟩⟩⟩⟩⟩⟩⟩⟩⟩⟩⟩⟩⟩⟩⟩⟩⟩⟩⟩⟩
noncomputable def qp_b3 : qa_P := qa_PC 111 29 qa_foot3
noncomputable def qa_Cb3 : List qa_Ct := [qa_kb76, qa_kb80, qa_kb86, qa_kb102, qc_ct 111, qa_kb160, qa_kb169, qa_kb175, qa_ke207, qa_kb232, qa_kb236, qa_kb277, qa_kb280, qa_kb284, qa_kb298, qa_kb302, qa_kb303, qa_kb311, qa_kb312, qa_kb315, qa_kb328, qa_kb329, qa_kb331, qa_kb340, qa_kb377, qa_kb379]
theorem qz_b3 {L : Nat} {xs : Nat → Int32} (h6 : 6 ≤ L) : ∀ q ∈ qa_Cb3, qa_hc qp_b3 gS3 (some (L, xs)) q := List.forall_mem_cons.mpr ⟨hc_R3 (qz_b76 h6) (by decide) (by decide), List.forall_mem_cons.mpr ⟨hc_R3 (qz_b80 h6) (by decide) (by decide), List.forall_mem_cons.mpr ⟨hc_R3 (qz_b86 h6) (by decide) (by decide), List.forall_mem_cons.mpr ⟨hc_R3 (qz_b102 h6) (by decide) (by decide), List.forall_mem_cons.mpr ⟨hc_R3 (gS_held h6 (Or.inr rfl)) (by decide) (by decide), List.forall_mem_cons.mpr ⟨hc_R3 (qz_b160 h6) (by decide) (by decide), List.forall_mem_cons.mpr ⟨hc_R3 (qz_b169 h6) (by decide) (by decide), List.forall_mem_cons.mpr ⟨hc_R3 (qz_b175 h6) (by decide) (by decide), List.forall_mem_cons.mpr ⟨hc_R3 (qz_e207 h6) (by decide) (by decide), List.forall_mem_cons.mpr ⟨hc_R3 (qz_b232 h6) (by decide) (by decide), List.forall_mem_cons.mpr ⟨hc_R3 (qz_b236 h6) (by decide) (by decide), List.forall_mem_cons.mpr ⟨hc_R3 (qz_b277 h6) (by decide) (by decide), List.forall_mem_cons.mpr ⟨hc_R3 (qz_b280 h6) (by decide) (by decide), List.forall_mem_cons.mpr ⟨hc_R3 (qz_b284 h6) (by decide) (by decide), List.forall_mem_cons.mpr ⟨hc_R3 (qz_b298 h6) (by decide) (by decide), List.forall_mem_cons.mpr ⟨hc_R3 (qz_b302 h6) (by decide) (by decide), List.forall_mem_cons.mpr ⟨hc_R3 (qz_b303 h6) (by decide) (by decide), List.forall_mem_cons.mpr ⟨hc_R3 (qz_b311 h6) (by decide) (by decide), List.forall_mem_cons.mpr ⟨hc_R3 (qz_b312 h6) (by decide) (by decide), List.forall_mem_cons.mpr ⟨hc_R3 (qz_b315 h6) (by decide) (by decide), List.forall_mem_cons.mpr ⟨hc_R3 (qz_b328 h6) (by decide) (by decide), List.forall_mem_cons.mpr ⟨hc_R3 (qz_b329 h6) (by decide) (by decide), List.forall_mem_cons.mpr ⟨hc_R3 (qz_b331 h6) (by decide) (by decide), List.forall_mem_cons.mpr ⟨hc_R3 (qz_b340 h6) (by decide) (by decide), List.forall_mem_cons.mpr ⟨hc_R3 (qz_b377 h6) (by decide) (by decide), List.forall_mem_cons.mpr ⟨hc_R3 (qz_b379 h6) (by decide) (by decide), fun _ h => absurd h List.not_mem_nil⟩⟩⟩⟩⟩⟩⟩⟩⟩⟩⟩⟩⟩⟩⟩⟩⟩⟩⟩⟩⟩⟩⟩⟩⟩⟩
