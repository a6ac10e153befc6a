/-! all ops of the law, from any state that holds -/
variable {tb : Int}
theorem gS2_ru {h : qm_H} (hS : gS2 h) : hk_ru h.2.1 := gS_ru hS.1
noncomputable def gTB (tb : Int) (h : qm_H) : Prop := (gS4B tb) h ∧ ((h.2.2.2 0 9 = some 111 ∧ h.2.2.2 28 2 = some 29) ∨ (h.2.2.2 0 9 = some 29 ∧ h.2.2.2 28 2 = some 111))
noncomputable def qp_0 : qa_P := qa_P0 qa_foot4
theorem qv_a {h : qm_H} (hI : qa_Inv qp_a4 (gS4B tb) h) : qa_Inv qp_0 (gTB tb) h := by
  have w := hk_H_in hI
  exact qa_Inv_of0 w.1 hI.2.1 ⟨hI.2.2.2.1, Or.inl w.2⟩ (gS4_ru hI.2.2.2.1)
theorem qv_b {h : qm_H} (hI : qa_Inv qp_b4 (gS4B tb) h) : qa_Inv qp_0 (gTB tb) h := by
  have w := hk_H_in hI
  exact qa_Inv_of0 w.1 hI.2.1 ⟨hI.2.2.2.1, Or.inr w.2⟩ (gS4_ru hI.2.2.2.1)
theorem qv_out {h : qm_H} (hI : qa_Inv qp_0 (gTB tb) h) : qa_Inv qp_a4 (gS4B tb) h ∨ qa_Inv qp_b4 (gS4B tb) h := by
  obtain ⟨i1, i2, i3, ⟨i4, t⟩, i5⟩ := hI
  rcases t with t | t
  · exact Or.inl (qa_Inv_of ⟨i1, i3⟩ t i2 i4 (gS4_ru i4))
  · exact Or.inr (qa_Inv_of ⟨i1, i3⟩ t i2 i4 (gS4_ru i4))
noncomputable def qv_E (L : Nat) (xs : Nat → Int32) (Z : Option Value → qm_H → Prop) (i : Int32) (P : qa_P) (S : qm_H → Prop) : Prop := ∀ (h : qm_H) (x : Int32), x.toInt = i.toInt + 6 → qa_Inv P S h → qm_Ru (some (L, xs)) 300 cd_law (18, qb_l x, [], h) Z
noncomputable def qv_PB (tb tb2 : Int) (L : Nat) (xs : Nat → Int32) (Z : Option Value → qm_H → Prop) (j : Nat) : Prop := ∀ (i : Int32) (h : qm_H), 0 ≤ i.toInt → i.toInt + 5 < (L : Int) → qa_Inv qp_0 (gTB tb) h → qv_E L xs Z i qp_0 (gTB tb2) → qm_Ru (some (L, xs)) 300 cd_law (qb_pc j, qb_l i, [], h) Z
theorem gT_up {tb2 : Int} {h : qm_H} (k : qa_Inv qp_0 (gTB tb) h) (hb : tb ≤ tb2) : qa_Inv qp_0 (gTB tb2) h := by
  obtain ⟨k1, k2, k3, ⟨⟨s, m, c, z, j⟩, t⟩, k5⟩ := k
  exact ⟨k1, k2, k3, ⟨⟨s, m, c, z, gJ_up j hb⟩, t⟩, k5⟩
theorem qv_up {L : Nat} {xs : Nat → Int32} {Z : Option Value → qm_H → Prop} {tb2 : Int} {j : Nat} (hb : tb ≤ tb2) (q : qv_PB tb tb L xs Z j) : qv_PB tb tb2 L xs Z j := fun i h i0 i1 hI hE => q i h i0 i1 hI (fun h2 x e k => hE h2 x e (gT_up k hb))
/-- from one call to the next, with what holds at each place of the script -/
theorem qb_lawI {L : Nat} {xs : Nat → Int32} {D : Nat} {Z : Option Value → qm_H → Prop} {P : qa_P} {S : Int → qm_H → Prop} (hL : L ≤ 3072) (hZ : ∀ n h, qa_Inv P (S n) h → Z (some (.int 1)) h) (hop : ∀ j : Nat, j < 64 → ∀ (i : Int32) (h : qm_H), 0 ≤ i.toInt → i.toInt + 5 < (L : Int) → qa_Inv P (S i.toInt) h → (∀ (h : qm_H) (x : Int32), x.toInt = i.toInt + 6 → qa_Inv P (S x.toInt) h → qm_Ru (some (L, xs)) D cd_law (18, qb_l x, [], h) Z) → qm_Ru (some (L, xs)) D cd_law (qb_pc j, qb_l i, [], h) Z) : ∀ (n : Nat) (i : Int32) (h : qm_H), 0 ≤ i.toInt → i.toInt ≤ 4000 → (L : Int) - i.toInt ≤ (n : Int) → qa_Inv P (S i.toInt) h → qm_Ru (some (L, xs)) D cd_law (18, qb_l i, [], h) Z := by
  have eL : (Int32.ofNat L - 6).toInt = (L : Int) - 6 := by
    rw [Int32.toInt_sub, Int32.toInt_ofNat_of_lt (by omega)]
    show ((L : Int) - 6).bmod (2 ^ 32) = _
    rw [Int.bmod_def]
    omega
  intro n
  induction n with
  | zero =>
    intro i h h0 h1 h2 hI
    refine qb_test (fun _ => hZ _ h hI) (fun z => ?_)
    exfalso
    apply z
    apply Int32.lt_iff_toInt_lt.mpr
    rw [eL]
    omega
  | succ n ih =>
    intro i h h0 h1 h2 hI
    refine qb_test (fun _ => hZ _ h hI) (fun z => ?_)
    have hlt : ¬ (L : Int) - 6 < i.toInt := fun w => z (Int32.lt_iff_toInt_lt.mpr (by rw [eL]; exact w))
    refine qb_read h0 (by omega) ?_
    obtain ⟨j, hj, e⟩ := qb_63 (xs i.toNatClampNeg)
    rw [e]
    refine qm_Ru.nx (qb_sw j hj) ?_
    exact hop j hj i h h0 (by omega) hI (fun h' x hx hI' => ih x h' (by omega) (by omega) (by omega) hI')
section QV
variable {L : Nat} {xs : Nat → Int32} {Z : Option Value → qm_H → Prop}
theorem qv_hop {j : Nat} {T1 T2 : List qa_Nd} {r1 r2 : List (Nat × Nat × Int)} (h6 : 6 ≤ L) (hl : L ≤ 3072) (n1 : ∀ nd ∈ T1, qa_nok qp_a4 qa_Ca4 none 300 T1 nd) (s1 : qb_nd j r1 ∈ T1) (n2 : ∀ nd ∈ T2, qa_nok qp_b4 qa_Cb4 none 300 T2 nd) (s2 : qb_nd j r2 ∈ T2) : qv_PB tb tb L xs Z j := by
  intro i h i0 i1 hI hE
  rcases qv_out hI with hI | hI
  · exact qb_hop (P := qp_a4) (gS4_loc) (qz_a4 h6) n1 s1 hl i h i0 i1 qb_nb hI (fun h x e k => hE h x e (qv_a k))
  · exact qb_hop (P := qp_b4) (gS4_loc) (qz_b4 h6) n2 s2 hl i h i0 i1 qb_nb hI (fun h x e k => hE h x e (qv_b k))
theorem gR_tape {I I2 : Nat → Nat → Int32} (h : gR I) (e : ∀ o ∈ r_objs, ∀ i, I2 o i = I o i) (e6 : I2 6 0 = I 6 0) (e7 : I2 42 7 = I 42 7) (e44 : I2 118 44 = I 118 44) (e70 : I2 118 70 = I 118 70) (t : I2 1 1 = I2 118 2) : gR I2 := by
  obtain ⟨a, b, c, d, f, g⟩ := h
  exact ⟨t, by rw [e6, e44]; exact b, by rw [e7, e70]; exact c, fun k => by rw [e 99 (by decide), e 182 (by decide)]; exact d k, gF_cg f e e7, gY_cg g e⟩
/-- op 2: both read -/
theorem qv_2 (h6 : 6 ≤ L) (hl : L ≤ 3072) : qv_PB tb tb L xs Z 2 := by
  intro i h i0 i1 hI hE
  show qm_Ru (some (L, xs)) 300 cd_law (366, [.retAddr 0, .ref 0, .ref 118, .int i], [], h) Z
  obtain ⟨j1, j2, j3, ⟨⟨⟨j4, jX⟩, jZ⟩, t⟩, -⟩ := hI
  have hH : hk_H h := ⟨j1, j3⟩
  have fin : ∀ (v : Int32) (h1 : qm_H), rD h h1 → ((h1.2.2.2 0 9 = some 111 ∧ h1.2.2.2 28 2 = some 29) ∨ (h1.2.2.2 0 9 = some 29 ∧ h1.2.2.2 28 2 = some 111)) → cPl (h.2.1 2) (h.2.1 1 1).toInt.toNat (h1.2.1 3 4) → kJ kwF h1 → rdQ h h1 v → qm_Ru (some (L, xs)) 300 cd_law (370, [.retAddr 0, .ref 0, .ref 118, .int i], [.int v], h1) Z := by
    intro v h1 m t1 c9 hK1 cc
    have hH1 := rD_H hH m
    have key : ∀ o ∈ 42 :: 118 :: 158 :: [6, 11, 12, 13, 14, 16, 17, 36, 150, 151] ++ (q_objs ++ r_objs), o < 192 ∧ [1, 3, 4, 5, 29, 30, 31, 32, 33, 34, 35, 51, 93, 94, 95, 96, 97, 111, 112, 113, 114, 115, 116, 117].contains o = false := by decide
    have e : ∀ o ∈ 42 :: 118 :: 158 :: [6, 11, 12, 13, 14, 16, 17, 36, 150, 151] ++ (q_objs ++ r_objs), ∀ k, h1.2.1 o k = h.2.1 o k := fun o ho k => m.2.2.1 o (key o ho).1 (key o ho).2 k
    have hS1 : gS h1 := ⟨v_C_cg9 j4.1.1 (fun o ho k => e o (List.mem_append_left _ (List.mem_cons_of_mem _ (List.mem_cons_of_mem _ (List.mem_cons_of_mem _ (List.contains_iff_mem.mp ho))))) k), v_S_sm j4.1.2.1 (fun o ho k => e o (List.mem_append_right _ (List.mem_append_left _ ho)) k) (e 158 (by decide)) (e 118 (by decide) 18) (e 118 (by decide) 44) (e 118 (by decide) 59), m.2.2.2.2.1⟩
    refine qm_Ru.go 2 (c' := (372, [.retAddr 0, .ref 0, .ref 118, .int i], [.ref 118], h1)) rfl ?_
    refine hk_inv (o := 118) (r := []) (as := [.ref 118]) rfl rfl (hH1.1 118 (17, 105) rfl) rfl rfl rfl rfl (jr_im kwF_nz (by exact hK1) (pp_rread hH1 m.2.2.2.1 hK1 (fr_im (k0 := 17) (f := 44) (o0 := 118) (n0 := 105) (FL := [(17, 44), (17, 54), (17, 70)]) (M := fr_Mr) (by decide) (by decide) fr_Mrok fr_Mrc (hH1.1 118 (17, 105) rfl) (fr_im (k0 := 17) (f := 70) (o0 := 118) (n0 := 105) (FL := [(17, 44), (17, 54), (17, 70)]) (M := fr_Mr) (by decide) (by decide) fr_Mrok fr_Mrc (hH1.1 118 (17, 105) rfl) (fr_im (k0 := 17) (f := 54) (o0 := 118) (n0 := 105) (FL := [(17, 44), (17, 54), (17, 70)]) (M := fr_Mr) (by decide) (by decide) fr_Mrok fr_Mrc (hH1.1 118 (17, 105) rfl) (hs_rread (d := 289) hH1 m.2.2.2.1 hS1.2.1 (fun I J v2 hB2 hV2 e2 z2 => ?_)))))))
    intro q54 q70 q44 qr hK2
    have q54 : I 118 54 = h1.2.1 118 54 := q54
    obtain ⟨v9, pv, b9, l9, t9, e9, y9, p9, z9, -, q17, qo, qx0, qx1⟩ := qr
    have qo := qo
    rw [show h1.2.1 118 2 = h.2.1 1 1 from (e 118 (by decide) 2).trans j4.2.1.symm] at qo
    have eP : h1.2.1 3 4 = pv := cPl_eq (fun i hi => (m.2.2.1 119 (by decide) (by decide) i).trans (jX.1.1 i (by omega)).symm) c9 qo
    have hP : gP I := ⟨fun i hi => by
      rw [show I 1 1 = 0 from (e2 1 rfl 1).trans m.2.2.2.2.2] at hi
      exfalso
      have e0 : (0 : Int32).toInt = 0 := rfl
      omega, (e2 3 rfl 4).trans (eP.trans q17.symm)⟩
    have q70 : I 118 70 = h1.2.1 118 70 := q70
    have q44 : I 118 44 = h1.2.1 118 44 := q44
    have key2 : ∀ o ∈ 1 :: 6 :: 42 :: r_objs, [118, 120, 121, 122, 123, 127, 128, 129, 130, 131, 132, 133, 134, 135, 136, 137, 138, 139, 140, 141, 142, 143, 177, 178, 179, 180, 181].contains o = false := by decide
    have hG : gR I := gR_tape j4.2 (fun o ho k => (e2 o (key2 o (List.mem_cons_of_mem _ (List.mem_cons_of_mem _ (List.mem_cons_of_mem _ ho)))) k).trans (e o (List.mem_append_right _ (List.mem_append_right _ ho)) k)) ((e2 6 rfl 0).trans (e 6 (by decide) 0)) ((e2 42 rfl 7).trans (e 42 (by decide) 7)) (q44.trans (e 118 (by decide) 44)) (q70.trans (e 118 (by decide) 70)) (((e2 1 rfl 1).trans m.2.2.2.2.2).trans z2.symm)
    have hS2 : gS2 (h1.1, I, J, h1.2.2.2) := ⟨gS_r (J := J) hS1 hV2 e2 (by decide), hG⟩
    have kz : ∀ o ∈ [127, 128, 129, 131, 132] ++ zc_objs, o < 192 ∧ [1, 3, 4, 5, 29, 30, 31, 32, 33, 34, 35, 51, 93, 94, 95, 96, 97, 111, 112, 113, 114, 115, 116, 117].contains o = false := by decide
    have ky : ∀ o ∈ zc_objs, [118, 120, 121, 122, 123, 127, 128, 129, 130, 131, 132, 133, 134, 135, 136, 137, 138, 139, 140, 141, 142, 143, 177, 178, 179, 180, 181].contains o = false := by decide
    have kj : ∀ o ∈ [177, 178, 179, 180, 181], o < 192 ∧ [1, 3, 4, 5, 29, 30, 31, 32, 33, 34, 35, 51, 93, 94, 95, 96, 97, 111, 112, 113, 114, 115, 116, 117].contains o = false := by decide
    have kl : ∀ o ∈ [51, 93, 94, 95, 96, 97], [118, 120, 121, 122, 123, 127, 128, 129, 130, 131, 132, 133, 134, 135, 136, 137, 138, 139, 140, 141, 142, 143, 177, 178, 179, 180, 181].contains o = false := by decide
    have km : ∀ o, o < 192 → (53 ≤ o ∧ o ≤ 92) ∨ (168 ≤ o ∧ o ≤ 176) → [118, 120, 121, 122, 123, 127, 128, 129, 130, 131, 132, 133, 134, 135, 136, 137, 138, 139, 140, 141, 142, 143, 177, 178, 179, 180, 181].contains o = false ∧ [1, 3, 4, 5, 29, 30, 31, 32, 33, 34, 35, 51, 93, 94, 95, 96, 97, 111, 112, 113, 114, 115, 116, 117].contains o = false := by decide +kernel
    have zz := rd_gZ (J := J) j2 hB2 j4.1 jZ (B2 := h1.2.1 119) (st := h1.2.1 152) (fun i hi => (jX.1.1 i (by omega)).trans (m.2.2.1 119 (by decide) (by decide) i).symm) (fun y => m.2.2.1 152 (by decide) (by decide) y) qo qx0 qx1 cc (m.2.2.1 118 (by decide) (by decide) 18) (fun o ho i => m.2.2.1 o (kz o (List.mem_append_left _ ho)).1 (kz o (List.mem_append_left _ ho)).2 i) (fun o ho i => e2 o ((show ∀ o ∈ [29, 111], [118, 120, 121, 122, 123, 127, 128, 129, 130, 131, 132, 133, 134, 135, 136, 137, 138, 139, 140, 141, 142, 143, 177, 178, 179, 180, 181].contains o = false from by decide) o ho) i) (fun o ho i => (e2 o (ky o ho) i).trans (m.2.2.1 o (kz o (List.mem_append_right _ ho)).1 (kz o (List.mem_append_right _ ho)).2 i)) (q44.trans (m.2.2.1 118 (by decide) (by decide) 44)) (q54.trans (m.2.2.1 118 (by decide) (by decide) 54)) (fun o ho i => m.2.2.1 o (kj o ho).1 (kj o ho).2 i) (fun f _ => m.2.2.1 118 (by decide) (by decide) f) (fun o ho i => e2 o (kl o ho) i) (fun o ho i => (e2 o (km o (by omega) ho).1 i).trans (m.2.2.1 o (by omega) (km o (by omega) ho).2 i))
    have hI2 : qa_Inv qp_0 (gTB tb) (h1.1, I, J, h1.2.2.2) := qa_Inv_of0 ⟨hH1.1, hH1.2⟩ hB2 ⟨⟨⟨hS2, hP, hK2⟩, zz.2⟩, t1⟩ (gS_ru hS2.1)
    refine qm_Ru.go 2 (c' := (2078, [.retAddr 0, .ref 0, .ref 118, .int i], [], (h1.1, I, J, h1.2.2.2))) rfl ?_
    refine qm_Ru.go 2 (c' := (18, qb_l (i + 6), [], (h1.1, I, J, h1.2.2.2))) rfl (hE _ (i + 6) ?_ hI2)
    rw [Int32.toInt_add]
    show (i.toInt + 6).bmod (2 ^ 32) = _
    rw [Int.bmod_def]
    omega
  refine qm_Ru.go 1 (c' := (367, [.retAddr 0, .ref 0, .ref 118, .int i], [.ref 0], h)) rfl ?_
  rcases t with t | t
  · exact hk_inv (o := 0) (r := []) (as := [.ref 0]) rfl rfl (hH.1 0 (16, 10) rfl) rfl rfl rfl rfl (jr_im kwF_nz (by exact jX.2) (hs_read29 (d := 259) h6 hH t j2 (gS_ru j4.1) j4.1.2.2 (fun v h1 m c9 o9 t1 hK1 => fin v h1 m (Or.inl t1) c9 hK1 (Or.inl (Or.inl ⟨t.2, t1.2, o9⟩))) (fun v h1 m c9 o9 t1 hK1 => fin v h1 m (Or.inr t1) c9 hK1 (Or.inr (Or.inl ⟨t.2, t1.2, o9⟩)))))
  · exact hk_inv (o := 0) (r := []) (as := [.ref 0]) rfl rfl (hH.1 0 (16, 10) rfl) rfl rfl rfl rfl (jr_im kwF_nz (by exact jX.2) (hs_read111 (d := 259) h6 hH t j2 (gS_ru j4.1) j4.1.2.2 (fun v h1 m c9 o9 t1 hK1 => fin v h1 m (Or.inr t1) c9 hK1 (Or.inl (Or.inr ⟨t.2, t1.2, o9⟩))) (fun v h1 m c9 o9 t1 hK1 => fin v h1 m (Or.inl t1) c9 hK1 (Or.inr (Or.inr ⟨t.2, t1.2, o9⟩)))))
theorem qb_b1 {n : Nat} {q : qa_B} (h : qa_in q (xs (n + 1))) : ∀ c, c < 6 → qa_in ([qa_full, q].getD c qa_full) (xs (n + c))
  | 0, _ => qa_in_full _
  | 1, _ => h
  | _ + 2, _ => qa_in_full _
theorem qb_b2 {n : Nat} {q r : qa_B} (h : qa_in q (xs (n + 1))) (k : qa_in r (xs (n + 2))) : ∀ c, c < 6 → qa_in ([qa_full, q, r].getD c qa_full) (xs (n + c))
  | 0, _ => qa_in_full _
  | 1, _ => h
  | 2, _ => k
  | _ + 3, _ => qa_in_full _
end QV
