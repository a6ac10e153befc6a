/-! all ops of the law, from any state that holds -/
theorem gS2_ru {h : qm_H} (hS : gS2 h) : hk_ru h.2.1 := gS_ru hS.1
noncomputable def gT (h : qm_H) : Prop := gS2 h ∧ ((h.2.2.2 0 9 = some 111 ∧ h.2.2.2 28 2 = some 29) ∨ (h.2.2.2 0 9 = some 29 ∧ h.2.2.2 28 2 = some 111))
noncomputable def qp_0 : qa_P := qa_P0 qa_foot2
theorem qv_a {h : qm_H} (hI : qa_Inv qp_a2 gS2 h) : qa_Inv qp_0 gT h := by
  have w := hk_H_in hI
  exact qa_Inv_of0 w.1 hI.2.1 ⟨hI.2.2.2.1, Or.inl w.2⟩ (gS2_ru hI.2.2.2.1)
theorem qv_b {h : qm_H} (hI : qa_Inv qp_b2 gS2 h) : qa_Inv qp_0 gT h := by
  have w := hk_H_in hI
  exact qa_Inv_of0 w.1 hI.2.1 ⟨hI.2.2.2.1, Or.inr w.2⟩ (gS2_ru hI.2.2.2.1)
theorem qv_out {h : qm_H} (hI : qa_Inv qp_0 gT h) : qa_Inv qp_a2 gS2 h ∨ qa_Inv qp_b2 gS2 h := by
  obtain ⟨i1, i2, i3, ⟨i4, t⟩, i5⟩ := hI
  rcases t with t | t
  · exact Or.inl (qa_Inv_of ⟨i1, i3⟩ t i2 i4 (gS2_ru i4))
  · exact Or.inr (qa_Inv_of ⟨i1, i3⟩ t i2 i4 (gS2_ru i4))
noncomputable def qv_E (L : Nat) (xs : Nat → Int32) (Z : Option Value → qm_H → Prop) (i : Int32) (P : qa_P) (S : qm_H → Prop) : Prop := ∀ (h : qm_H) (x : Int32), x.toInt = i.toInt + 6 → qa_Inv P S h → qm_Ru (some (L, xs)) 300 cd_law (18, qb_l x, [], h) Z
noncomputable def qv_P (L : Nat) (xs : Nat → Int32) (Z : Option Value → qm_H → Prop) (j : Nat) : Prop := ∀ (i : Int32) (h : qm_H), 0 ≤ i.toInt → i.toInt + 5 < (L : Int) → qa_Inv qp_0 gT h → qv_E L xs Z i qp_0 gT → qm_Ru (some (L, xs)) 300 cd_law (qb_pc j, qb_l i, [], h) Z
section QV
variable {L : Nat} {xs : Nat → Int32} {Z : Option Value → qm_H → Prop}
theorem qv_hop {j : Nat} {T1 T2 : List qa_Nd} {r1 r2 : List (Nat × Nat × Int)} (h6 : 6 ≤ L) (hl : L ≤ 3072) (n1 : ∀ nd ∈ T1, qa_nok qp_a2 qa_Ca2 none 300 T1 nd) (s1 : qb_nd j r1 ∈ T1) (n2 : ∀ nd ∈ T2, qa_nok qp_b2 qa_Cb2 none 300 T2 nd) (s2 : qb_nd j r2 ∈ T2) : qv_P L xs Z j := by
  intro i h i0 i1 hI hE
  rcases qv_out hI with hI | hI
  · exact qb_hop (P := qp_a2) (qa_loc_K gS2_loc) (qz_a2 h6) n1 s1 hl i h i0 i1 qb_nb hI (fun h x e k => hE h x e (qv_a k))
  · exact qb_hop (P := qp_b2) (qa_loc_K gS2_loc) (qz_b2 h6) n2 s2 hl i h i0 i1 qb_nb hI (fun h x e k => hE h x e (qv_b k))
theorem gR_tape {I I2 : Nat → Nat → Int32} (h : gR I) (e : ∀ o ∈ r_objs, ∀ i, I2 o i = I o i) (e6 : I2 6 0 = I 6 0) (e7 : I2 42 7 = I 42 7) (e44 : I2 118 44 = I 118 44) (e70 : I2 118 70 = I 118 70) (t : I2 1 1 = I2 118 2) : gR I2 := by
  obtain ⟨a, b, c, d, f, g⟩ := h
  exact ⟨t, by rw [e6, e44]; exact b, by rw [e7, e70]; exact c, fun k => by rw [e 99 (by decide), e 182 (by decide)]; exact d k, gF_cg f e e7, gY_cg g e⟩
/-- op 2: both read -/
theorem qv_2 (h6 : 6 ≤ L) (hl : L ≤ 3072) : qv_P L xs Z 2 := by
  intro i h i0 i1 hI hE
  show qm_Ru (some (L, xs)) 300 cd_law (366, [.retAddr 0, .ref 0, .ref 118, .int i], [], h) Z
  obtain ⟨j1, j2, j3, ⟨j4, t⟩, -⟩ := hI
  have hH : hk_H h := ⟨j1, j3⟩
  have fin : ∀ (v : Int32) (h1 : qm_H), rD h h1 → ((h1.2.2.2 0 9 = some 111 ∧ h1.2.2.2 28 2 = some 29) ∨ (h1.2.2.2 0 9 = some 29 ∧ h1.2.2.2 28 2 = some 111)) → qm_Ru (some (L, xs)) 300 cd_law (370, [.retAddr 0, .ref 0, .ref 118, .int i], [.int v], h1) Z := by
    intro v h1 m t1
    have hH1 := rD_H hH m
    have key : ∀ o ∈ 42 :: 118 :: 158 :: [6, 11, 12, 13, 14, 16, 17, 36, 150, 151] ++ (q_objs ++ r_objs), o < 192 ∧ [1, 3, 4, 5, 29, 30, 31, 32, 33, 34, 35, 51, 93, 94, 95, 96, 97, 111, 112, 113, 114, 115, 116, 117].contains o = false := by decide
    have e : ∀ o ∈ 42 :: 118 :: 158 :: [6, 11, 12, 13, 14, 16, 17, 36, 150, 151] ++ (q_objs ++ r_objs), ∀ k, h1.2.1 o k = h.2.1 o k := fun o ho k => m.2.2.1 o (key o ho).1 (key o ho).2 k
    have hS1 : gS h1 := ⟨v_C_cg9 j4.1.1 (fun o ho k => e o (List.mem_append_left _ (List.mem_cons_of_mem _ (List.mem_cons_of_mem _ (List.mem_cons_of_mem _ (List.contains_iff_mem.mp ho))))) k), v_S_sm j4.1.2.1 (fun o ho k => e o (List.mem_append_right _ (List.mem_append_left _ ho)) k) (e 158 (by decide)) (e 118 (by decide) 18) (e 118 (by decide) 44) (e 118 (by decide) 59), m.2.2.2.2.1⟩
    refine qm_Ru.go 2 (c' := (372, [.retAddr 0, .ref 0, .ref 118, .int i], [.ref 118], h1)) rfl ?_
    refine hk_inv (o := 118) (r := []) (as := [.ref 118]) rfl rfl (hH1.1 118 (17, 105) rfl) rfl rfl rfl rfl (fr_im (k0 := 17) (f := 44) (o0 := 118) (n0 := 105) (FL := [(17, 44), (17, 70)]) (M := fr_Mr) (by decide) (by decide) fr_Mrok fr_Mrc (hH1.1 118 (17, 105) rfl) (fr_im (k0 := 17) (f := 70) (o0 := 118) (n0 := 105) (FL := [(17, 44), (17, 70)]) (M := fr_Mr) (by decide) (by decide) fr_Mrok fr_Mrc (hH1.1 118 (17, 105) rfl) (hs_rread (d := 289) hH1 m.2.2.2.1 hS1.2.1 (fun I J v2 hB2 hV2 e2 z2 => ?_))))
    intro q70 q44
    have q70 : I 118 70 = h1.2.1 118 70 := q70
    have q44 : I 118 44 = h1.2.1 118 44 := q44
    have key2 : ∀ o ∈ 1 :: 6 :: 42 :: r_objs, [118, 120, 121, 122, 123, 127, 128, 129, 130, 131, 132, 133, 134, 135, 136, 137, 138, 139, 140, 141, 142, 143, 177, 178, 179, 180, 181].contains o = false := by decide
    have hG : gR I := gR_tape j4.2 (fun o ho k => (e2 o (key2 o (List.mem_cons_of_mem _ (List.mem_cons_of_mem _ (List.mem_cons_of_mem _ ho)))) k).trans (e o (List.mem_append_right _ (List.mem_append_right _ ho)) k)) ((e2 6 rfl 0).trans (e 6 (by decide) 0)) ((e2 42 rfl 7).trans (e 42 (by decide) 7)) (q44.trans (e 118 (by decide) 44)) (q70.trans (e 118 (by decide) 70)) (((e2 1 rfl 1).trans m.2.2.2.2.2).trans z2.symm)
    have hS2 : gS2 (h1.1, I, J, h1.2.2.2) := ⟨gS_r (J := J) hS1 hV2 e2 (by decide), hG⟩
    have hI2 : qa_Inv qp_0 gT (h1.1, I, J, h1.2.2.2) := qa_Inv_of0 ⟨hH1.1, hH1.2⟩ hB2 ⟨hS2, t1⟩ (gS_ru hS2.1)
    refine qm_Ru.go 2 (c' := (2078, [.retAddr 0, .ref 0, .ref 118, .int i], [], (h1.1, I, J, h1.2.2.2))) rfl ?_
    refine qm_Ru.go 2 (c' := (18, qb_l (i + 6), [], (h1.1, I, J, h1.2.2.2))) rfl (hE _ (i + 6) ?_ hI2)
    rw [Int32.toInt_add]
    show (i.toInt + 6).bmod (2 ^ 32) = _
    rw [Int.bmod_def]
    omega
  refine qm_Ru.go 1 (c' := (367, [.retAddr 0, .ref 0, .ref 118, .int i], [.ref 0], h)) rfl ?_
  rcases t with t | t
  · exact hk_inv (o := 0) (r := []) (as := [.ref 0]) rfl rfl (hH.1 0 (16, 10) rfl) rfl rfl rfl rfl (hs_read29 (d := 259) h6 hH t j2 (gS_ru j4.1) j4.1.2.2 (fun v h1 m t1 => fin v h1 m (Or.inl t1)) (fun v h1 m t1 => fin v h1 m (Or.inr t1)))
  · exact hk_inv (o := 0) (r := []) (as := [.ref 0]) rfl rfl (hH.1 0 (16, 10) rfl) rfl rfl rfl rfl (hs_read111 (d := 259) h6 hH t j2 (gS_ru j4.1) j4.1.2.2 (fun v h1 m t1 => fin v h1 m (Or.inr t1)) (fun v h1 m t1 => fin v h1 m (Or.inl t1)))
theorem qb_b1 {n : Nat} {q : qa_B} (h : qa_in q (xs (n + 1))) : ∀ c, c < 6 → qa_in ([qa_full, q].getD c qa_full) (xs (n + c))
  | 0, _ => qa_in_full _
  | 1, _ => h
  | _ + 2, _ => qa_in_full _
theorem qb_b2 {n : Nat} {q r : qa_B} (h : qa_in q (xs (n + 1))) (k : qa_in r (xs (n + 2))) : ∀ c, c < 6 → qa_in ([qa_full, q, r].getD c qa_full) (xs (n + c))
  | 0, _ => qa_in_full _
  | 1, _ => h
  | 2, _ => k
  | _ + 3, _ => qa_in_full _
theorem qv_48a (h6 : 6 ≤ L) (hl : L ≤ 3072) (i : Int32) (h : qm_H) (i0 : 0 ≤ i.toInt) (i1 : i.toInt + 5 < (L : Int)) (hI : qa_Inv qp_a2 gS2 h) (hE : qv_E L xs Z i qp_a2 gS2) : qm_Ru (some (L, xs)) 300 cd_law (qb_pc 48, qb_l i, [], h) Z := by
  have hL : qa_locK qp_a2 gS2 := qa_loc_K gS2_loc
  have hC : ∀ q ∈ qa_Ca2, qa_hc qp_a2 gS2 (some (L, xs)) q := qz_a2 h6
  have f1 := qa_in_full (xs (i.toInt.toNat + 1))
  have f2 := qa_in_full (xs (i.toInt.toNat + 2))
  by_cases a1 : (xs (i.toInt.toNat + 1)).toInt < 0
  · exact qb_hop (P := qp_a48a) hL hC qN_aa48 qS_aa48 hl i h i0 i1 (qb_b1 ⟨f1.1, by show _ ≤ (-1 : Int); omega⟩) hI hE
  · by_cases a2 : 500 < (xs (i.toInt.toNat + 1)).toInt
    · exact qb_hop (P := qp_a48b) hL hC qN_ab48 qS_ab48 hl i h i0 i1 (qb_b1 ⟨by show (501 : Int) ≤ _; omega, f1.2⟩) hI hE
    · have b : qa_in (0, 500) (xs (i.toInt.toNat + 1)) := ⟨by show (0 : Int) ≤ _; omega, by show _ ≤ (500 : Int); omega⟩
      by_cases a3 : (xs (i.toInt.toNat + 2)).toInt < 0
      · exact qb_hop (P := qp_a48c) hL hC qN_ac48 qS_ac48 hl i h i0 i1 (qb_b2 b ⟨f2.1, by show _ ≤ (-1 : Int); omega⟩) hI hE
      · by_cases a4 : 500 < (xs (i.toInt.toNat + 2)).toInt
        · exact qb_hop (P := qp_a48d) hL hC qN_ad48 qS_ad48 hl i h i0 i1 (qb_b2 b ⟨by show (501 : Int) ≤ _; omega, f2.2⟩) hI hE
        · exact qb_hop (P := qp_a48e) hL hC qN_ae48 qS_ae48 hl i h i0 i1 (qb_b2 b ⟨by show (0 : Int) ≤ _; omega, by show _ ≤ (500 : Int); omega⟩) hI hE
theorem qv_48b (h6 : 6 ≤ L) (hl : L ≤ 3072) (i : Int32) (h : qm_H) (i0 : 0 ≤ i.toInt) (i1 : i.toInt + 5 < (L : Int)) (hI : qa_Inv qp_b2 gS2 h) (hE : qv_E L xs Z i qp_b2 gS2) : qm_Ru (some (L, xs)) 300 cd_law (qb_pc 48, qb_l i, [], h) Z := by
  have hL : qa_locK qp_b2 gS2 := qa_loc_K gS2_loc
  have hC : ∀ q ∈ qa_Cb2, qa_hc qp_b2 gS2 (some (L, xs)) q := qz_b2 h6
  have f1 := qa_in_full (xs (i.toInt.toNat + 1))
  have f2 := qa_in_full (xs (i.toInt.toNat + 2))
  by_cases a1 : (xs (i.toInt.toNat + 1)).toInt < 0
  · exact qb_hop (P := qp_b48a) hL hC qN_ba48 qS_ba48 hl i h i0 i1 (qb_b1 ⟨f1.1, by show _ ≤ (-1 : Int); omega⟩) hI hE
  · by_cases a2 : 500 < (xs (i.toInt.toNat + 1)).toInt
    · exact qb_hop (P := qp_b48b) hL hC qN_bb48 qS_bb48 hl i h i0 i1 (qb_b1 ⟨by show (501 : Int) ≤ _; omega, f1.2⟩) hI hE
    · have b : qa_in (0, 500) (xs (i.toInt.toNat + 1)) := ⟨by show (0 : Int) ≤ _; omega, by show _ ≤ (500 : Int); omega⟩
      by_cases a3 : (xs (i.toInt.toNat + 2)).toInt < 0
      · exact qb_hop (P := qp_b48c) hL hC qN_bc48 qS_bc48 hl i h i0 i1 (qb_b2 b ⟨f2.1, by show _ ≤ (-1 : Int); omega⟩) hI hE
      · by_cases a4 : 500 < (xs (i.toInt.toNat + 2)).toInt
        · exact qb_hop (P := qp_b48d) hL hC qN_bd48 qS_bd48 hl i h i0 i1 (qb_b2 b ⟨by show (501 : Int) ≤ _; omega, f2.2⟩) hI hE
        · exact qb_hop (P := qp_b48e) hL hC qN_be48 qS_be48 hl i h i0 i1 (qb_b2 b ⟨by show (0 : Int) ≤ _; omega, by show _ ≤ (500 : Int); omega⟩) hI hE
theorem qv_48 (h6 : 6 ≤ L) (hl : L ≤ 3072) : qv_P L xs Z 48 := by
  intro i h i0 i1 hI hE
  rcases qv_out hI with hI | hI
  · exact qv_48a h6 hl i h i0 i1 hI (fun h x e k => hE h x e (qv_a k))
  · exact qv_48b h6 hl i h i0 i1 hI (fun h x e k => hE h x e (qv_b k))
end QV
