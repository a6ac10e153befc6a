/-! contracts of the reference by hand -/
theorem hs_true {L : Nat} {xs : Nat → Int32} {d : Nat} {Z : Option Value → qm_H → Prop} {h : qm_H} (h6 : 6 ≤ L) (hH : hk_H h) (hB : hk_B h.2.1) {l : Int32} (b_l : (0 : Int) ≤ l.toInt ∧ l.toInt ≤ 299) (hl : lit_ok h.2.1 l.toInt.toNat) (k : ∀ (v : Int32) (I : Nat → Nat → Int32) (J : Nat → Nat → Int64), (0 : Int) ≤ v.toInt ∧ v.toInt ≤ 1 → hk_B I → (∀ o, [145].contains o = false → ∀ i, I o i = h.2.1 o i) → Z (some (.int v)) (h.1, I, J, h.2.2.2)) : qm_Ru (some (L, xs)) (d + 40) cd_309 (qm_ent 5 [.ref 118, .int l] h) Z := by
  refine qm_Ru.go 0 (c' := (0, [.ref 118, .int l, .float 0, .float 0, .float 0], [], h)) rfl ?_
  obtain ⟨v1, q_v1⟩ : ∃ v, h.2.1 138 (l.toInt.toNat) = v := ⟨_, rfl⟩
  have b_v1 : (0 : Int) ≤ v1.toInt ∧ v1.toInt ≤ 840 := by rw [← q_v1]; exact hB 138 (l.toInt.toNat)
  obtain ⟨v2, q_v2⟩ : ∃ v, h.2.1 139 (l.toInt.toNat) = v := ⟨_, rfl⟩
  have b_v2 : (0 : Int) ≤ v2.toInt ∧ v2.toInt ≤ 840 := by rw [← q_v2]; exact hB 139 (l.toInt.toNat)
  obtain ⟨v3, q_v3⟩ : ∃ v, h.2.1 140 (l.toInt.toNat) = v := ⟨_, rfl⟩
  have b_v3 : (0 : Int) ≤ v3.toInt ∧ v3.toInt ≤ 840 := by rw [← q_v3]; exact hB 140 (l.toInt.toNat)
  obtain ⟨hl0, hl1, hl2⟩ := lit_at hl q_v1 q_v2 q_v3
  refine qm_Ru.go 2 (c' := (2, [.ref 118, .int l, .float 0, .float 0, .float 0], [.ref 118, .ref 118], h)) rfl ?_
  refine hk_getr rfl (hH.1 118 (17, 105) rfl) rfl (hH.2 118 34 (some 138) rfl) ?_
  refine qm_Ru.go 1 (c' := (6, [.ref 118, .int l, .float 0, .float 0, .float 0], [.int l, .ref 138, .ref 118], h)) rfl ?_
  refine hk_ial (v := v1) rfl (hH.1 138 (0, 300) rfl) (by omega) (by omega) q_v1 ?_
  refine qm_Ru.go 1 (c' := (8, [.ref 118, .int l, .float 0, .float 0, .float 0], [.ref 118, .int v1, .ref 118], h)) rfl ?_
  refine hk_getr rfl (hH.1 118 (17, 105) rfl) rfl (hH.2 118 35 (some 139) rfl) ?_
  refine qm_Ru.go 1 (c' := (12, [.ref 118, .int l, .float 0, .float 0, .float 0], [.int l, .ref 139, .int v1, .ref 118], h)) rfl ?_
  refine hk_ial (v := v2) rfl (hH.1 139 (0, 300) rfl) (by omega) (by omega) q_v2 ?_
  refine qm_Ru.go 0 (c' := (13, [.ref 118, .int l, .float 0, .float 0, .float 0], [.int v2, .int v1, .ref 118], h)) rfl ?_
  refine hk_inv (o := 118) (r := []) (as := [.ref 118, .int v1, .int v2]) rfl rfl (hH.1 118 (17, 105) rfl) rfl rfl rfl rfl (hs_term (h := h) h6 hH hB  (by omega) (show pf_seg (pI (h.2.1) 141) (pI (h.2.1) 142) v1.toInt.toNat v2.toInt.toNat from by rw [show pI (h.2.1) 141 = pI h.2.1 141 from rfl, show pI (h.2.1) 142 = pI h.2.1 142 from rfl]; exact hl1) (fun v6 I4 J5 hB_I4 e_I4 => ?_))
  refine qm_Ru.go 3 (c' := (19, [.ref 118, .int l, .int v6, .float 0, .float 0], [.ref 118, .ref 118], (h.1, I4, J5, h.2.2.2))) rfl ?_
  refine hk_getr rfl (hH.1 118 (17, 105) rfl) rfl (hH.2 118 35 (some 139) rfl) ?_
  refine qm_Ru.go 1 (c' := (23, [.ref 118, .int l, .int v6, .float 0, .float 0], [.int l, .ref 139, .ref 118], (h.1, I4, J5, h.2.2.2))) rfl ?_
  refine hk_ial (v := v2) rfl (hH.1 139 (0, 300) rfl) (by omega) (by omega) (show (I4) 139 (l.toInt.toNat) = _ from ((e_I4 139 rfl (l.toInt.toNat)).trans q_v2)) ?_
  refine qm_Ru.go 1 (c' := (25, [.ref 118, .int l, .int v6, .float 0, .float 0], [.ref 118, .int v2, .ref 118], (h.1, I4, J5, h.2.2.2))) rfl ?_
  refine hk_getr rfl (hH.1 118 (17, 105) rfl) rfl (hH.2 118 36 (some 140) rfl) ?_
  refine qm_Ru.go 1 (c' := (29, [.ref 118, .int l, .int v6, .float 0, .float 0], [.int l, .ref 140, .int v2, .ref 118], (h.1, I4, J5, h.2.2.2))) rfl ?_
  refine hk_ial (v := v3) rfl (hH.1 140 (0, 300) rfl) (by omega) (by omega) (show (I4) 140 (l.toInt.toNat) = _ from ((e_I4 140 rfl (l.toInt.toNat)).trans q_v3)) ?_
  refine qm_Ru.go 0 (c' := (30, [.ref 118, .int l, .int v6, .float 0, .float 0], [.int v3, .int v2, .ref 118], (h.1, I4, J5, h.2.2.2))) rfl ?_
  refine hk_inv (o := 118) (r := []) (as := [.ref 118, .int v2, .int v3]) rfl rfl (hH.1 118 (17, 105) rfl) rfl rfl rfl rfl (hs_term (h := (h.1, I4, J5, h.2.2.2)) h6 hH hB_I4  (by omega) (show pf_seg (pI (I4) 141) (pI (I4) 142) v2.toInt.toNat v3.toInt.toNat from by rw [show pI (I4) 141 = pI h.2.1 141 from ((funext fun i => congrArg Int32.toInt (e_I4 141 rfl i)).trans rfl), show pI (I4) 142 = pI h.2.1 142 from ((funext fun i => congrArg Int32.toInt (e_I4 142 rfl i)).trans rfl)]; exact hl2) (fun v9 I7 J8 hB_I7 e_I7 => ?_))
  refine qm_Ru.go 2 (c' := (35, [.ref 118, .int l, .int v6, .int v9, .float 0], [.ref 118], (h.1, I7, J8, h.2.2.2))) rfl ?_
  refine hk_getr rfl (hH.1 118 (17, 105) rfl) rfl (hH.2 118 31 (some 135) rfl) ?_
  refine qm_Ru.go 1 (c' := (39, [.ref 118, .int l, .int v6, .int v9, .float 0], [.int l, .ref 135], (h.1, I7, J8, h.2.2.2))) rfl ?_
  obtain ⟨v10, q_v10⟩ : ∃ v, h.2.1 135 (l.toInt.toNat) = v := ⟨_, rfl⟩
  have b_v10 : (0 : Int) ≤ v10.toInt ∧ v10.toInt ≤ 3 := by rw [← q_v10]; exact hB 135 (l.toInt.toNat)
  refine hk_ial (v := v10) rfl (hH.1 135 (0, 300) rfl) (by omega) (by omega) (show (I7) 135 (l.toInt.toNat) = _ from ((e_I7 135 rfl (l.toInt.toNat)).trans ((e_I4 135 rfl (l.toInt.toNat)).trans q_v10))) ?_
  refine qm_Ru.go 0 (c' := (40, [.ref 118, .int l, .int v6, .int v9, .float 0], [.int v10], (h.1, I7, J8, h.2.2.2))) rfl ?_
  refine hk_zne (ix := v10.toInt) rfl rfl (fun z11 => ?_) (fun z11 => ?_)
  · refine qm_Ru.go 1 (c' := (57, [.ref 118, .int l, .int v6, .int v9, .float 0], [.ref 118], (h.1, I7, J8, h.2.2.2))) rfl ?_
    refine hk_getr rfl (hH.1 118 (17, 105) rfl) rfl (hH.2 118 31 (some 135) rfl) ?_
    refine qm_Ru.go 1 (c' := (61, [.ref 118, .int l, .int v6, .int v9, .float 0], [.int l, .ref 135], (h.1, I7, J8, h.2.2.2))) rfl ?_
    refine hk_ial (v := v10) rfl (hH.1 135 (0, 300) rfl) (by omega) (by omega) (show (I7) 135 (l.toInt.toNat) = _ from ((e_I7 135 rfl (l.toInt.toNat)).trans ((e_I4 135 rfl (l.toInt.toNat)).trans q_v10))) ?_
    refine qm_Ru.go 1 (c' := (63, [.ref 118, .int l, .int v6, .int v9, .float 0], [.int 1, .int v10], (h.1, I7, J8, h.2.2.2))) rfl ?_
    refine hk_cne (ix := v10.toInt) (iy := 1) rfl rfl rfl (fun z12 => ?_) (fun z12 => ?_)
    · refine qm_Ru.go 1 (c' := (80, [.ref 118, .int l, .int v6, .int v9, .float 0], [.ref 118], (h.1, I7, J8, h.2.2.2))) rfl ?_
      refine hk_getr rfl (hH.1 118 (17, 105) rfl) rfl (hH.2 118 31 (some 135) rfl) ?_
      refine qm_Ru.go 1 (c' := (84, [.ref 118, .int l, .int v6, .int v9, .float 0], [.int l, .ref 135], (h.1, I7, J8, h.2.2.2))) rfl ?_
      refine hk_ial (v := v10) rfl (hH.1 135 (0, 300) rfl) (by omega) (by omega) (show (I7) 135 (l.toInt.toNat) = _ from ((e_I7 135 rfl (l.toInt.toNat)).trans ((e_I4 135 rfl (l.toInt.toNat)).trans q_v10))) ?_
      refine qm_Ru.go 1 (c' := (86, [.ref 118, .int l, .int v6, .int v9, .float 0], [.int 2, .int v10], (h.1, I7, J8, h.2.2.2))) rfl ?_
      refine hk_cne (ix := v10.toInt) (iy := 2) rfl rfl rfl (fun z13 => ?_) (fun z13 => ?_)
      · refine qm_Ru.go 2 (c' := (104, [.ref 118, .int l, .int v6, .int v9, .float 0], [.int v9, .int v6], (h.1, I7, J8, h.2.2.2))) rfl ?_
        refine hk_cgt (ix := v6.toInt) (iy := v9.toInt) rfl rfl rfl (fun z14 => ?_) (fun z14 => ?_)
        · refine qm_Ru.go 4 (c' := (117, [.ref 118, .int l, .int v6, .int v9, .int 0], [.ref 118, .int 0], (h.1, I7, J8, h.2.2.2))) rfl ?_
          refine hk_getr rfl (hH.1 118 (17, 105) rfl) rfl (hH.2 118 32 (some 136) rfl) ?_
          refine qm_Ru.go 1 (c' := (121, [.ref 118, .int l, .int v6, .int v9, .int 0], [.int l, .ref 136, .int 0], (h.1, I7, J8, h.2.2.2))) rfl ?_
          obtain ⟨v15, q_v15⟩ : ∃ v, h.2.1 136 (l.toInt.toNat) = v := ⟨_, rfl⟩
          have b_v15 : (0 : Int) ≤ v15.toInt ∧ v15.toInt ≤ 1 := by rw [← q_v15]; exact hB 136 (l.toInt.toNat)
          refine hk_bal (v := v15) rfl (hH.1 136 (2, 300) rfl) (by decide) (by omega) (by omega) (show (I7) 136 (l.toInt.toNat) = _ from ((e_I7 136 rfl (l.toInt.toNat)).trans ((e_I4 136 rfl (l.toInt.toNat)).trans q_v15))) ?_
          refine qm_Ru.go 0 (c' := (122, [.ref 118, .int l, .int v6, .int v9, .int 0], [.int v15, .int 0], (h.1, I7, J8, h.2.2.2))) rfl ?_
          refine hk_ceq (ix := 0) (iy := v15.toInt) rfl rfl rfl (fun z16 => ?_) (fun z16 => ?_)
          · refine qm_Ru.go 1 (c' := (130, [.ref 118, .int l, .int v6, .int v9, .int 0], [.int 0], (h.1, I7, J8, h.2.2.2))) rfl ?_
            refine qm_Ru.rt (v := (some (.int 0))) (h' := (h.1, I7, J8, h.2.2.2)) rfl ?_
            exact k 0 (I7) (J8) (by decide) hB_I7 (fun o ho i => ((e_I7 o (hk_ms rfl ho) i).trans ((e_I4 o (hk_ms rfl ho) i).trans rfl)))
          · refine qm_Ru.go 2 (c' := (130, [.ref 118, .int l, .int v6, .int v9, .int 0], [.int 1], (h.1, I7, J8, h.2.2.2))) rfl ?_
            refine qm_Ru.rt (v := (some (.int 1))) (h' := (h.1, I7, J8, h.2.2.2)) rfl ?_
            exact k 1 (I7) (J8) (by decide) hB_I7 (fun o ho i => ((e_I7 o (hk_ms rfl ho) i).trans ((e_I4 o (hk_ms rfl ho) i).trans rfl)))
        · refine qm_Ru.go 5 (c' := (117, [.ref 118, .int l, .int v6, .int v9, .int 1], [.ref 118, .int 1], (h.1, I7, J8, h.2.2.2))) rfl ?_
          refine hk_getr rfl (hH.1 118 (17, 105) rfl) rfl (hH.2 118 32 (some 136) rfl) ?_
          refine qm_Ru.go 1 (c' := (121, [.ref 118, .int l, .int v6, .int v9, .int 1], [.int l, .ref 136, .int 1], (h.1, I7, J8, h.2.2.2))) rfl ?_
          obtain ⟨v17, q_v17⟩ : ∃ v, h.2.1 136 (l.toInt.toNat) = v := ⟨_, rfl⟩
          have b_v17 : (0 : Int) ≤ v17.toInt ∧ v17.toInt ≤ 1 := by rw [← q_v17]; exact hB 136 (l.toInt.toNat)
          refine hk_bal (v := v17) rfl (hH.1 136 (2, 300) rfl) (by decide) (by omega) (by omega) (show (I7) 136 (l.toInt.toNat) = _ from ((e_I7 136 rfl (l.toInt.toNat)).trans ((e_I4 136 rfl (l.toInt.toNat)).trans q_v17))) ?_
          refine qm_Ru.go 0 (c' := (122, [.ref 118, .int l, .int v6, .int v9, .int 1], [.int v17, .int 1], (h.1, I7, J8, h.2.2.2))) rfl ?_
          refine hk_ceq (ix := 1) (iy := v17.toInt) rfl rfl rfl (fun z18 => ?_) (fun z18 => ?_)
          · refine qm_Ru.go 1 (c' := (130, [.ref 118, .int l, .int v6, .int v9, .int 1], [.int 0], (h.1, I7, J8, h.2.2.2))) rfl ?_
            refine qm_Ru.rt (v := (some (.int 0))) (h' := (h.1, I7, J8, h.2.2.2)) rfl ?_
            exact k 0 (I7) (J8) (by decide) hB_I7 (fun o ho i => ((e_I7 o (hk_ms rfl ho) i).trans ((e_I4 o (hk_ms rfl ho) i).trans rfl)))
          · refine qm_Ru.go 2 (c' := (130, [.ref 118, .int l, .int v6, .int v9, .int 1], [.int 1], (h.1, I7, J8, h.2.2.2))) rfl ?_
            refine qm_Ru.rt (v := (some (.int 1))) (h' := (h.1, I7, J8, h.2.2.2)) rfl ?_
            exact k 1 (I7) (J8) (by decide) hB_I7 (fun o ho i => ((e_I7 o (hk_ms rfl ho) i).trans ((e_I4 o (hk_ms rfl ho) i).trans rfl)))
      · refine qm_Ru.go 2 (c' := (91, [.ref 118, .int l, .int v6, .int v9, .float 0], [.int v9, .int v6], (h.1, I7, J8, h.2.2.2))) rfl ?_
        refine hk_cge (ix := v6.toInt) (iy := v9.toInt) rfl rfl rfl (fun z19 => ?_) (fun z19 => ?_)
        · refine qm_Ru.go 5 (c' := (117, [.ref 118, .int l, .int v6, .int v9, .int 0], [.ref 118, .int 0], (h.1, I7, J8, h.2.2.2))) rfl ?_
          refine hk_getr rfl (hH.1 118 (17, 105) rfl) rfl (hH.2 118 32 (some 136) rfl) ?_
          refine qm_Ru.go 1 (c' := (121, [.ref 118, .int l, .int v6, .int v9, .int 0], [.int l, .ref 136, .int 0], (h.1, I7, J8, h.2.2.2))) rfl ?_
          obtain ⟨v20, q_v20⟩ : ∃ v, h.2.1 136 (l.toInt.toNat) = v := ⟨_, rfl⟩
          have b_v20 : (0 : Int) ≤ v20.toInt ∧ v20.toInt ≤ 1 := by rw [← q_v20]; exact hB 136 (l.toInt.toNat)
          refine hk_bal (v := v20) rfl (hH.1 136 (2, 300) rfl) (by decide) (by omega) (by omega) (show (I7) 136 (l.toInt.toNat) = _ from ((e_I7 136 rfl (l.toInt.toNat)).trans ((e_I4 136 rfl (l.toInt.toNat)).trans q_v20))) ?_
          refine qm_Ru.go 0 (c' := (122, [.ref 118, .int l, .int v6, .int v9, .int 0], [.int v20, .int 0], (h.1, I7, J8, h.2.2.2))) rfl ?_
          refine hk_ceq (ix := 0) (iy := v20.toInt) rfl rfl rfl (fun z21 => ?_) (fun z21 => ?_)
          · refine qm_Ru.go 1 (c' := (130, [.ref 118, .int l, .int v6, .int v9, .int 0], [.int 0], (h.1, I7, J8, h.2.2.2))) rfl ?_
            refine qm_Ru.rt (v := (some (.int 0))) (h' := (h.1, I7, J8, h.2.2.2)) rfl ?_
            exact k 0 (I7) (J8) (by decide) hB_I7 (fun o ho i => ((e_I7 o (hk_ms rfl ho) i).trans ((e_I4 o (hk_ms rfl ho) i).trans rfl)))
          · refine qm_Ru.go 2 (c' := (130, [.ref 118, .int l, .int v6, .int v9, .int 0], [.int 1], (h.1, I7, J8, h.2.2.2))) rfl ?_
            refine qm_Ru.rt (v := (some (.int 1))) (h' := (h.1, I7, J8, h.2.2.2)) rfl ?_
            exact k 1 (I7) (J8) (by decide) hB_I7 (fun o ho i => ((e_I7 o (hk_ms rfl ho) i).trans ((e_I4 o (hk_ms rfl ho) i).trans rfl)))
        · refine qm_Ru.go 5 (c' := (117, [.ref 118, .int l, .int v6, .int v9, .int 1], [.ref 118, .int 1], (h.1, I7, J8, h.2.2.2))) rfl ?_
          refine hk_getr rfl (hH.1 118 (17, 105) rfl) rfl (hH.2 118 32 (some 136) rfl) ?_
          refine qm_Ru.go 1 (c' := (121, [.ref 118, .int l, .int v6, .int v9, .int 1], [.int l, .ref 136, .int 1], (h.1, I7, J8, h.2.2.2))) rfl ?_
          obtain ⟨v22, q_v22⟩ : ∃ v, h.2.1 136 (l.toInt.toNat) = v := ⟨_, rfl⟩
          have b_v22 : (0 : Int) ≤ v22.toInt ∧ v22.toInt ≤ 1 := by rw [← q_v22]; exact hB 136 (l.toInt.toNat)
          refine hk_bal (v := v22) rfl (hH.1 136 (2, 300) rfl) (by decide) (by omega) (by omega) (show (I7) 136 (l.toInt.toNat) = _ from ((e_I7 136 rfl (l.toInt.toNat)).trans ((e_I4 136 rfl (l.toInt.toNat)).trans q_v22))) ?_
          refine qm_Ru.go 0 (c' := (122, [.ref 118, .int l, .int v6, .int v9, .int 1], [.int v22, .int 1], (h.1, I7, J8, h.2.2.2))) rfl ?_
          refine hk_ceq (ix := 1) (iy := v22.toInt) rfl rfl rfl (fun z23 => ?_) (fun z23 => ?_)
          · refine qm_Ru.go 1 (c' := (130, [.ref 118, .int l, .int v6, .int v9, .int 1], [.int 0], (h.1, I7, J8, h.2.2.2))) rfl ?_
            refine qm_Ru.rt (v := (some (.int 0))) (h' := (h.1, I7, J8, h.2.2.2)) rfl ?_
            exact k 0 (I7) (J8) (by decide) hB_I7 (fun o ho i => ((e_I7 o (hk_ms rfl ho) i).trans ((e_I4 o (hk_ms rfl ho) i).trans rfl)))
          · refine qm_Ru.go 2 (c' := (130, [.ref 118, .int l, .int v6, .int v9, .int 1], [.int 1], (h.1, I7, J8, h.2.2.2))) rfl ?_
            refine qm_Ru.rt (v := (some (.int 1))) (h' := (h.1, I7, J8, h.2.2.2)) rfl ?_
            exact k 1 (I7) (J8) (by decide) hB_I7 (fun o ho i => ((e_I7 o (hk_ms rfl ho) i).trans ((e_I4 o (hk_ms rfl ho) i).trans rfl)))
    · refine qm_Ru.go 2 (c' := (68, [.ref 118, .int l, .int v6, .int v9, .float 0], [.int v9, .int v6], (h.1, I7, J8, h.2.2.2))) rfl ?_
      refine hk_ceq (ix := v6.toInt) (iy := v9.toInt) rfl rfl rfl (fun z24 => ?_) (fun z24 => ?_)
      · refine qm_Ru.go 5 (c' := (117, [.ref 118, .int l, .int v6, .int v9, .int 0], [.ref 118, .int 0], (h.1, I7, J8, h.2.2.2))) rfl ?_
        refine hk_getr rfl (hH.1 118 (17, 105) rfl) rfl (hH.2 118 32 (some 136) rfl) ?_
        refine qm_Ru.go 1 (c' := (121, [.ref 118, .int l, .int v6, .int v9, .int 0], [.int l, .ref 136, .int 0], (h.1, I7, J8, h.2.2.2))) rfl ?_
        obtain ⟨v25, q_v25⟩ : ∃ v, h.2.1 136 (l.toInt.toNat) = v := ⟨_, rfl⟩
        have b_v25 : (0 : Int) ≤ v25.toInt ∧ v25.toInt ≤ 1 := by rw [← q_v25]; exact hB 136 (l.toInt.toNat)
        refine hk_bal (v := v25) rfl (hH.1 136 (2, 300) rfl) (by decide) (by omega) (by omega) (show (I7) 136 (l.toInt.toNat) = _ from ((e_I7 136 rfl (l.toInt.toNat)).trans ((e_I4 136 rfl (l.toInt.toNat)).trans q_v25))) ?_
        refine qm_Ru.go 0 (c' := (122, [.ref 118, .int l, .int v6, .int v9, .int 0], [.int v25, .int 0], (h.1, I7, J8, h.2.2.2))) rfl ?_
        refine hk_ceq (ix := 0) (iy := v25.toInt) rfl rfl rfl (fun z26 => ?_) (fun z26 => ?_)
        · refine qm_Ru.go 1 (c' := (130, [.ref 118, .int l, .int v6, .int v9, .int 0], [.int 0], (h.1, I7, J8, h.2.2.2))) rfl ?_
          refine qm_Ru.rt (v := (some (.int 0))) (h' := (h.1, I7, J8, h.2.2.2)) rfl ?_
          exact k 0 (I7) (J8) (by decide) hB_I7 (fun o ho i => ((e_I7 o (hk_ms rfl ho) i).trans ((e_I4 o (hk_ms rfl ho) i).trans rfl)))
        · refine qm_Ru.go 2 (c' := (130, [.ref 118, .int l, .int v6, .int v9, .int 0], [.int 1], (h.1, I7, J8, h.2.2.2))) rfl ?_
          refine qm_Ru.rt (v := (some (.int 1))) (h' := (h.1, I7, J8, h.2.2.2)) rfl ?_
          exact k 1 (I7) (J8) (by decide) hB_I7 (fun o ho i => ((e_I7 o (hk_ms rfl ho) i).trans ((e_I4 o (hk_ms rfl ho) i).trans rfl)))
      · refine qm_Ru.go 5 (c' := (117, [.ref 118, .int l, .int v6, .int v9, .int 1], [.ref 118, .int 1], (h.1, I7, J8, h.2.2.2))) rfl ?_
        refine hk_getr rfl (hH.1 118 (17, 105) rfl) rfl (hH.2 118 32 (some 136) rfl) ?_
        refine qm_Ru.go 1 (c' := (121, [.ref 118, .int l, .int v6, .int v9, .int 1], [.int l, .ref 136, .int 1], (h.1, I7, J8, h.2.2.2))) rfl ?_
        obtain ⟨v27, q_v27⟩ : ∃ v, h.2.1 136 (l.toInt.toNat) = v := ⟨_, rfl⟩
        have b_v27 : (0 : Int) ≤ v27.toInt ∧ v27.toInt ≤ 1 := by rw [← q_v27]; exact hB 136 (l.toInt.toNat)
        refine hk_bal (v := v27) rfl (hH.1 136 (2, 300) rfl) (by decide) (by omega) (by omega) (show (I7) 136 (l.toInt.toNat) = _ from ((e_I7 136 rfl (l.toInt.toNat)).trans ((e_I4 136 rfl (l.toInt.toNat)).trans q_v27))) ?_
        refine qm_Ru.go 0 (c' := (122, [.ref 118, .int l, .int v6, .int v9, .int 1], [.int v27, .int 1], (h.1, I7, J8, h.2.2.2))) rfl ?_
        refine hk_ceq (ix := 1) (iy := v27.toInt) rfl rfl rfl (fun z28 => ?_) (fun z28 => ?_)
        · refine qm_Ru.go 1 (c' := (130, [.ref 118, .int l, .int v6, .int v9, .int 1], [.int 0], (h.1, I7, J8, h.2.2.2))) rfl ?_
          refine qm_Ru.rt (v := (some (.int 0))) (h' := (h.1, I7, J8, h.2.2.2)) rfl ?_
          exact k 0 (I7) (J8) (by decide) hB_I7 (fun o ho i => ((e_I7 o (hk_ms rfl ho) i).trans ((e_I4 o (hk_ms rfl ho) i).trans rfl)))
        · refine qm_Ru.go 2 (c' := (130, [.ref 118, .int l, .int v6, .int v9, .int 1], [.int 1], (h.1, I7, J8, h.2.2.2))) rfl ?_
          refine qm_Ru.rt (v := (some (.int 1))) (h' := (h.1, I7, J8, h.2.2.2)) rfl ?_
          exact k 1 (I7) (J8) (by decide) hB_I7 (fun o ho i => ((e_I7 o (hk_ms rfl ho) i).trans ((e_I4 o (hk_ms rfl ho) i).trans rfl)))
  · refine qm_Ru.go 2 (c' := (45, [.ref 118, .int l, .int v6, .int v9, .float 0], [.int v9, .int v6], (h.1, I7, J8, h.2.2.2))) rfl ?_
    refine hk_cne (ix := v6.toInt) (iy := v9.toInt) rfl rfl rfl (fun z29 => ?_) (fun z29 => ?_)
    · refine qm_Ru.go 5 (c' := (117, [.ref 118, .int l, .int v6, .int v9, .int 0], [.ref 118, .int 0], (h.1, I7, J8, h.2.2.2))) rfl ?_
      refine hk_getr rfl (hH.1 118 (17, 105) rfl) rfl (hH.2 118 32 (some 136) rfl) ?_
      refine qm_Ru.go 1 (c' := (121, [.ref 118, .int l, .int v6, .int v9, .int 0], [.int l, .ref 136, .int 0], (h.1, I7, J8, h.2.2.2))) rfl ?_
      obtain ⟨v30, q_v30⟩ : ∃ v, h.2.1 136 (l.toInt.toNat) = v := ⟨_, rfl⟩
      have b_v30 : (0 : Int) ≤ v30.toInt ∧ v30.toInt ≤ 1 := by rw [← q_v30]; exact hB 136 (l.toInt.toNat)
      refine hk_bal (v := v30) rfl (hH.1 136 (2, 300) rfl) (by decide) (by omega) (by omega) (show (I7) 136 (l.toInt.toNat) = _ from ((e_I7 136 rfl (l.toInt.toNat)).trans ((e_I4 136 rfl (l.toInt.toNat)).trans q_v30))) ?_
      refine qm_Ru.go 0 (c' := (122, [.ref 118, .int l, .int v6, .int v9, .int 0], [.int v30, .int 0], (h.1, I7, J8, h.2.2.2))) rfl ?_
      refine hk_ceq (ix := 0) (iy := v30.toInt) rfl rfl rfl (fun z31 => ?_) (fun z31 => ?_)
      · refine qm_Ru.go 1 (c' := (130, [.ref 118, .int l, .int v6, .int v9, .int 0], [.int 0], (h.1, I7, J8, h.2.2.2))) rfl ?_
        refine qm_Ru.rt (v := (some (.int 0))) (h' := (h.1, I7, J8, h.2.2.2)) rfl ?_
        exact k 0 (I7) (J8) (by decide) hB_I7 (fun o ho i => ((e_I7 o (hk_ms rfl ho) i).trans ((e_I4 o (hk_ms rfl ho) i).trans rfl)))
      · refine qm_Ru.go 2 (c' := (130, [.ref 118, .int l, .int v6, .int v9, .int 0], [.int 1], (h.1, I7, J8, h.2.2.2))) rfl ?_
        refine qm_Ru.rt (v := (some (.int 1))) (h' := (h.1, I7, J8, h.2.2.2)) rfl ?_
        exact k 1 (I7) (J8) (by decide) hB_I7 (fun o ho i => ((e_I7 o (hk_ms rfl ho) i).trans ((e_I4 o (hk_ms rfl ho) i).trans rfl)))
    · refine qm_Ru.go 5 (c' := (117, [.ref 118, .int l, .int v6, .int v9, .int 1], [.ref 118, .int 1], (h.1, I7, J8, h.2.2.2))) rfl ?_
      refine hk_getr rfl (hH.1 118 (17, 105) rfl) rfl (hH.2 118 32 (some 136) rfl) ?_
      refine qm_Ru.go 1 (c' := (121, [.ref 118, .int l, .int v6, .int v9, .int 1], [.int l, .ref 136, .int 1], (h.1, I7, J8, h.2.2.2))) rfl ?_
      obtain ⟨v32, q_v32⟩ : ∃ v, h.2.1 136 (l.toInt.toNat) = v := ⟨_, rfl⟩
      have b_v32 : (0 : Int) ≤ v32.toInt ∧ v32.toInt ≤ 1 := by rw [← q_v32]; exact hB 136 (l.toInt.toNat)
      refine hk_bal (v := v32) rfl (hH.1 136 (2, 300) rfl) (by decide) (by omega) (by omega) (show (I7) 136 (l.toInt.toNat) = _ from ((e_I7 136 rfl (l.toInt.toNat)).trans ((e_I4 136 rfl (l.toInt.toNat)).trans q_v32))) ?_
      refine qm_Ru.go 0 (c' := (122, [.ref 118, .int l, .int v6, .int v9, .int 1], [.int v32, .int 1], (h.1, I7, J8, h.2.2.2))) rfl ?_
      refine hk_ceq (ix := 1) (iy := v32.toInt) rfl rfl rfl (fun z33 => ?_) (fun z33 => ?_)
      · refine qm_Ru.go 1 (c' := (130, [.ref 118, .int l, .int v6, .int v9, .int 1], [.int 0], (h.1, I7, J8, h.2.2.2))) rfl ?_
        refine qm_Ru.rt (v := (some (.int 0))) (h' := (h.1, I7, J8, h.2.2.2)) rfl ?_
        exact k 0 (I7) (J8) (by decide) hB_I7 (fun o ho i => ((e_I7 o (hk_ms rfl ho) i).trans ((e_I4 o (hk_ms rfl ho) i).trans rfl)))
      · refine qm_Ru.go 2 (c' := (130, [.ref 118, .int l, .int v6, .int v9, .int 1], [.int 1], (h.1, I7, J8, h.2.2.2))) rfl ?_
        refine qm_Ru.rt (v := (some (.int 1))) (h' := (h.1, I7, J8, h.2.2.2)) rfl ?_
        exact k 1 (I7) (J8) (by decide) hB_I7 (fun o ho i => ((e_I7 o (hk_ms rfl ho) i).trans ((e_I4 o (hk_ms rfl ho) i).trans rfl)))
theorem hl_holds {L : Nat} {xs : Nat → Int32} {d : Nat} {Z : Option Value → qm_H → Prop} {h : qm_H} (h6 : 6 ≤ L) (hH : hk_H h) (hB : hk_B h.2.1) {r : Int32} (b_r : (0 : Int) ≤ r.toInt ∧ r.toInt ≤ 31) (hr : rule_ok h.2.1 r.toInt.toNat) (k : ∀ (v : Int32) (I : Nat → Nat → Int32) (J : Nat → Nat → Int64), (0 : Int) ≤ v.toInt ∧ v.toInt ≤ 1 → hk_B I → (∀ o, [145].contains o = false → ∀ i, I o i = h.2.1 o i) → Z (some (.int v)) (h.1, I, J, h.2.2.2)) : ∀ (m : Nat) (I : Nat → Nat → Int32) (J : Nat → Nat → Int64) (l : Int32) (al : Int32), hk_B I → (∀ o, [145].contains o = false → ∀ i, I o i = h.2.1 o i) → (pI h.2.1 133 (r.toInt.toNat) ≤ l.toInt) → (l.toInt ≤ 300) → ((0 : Int) ≤ al.toInt ∧ al.toInt ≤ 1) → (300 - l.toInt).toNat = m → qm_Ru (some (L, xs)) (d + 50) cd_308 (9, [.ref 118, .int r, .int al, .int l], [], (h.1, I, J, h.2.2.2)) Z := by
  intro m
  induction m using Nat.strongRecOn with
  | ind m ih =>
    intro I J l al hBI e hl hl3 ha hm
    refine qm_Ru.go 1 (c' := (10, [.ref 118, .int r, .int al, .int l], [.int l], (h.1, I, J, h.2.2.2))) rfl ?_
    obtain ⟨v1, q_v1⟩ : ∃ v, h.2.1 133 (r.toInt.toNat) = v := ⟨_, rfl⟩
    have b_v1 : (0 : Int) ≤ v1.toInt ∧ v1.toInt ≤ 300 := by rw [← q_v1]; exact hB 133 (r.toInt.toNat)
    obtain ⟨v2, q_v2⟩ : ∃ v, h.2.1 134 (r.toInt.toNat) = v := ⟨_, rfl⟩
    have b_v2 : (0 : Int) ≤ v2.toInt ∧ v2.toInt ≤ 300 := by rw [← q_v2]; exact hB 134 (r.toInt.toNat)
    have hr : ∀ l : Nat, v1.toInt ≤ (l : Int) → (l : Int) < v2.toInt → lit_ok h.2.1 l := by rw [← q_v1, ← q_v2]; exact fun l a b => (hr l a b).1
    have hl : v1.toInt ≤ l.toInt := by rw [← q_v1]; exact hl
    refine qm_Ru.go 1 (c' := (11, [.ref 118, .int r, .int al, .int l], [.ref 118, .int l], (h.1, I, J, h.2.2.2))) rfl ?_
    refine hk_getr rfl (hH.1 118 (17, 105) rfl) rfl (hH.2 118 29 (some 134) rfl) ?_
    refine qm_Ru.go 1 (c' := (15, [.ref 118, .int r, .int al, .int l], [.int r, .ref 134, .int l], (h.1, I, J, h.2.2.2))) rfl ?_
    refine hk_ial (v := v2) rfl (hH.1 134 (0, 32) rfl) (by omega) (by omega) (show (I) 134 (r.toInt.toNat) = _ from ((e 134 rfl (r.toInt.toNat)).trans q_v2)) ?_
    refine qm_Ru.go 0 (c' := (16, [.ref 118, .int r, .int al, .int l], [.int v2, .int l], (h.1, I, J, h.2.2.2))) rfl ?_
    refine hk_cge (ix := l.toInt) (iy := v2.toInt) rfl rfl rfl (fun z3 => ?_) (fun z3 => ?_)
    · refine qm_Ru.go 1 (c' := (70, [.ref 118, .int r, .int al, .int l], [.int al], (h.1, I, J, h.2.2.2))) rfl ?_
      refine hk_rtb rfl (by omega) ?_
      exact k al (I) (J) (by omega) hBI (fun o ho i => (e o ho i))
    · refine qm_Ru.go 1 (c' := (20, [.ref 118, .int r, .int al, .int l], [.ref 118], (h.1, I, J, h.2.2.2))) rfl ?_
      refine hk_getr rfl (hH.1 118 (17, 105) rfl) rfl (hH.2 118 33 (some 137) rfl) ?_
      refine qm_Ru.go 1 (c' := (24, [.ref 118, .int r, .int al, .int l], [.int l, .ref 137], (h.1, I, J, h.2.2.2))) rfl ?_
      obtain ⟨v4, q_v4⟩ : ∃ v, h.2.1 137 (l.toInt.toNat) = v := ⟨_, rfl⟩
      have b_v4 : (0 : Int) ≤ v4.toInt ∧ v4.toInt ≤ 1 := by rw [← q_v4]; exact hB 137 (l.toInt.toNat)
      refine hk_bal (v := v4) rfl (hH.1 137 (2, 300) rfl) (by decide) (by omega) (by omega) (show (I) 137 (l.toInt.toNat) = _ from ((e 137 rfl (l.toInt.toNat)).trans q_v4)) ?_
      refine qm_Ru.go 0 (c' := (25, [.ref 118, .int r, .int al, .int l], [.int v4], (h.1, I, J, h.2.2.2))) rfl ?_
      refine hk_zeq (ix := v4.toInt) rfl rfl (fun z5 => ?_) (fun z5 => ?_)
      · refine qm_Ru.go 1 (c' := (35, [.ref 118, .int r, .int al, .int l], [.ref 118], (h.1, I, J, h.2.2.2))) rfl ?_
        refine hk_getr rfl (hH.1 118 (17, 105) rfl) rfl (hH.2 118 33 (some 137) rfl) ?_
        refine qm_Ru.go 1 (c' := (39, [.ref 118, .int r, .int al, .int l], [.int l, .ref 137], (h.1, I, J, h.2.2.2))) rfl ?_
        refine hk_bal (v := v4) rfl (hH.1 137 (2, 300) rfl) (by decide) (by omega) (by omega) (show (I) 137 (l.toInt.toNat) = _ from ((e 137 rfl (l.toInt.toNat)).trans q_v4)) ?_
        refine qm_Ru.go 0 (c' := (40, [.ref 118, .int r, .int al, .int l], [.int v4], (h.1, I, J, h.2.2.2))) rfl ?_
        refine hk_zeq (ix := v4.toInt) rfl rfl (fun z6 => ?_) (fun z6 => by exfalso; omega)
        refine qm_Ru.go 1 (c' := (46, [.ref 118, .int r, .int al, .int l], [.int al], (h.1, I, J, h.2.2.2))) rfl ?_
        refine hk_zeq (ix := al.toInt) rfl rfl (fun z7 => ?_) (fun z7 => ?_)
        · refine qm_Ru.go 3 (c' := (66, [.ref 118, .int r, .int 0, .int (l + 1)], [], (h.1, I, J, h.2.2.2))) rfl ?_
          obtain ⟨v8, q_v8, e_v8⟩ := hk_add (x := l) (y := 1) (a := l.toInt) (b := 1) rfl rfl (by omega) (by omega)
          rw [q_v8]
          refine qm_Ru.go 1 (c' := (9, [.ref 118, .int r, .int 0, .int v8], [], (h.1, I, J, h.2.2.2))) rfl ?_
          exact ih _ (by omega) (I) (J) v8 0 hBI (fun o ho i => (e o ho i)) (by show (h.2.1 133 (r.toInt.toNat)).toInt ≤ _; rw [q_v1]; omega) (by omega) (by decide) rfl
        · refine qm_Ru.go 2 (c' := (51, [.ref 118, .int r, .int al, .int l], [.int l, .ref 118], (h.1, I, J, h.2.2.2))) rfl ?_
          refine hk_inv (o := 118) (r := []) (as := [.ref 118, .int l]) rfl rfl (hH.1 118 (17, 105) rfl) rfl rfl rfl rfl (hs_true (h := (h.1, I, J, h.2.2.2)) h6 hH hBI (by omega) (by have g := hr l.toInt.toNat (by omega) (by omega); unfold lit_ok at g ⊢; rw [show pI (I) 138 = pI h.2.1 138 from ((funext fun i => congrArg Int32.toInt (e 138 rfl i)).trans rfl), show pI (I) 139 = pI h.2.1 139 from ((funext fun i => congrArg Int32.toInt (e 139 rfl i)).trans rfl), show pI (I) 140 = pI h.2.1 140 from ((funext fun i => congrArg Int32.toInt (e 140 rfl i)).trans rfl), show pI (I) 141 = pI h.2.1 141 from ((funext fun i => congrArg Int32.toInt (e 141 rfl i)).trans rfl), show pI (I) 142 = pI h.2.1 142 from ((funext fun i => congrArg Int32.toInt (e 142 rfl i)).trans rfl)]; exact g) (fun v11 I9 J10 b_v11 hB_I9 e_I9 => ?_))
          refine qm_Ru.go 0 (c' := (54, [.ref 118, .int r, .int al, .int l], [.int v11], (h.1, I9, J10, h.2.2.2))) rfl ?_
          refine hk_zeq (ix := v11.toInt) rfl rfl (fun z12 => ?_) (fun z12 => ?_)
          · refine qm_Ru.go 3 (c' := (66, [.ref 118, .int r, .int 0, .int (l + 1)], [], (h.1, I9, J10, h.2.2.2))) rfl ?_
            obtain ⟨v13, q_v13, e_v13⟩ := hk_add (x := l) (y := 1) (a := l.toInt) (b := 1) rfl rfl (by omega) (by omega)
            rw [q_v13]
            refine qm_Ru.go 1 (c' := (9, [.ref 118, .int r, .int 0, .int v13], [], (h.1, I9, J10, h.2.2.2))) rfl ?_
            exact ih _ (by omega) (I9) (J10) v13 0 hB_I9 (fun o ho i => ((e_I9 o (hk_ms rfl ho) i).trans (e o ho i))) (by show (h.2.1 133 (r.toInt.toNat)).toInt ≤ _; rw [q_v1]; omega) (by omega) (by decide) rfl
          · refine qm_Ru.go 4 (c' := (66, [.ref 118, .int r, .int 1, .int (l + 1)], [], (h.1, I9, J10, h.2.2.2))) rfl ?_
            obtain ⟨v14, q_v14, e_v14⟩ := hk_add (x := l) (y := 1) (a := l.toInt) (b := 1) rfl rfl (by omega) (by omega)
            rw [q_v14]
            refine qm_Ru.go 1 (c' := (9, [.ref 118, .int r, .int 1, .int v14], [], (h.1, I9, J10, h.2.2.2))) rfl ?_
            exact ih _ (by omega) (I9) (J10) v14 1 hB_I9 (fun o ho i => ((e_I9 o (hk_ms rfl ho) i).trans (e o ho i))) (by show (h.2.1 133 (r.toInt.toNat)).toInt ≤ _; rw [q_v1]; omega) (by omega) (by decide) rfl
      · refine qm_Ru.go 1 (c' := (29, [.ref 118, .int r, .int al, .int l], [.int al], (h.1, I, J, h.2.2.2))) rfl ?_
        refine hk_zeq (ix := al.toInt) rfl rfl (fun z15 => ?_) (fun z15 => ?_)
        · refine qm_Ru.go 1 (c' := (35, [.ref 118, .int r, .int al, .int l], [.ref 118], (h.1, I, J, h.2.2.2))) rfl ?_
          refine hk_getr rfl (hH.1 118 (17, 105) rfl) rfl (hH.2 118 33 (some 137) rfl) ?_
          refine qm_Ru.go 1 (c' := (39, [.ref 118, .int r, .int al, .int l], [.int l, .ref 137], (h.1, I, J, h.2.2.2))) rfl ?_
          refine hk_bal (v := v4) rfl (hH.1 137 (2, 300) rfl) (by decide) (by omega) (by omega) (show (I) 137 (l.toInt.toNat) = _ from ((e 137 rfl (l.toInt.toNat)).trans q_v4)) ?_
          refine qm_Ru.go 0 (c' := (40, [.ref 118, .int r, .int al, .int l], [.int v4], (h.1, I, J, h.2.2.2))) rfl ?_
          refine hk_zeq (ix := v4.toInt) rfl rfl (fun z16 => by exfalso; omega) (fun z16 => ?_)
          refine qm_Ru.go 6 (c' := (51, [.ref 118, .int r, .int 1, .int l], [.int l, .ref 118], (h.1, I, J, h.2.2.2))) rfl ?_
          refine hk_inv (o := 118) (r := []) (as := [.ref 118, .int l]) rfl rfl (hH.1 118 (17, 105) rfl) rfl rfl rfl rfl (hs_true (h := (h.1, I, J, h.2.2.2)) h6 hH hBI (by omega) (by have g := hr l.toInt.toNat (by omega) (by omega); unfold lit_ok at g ⊢; rw [show pI (I) 138 = pI h.2.1 138 from ((funext fun i => congrArg Int32.toInt (e 138 rfl i)).trans rfl), show pI (I) 139 = pI h.2.1 139 from ((funext fun i => congrArg Int32.toInt (e 139 rfl i)).trans rfl), show pI (I) 140 = pI h.2.1 140 from ((funext fun i => congrArg Int32.toInt (e 140 rfl i)).trans rfl), show pI (I) 141 = pI h.2.1 141 from ((funext fun i => congrArg Int32.toInt (e 141 rfl i)).trans rfl), show pI (I) 142 = pI h.2.1 142 from ((funext fun i => congrArg Int32.toInt (e 142 rfl i)).trans rfl)]; exact g) (fun v19 I17 J18 b_v19 hB_I17 e_I17 => ?_))
          refine qm_Ru.go 0 (c' := (54, [.ref 118, .int r, .int 1, .int l], [.int v19], (h.1, I17, J18, h.2.2.2))) rfl ?_
          refine hk_zeq (ix := v19.toInt) rfl rfl (fun z20 => ?_) (fun z20 => ?_)
          · refine qm_Ru.go 3 (c' := (66, [.ref 118, .int r, .int 0, .int (l + 1)], [], (h.1, I17, J18, h.2.2.2))) rfl ?_
            obtain ⟨v21, q_v21, e_v21⟩ := hk_add (x := l) (y := 1) (a := l.toInt) (b := 1) rfl rfl (by omega) (by omega)
            rw [q_v21]
            refine qm_Ru.go 1 (c' := (9, [.ref 118, .int r, .int 0, .int v21], [], (h.1, I17, J18, h.2.2.2))) rfl ?_
            exact ih _ (by omega) (I17) (J18) v21 0 hB_I17 (fun o ho i => ((e_I17 o (hk_ms rfl ho) i).trans (e o ho i))) (by show (h.2.1 133 (r.toInt.toNat)).toInt ≤ _; rw [q_v1]; omega) (by omega) (by decide) rfl
          · refine qm_Ru.go 4 (c' := (66, [.ref 118, .int r, .int 1, .int (l + 1)], [], (h.1, I17, J18, h.2.2.2))) rfl ?_
            obtain ⟨v22, q_v22, e_v22⟩ := hk_add (x := l) (y := 1) (a := l.toInt) (b := 1) rfl rfl (by omega) (by omega)
            rw [q_v22]
            refine qm_Ru.go 1 (c' := (9, [.ref 118, .int r, .int 1, .int v22], [], (h.1, I17, J18, h.2.2.2))) rfl ?_
            exact ih _ (by omega) (I17) (J18) v22 1 hB_I17 (fun o ho i => ((e_I17 o (hk_ms rfl ho) i).trans (e o ho i))) (by show (h.2.1 133 (r.toInt.toNat)).toInt ≤ _; rw [q_v1]; omega) (by omega) (by decide) rfl
        · refine qm_Ru.go 1 (c' := (33, [.ref 118, .int r, .int al, .int l], [.int 1], (h.1, I, J, h.2.2.2))) rfl ?_
          refine qm_Ru.rt (v := (some (.int 1))) (h' := (h.1, I, J, h.2.2.2)) rfl ?_
          exact k 1 (I) (J) (by decide) hBI (fun o ho i => (e o ho i))
theorem hs_holds {L : Nat} {xs : Nat → Int32} {d : Nat} {Z : Option Value → qm_H → Prop} {h : qm_H} (h6 : 6 ≤ L) (hH : hk_H h) (hB : hk_B h.2.1) {r : Int32} (b_r : (0 : Int) ≤ r.toInt ∧ r.toInt ≤ 31) (hr : rule_ok h.2.1 r.toInt.toNat) (k : ∀ (v : Int32) (I : Nat → Nat → Int32) (J : Nat → Nat → Int64), (0 : Int) ≤ v.toInt ∧ v.toInt ≤ 1 → hk_B I → (∀ o, [145].contains o = false → ∀ i, I o i = h.2.1 o i) → Z (some (.int v)) (h.1, I, J, h.2.2.2)) : qm_Ru (some (L, xs)) (d + 50) cd_308 (qm_ent 4 [.ref 118, .int r] h) Z := by
  refine qm_Ru.go 3 (c' := (3, [.ref 118, .int r, .int 0, .float 0], [.ref 118], h)) rfl ?_
  refine hk_getr rfl (hH.1 118 (17, 105) rfl) rfl (hH.2 118 28 (some 133) rfl) ?_
  refine qm_Ru.go 1 (c' := (7, [.ref 118, .int r, .int 0, .float 0], [.int r, .ref 133], h)) rfl ?_
  obtain ⟨v1, q_v1⟩ : ∃ v, h.2.1 133 (r.toInt.toNat) = v := ⟨_, rfl⟩
  have b_v1 : (0 : Int) ≤ v1.toInt ∧ v1.toInt ≤ 300 := by rw [← q_v1]; exact hB 133 (r.toInt.toNat)
  refine hk_ial (v := v1) rfl (hH.1 133 (0, 32) rfl) (by omega) (by omega) q_v1 ?_
  refine qm_Ru.go 1 (c' := (9, [.ref 118, .int r, .int 0, .int v1], [], h)) rfl ?_
  exact hl_holds h6 hH hB b_r hr k _ h.2.1 h.2.2.1 v1 0 hB (fun _ _ _ => rfl) (by show (h.2.1 133 (r.toInt.toNat)).toInt ≤ _; rw [q_v1]; omega) (by omega) (by decide) rfl
