/-! contracts of the reference by hand -/
theorem hl_yleast {L : Nat} {xs : Nat → Int32} {d : Nat} {Z : Option Value → qm_H → Prop} {h : qm_H} (h6 : 6 ≤ L) (hH : hk_H h) (hB : hk_B h.2.1) (hC : hk_rc h.2.1) {al : Int32} (b_al : (0 : Int) ≤ al.toInt ∧ al.toInt ≤ 6) (k : ∀ (v : Int32) (I : Nat → Nat → Int32) (J : Nat → Nat → Int64), (-3 : Int) ≤ v.toInt ∧ v.toInt ≤ 5 → hk_B I → (∀ o, [20, 22, 23, 24, 25, 26, 27].contains o = false → ∀ i, I o i = h.2.1 o i) → Z (some (.int v)) (h.1, I, J, h.2.2.2)) : ∀ (m : Nat) (I : Nat → Nat → Int32) (J : Nat → Nat → Int64) (mo : Int32), hk_B I → (∀ o, [20, 22, 23, 24, 25, 26, 27].contains o = false → ∀ i, I o i = h.2.1 o i) → ((0 : Int) ≤ mo.toInt ∧ mo.toInt ≤ 6) → (6 - mo.toInt).toNat = m → qm_Ru (some (L, xs)) (d + 200) cd_169 (16, [.ref 15, .int al, .int mo], [], (h.1, I, J, h.2.2.2)) Z := by
  intro m
  induction m using Nat.strongRecOn with
  | ind m ih =>
    intro I J mo hBI e h_mo hm
    refine qm_Ru.go 2 (c' := (18, [.ref 15, .int al, .int mo], [.int 5, .int mo], (h.1, I, J, h.2.2.2))) rfl ?_
    refine hk_cgt (ix := mo.toInt) (iy := 5) rfl rfl rfl (fun z1 => ?_) (fun z1 => ?_)
    · refine qm_Ru.go 1 (c' := (53, [.ref 15, .int al, .int mo], [.int (-2)], (h.1, I, J, h.2.2.2))) rfl ?_
      refine qm_Ru.rt (v := (some (.int (-2)))) (h' := (h.1, I, J, h.2.2.2)) rfl ?_
      exact k ((-2)) (I) (J) (by decide) hBI (fun o ho i => (e o ho i))
    · refine qm_Ru.go 1 (c' := (22, [.ref 15, .int al, .int mo], [.ref 15], (h.1, I, J, h.2.2.2))) rfl ?_
      have rc_I2 : hk_rc (I) := by show sf_R (pI (I) 11) (pI (I) 12) (pI (I) 13) (pI (I) 14); rw [show pI (I) 11 = pI h.2.1 11 from ((funext fun i => congrArg Int32.toInt (e 11 rfl i)).trans rfl), show pI (I) 12 = pI h.2.1 12 from ((funext fun i => congrArg Int32.toInt (e 12 rfl i)).trans rfl), show pI (I) 13 = pI h.2.1 13 from ((funext fun i => congrArg Int32.toInt (e 13 rfl i)).trans rfl), show pI (I) 14 = pI h.2.1 14 from ((funext fun i => congrArg Int32.toInt (e 14 rfl i)).trans rfl)]; exact hC
      refine hk_inv (o := 15) (r := []) (as := [.ref 15]) rfl rfl (hH.1 15 (15, 8) rfl) rfl rfl rfl rfl (hs_lay (h := (h.1, I, J, h.2.2.2)) h6 hH hBI rc_I2 (fun v4 I2 J3 b_v4 hB_I2 e_I2 tw_I2 z_I2 => ?_))
      refine qm_Ru.go 2 (c' := (27, [.ref 15, .int al, .int mo], [.ref 15], (h.1, I2, J3, h.2.2.2))) rfl ?_
      refine hk_getr rfl (hH.1 15 (15, 8) rfl) rfl (hH.2 15 7 (some 21) rfl) ?_
      refine qm_Ru.go 1 (c' := (31, [.ref 15, .int al, .int mo], [.ref 15, .ref 21], (h.1, I2, J3, h.2.2.2))) rfl ?_
      refine hk_getr rfl (hH.1 15 (15, 8) rfl) rfl (hH.2 15 6 (some 20) rfl) ?_
      refine qm_Ru.go 3 (c' := (37, [.ref 15, .int al, .int mo], [.int mo, .int 0, .int al, .ref 20, .ref 21], (h.1, I2, J3, h.2.2.2))) rfl ?_
      refine qm_Ru.call (j := 170) (as := [.ref 21, .ref 20, .int al, .int 0, .int mo]) (c' := (40, [.ref 15, .int al, .int mo], [], (h.1, I2, J3, h.2.2.2))) rfl rfl rfl (hs_all_0 (h := (h.1, I2, J3, h.2.2.2)) h6 hH hB_I2 (al := al) (le := mo) (by omega) (by omega) tw_I2 (fun v7 I5 J6 b_v7 hB_I5 e_I5 => ?_))
      refine qm_Ru.go 0 (c' := (40, [.ref 15, .int al, .int mo], [.int v7], (h.1, I5, J6, h.2.2.2))) rfl ?_
      refine hk_zeq (ix := v7.toInt) rfl rfl (fun z8 => ?_) (fun z8 => ?_)
      · refine qm_Ru.go 1 (c' := (48, [.ref 15, .int al, .int (mo + 1)], [], (h.1, I5, J6, h.2.2.2))) rfl ?_
        obtain ⟨v9, q_v9, e_v9⟩ := hk_add (x := mo) (y := 1) (a := mo.toInt) (b := 1) rfl rfl (by omega) (by omega)
        rw [q_v9]
        refine qm_Ru.go 1 (c' := (16, [.ref 15, .int al, .int v9], [], (h.1, I5, J6, h.2.2.2))) rfl ?_
        exact ih _ (by omega) (I5) (J6) v9 hB_I5 (fun o ho i => ((e_I5 o (hk_ms rfl ho) i).trans ((e_I2 o (hk_ms rfl ho) i).trans (e o ho i)))) (by omega) rfl
      · refine qm_Ru.go 1 (c' := (44, [.ref 15, .int al, .int mo], [.int mo], (h.1, I5, J6, h.2.2.2))) rfl ?_
        refine qm_Ru.rt (v := (some (.int mo))) (h' := (h.1, I5, J6, h.2.2.2)) rfl ?_
        exact k mo (I5) (J6) (by omega) hB_I5 (fun o ho i => ((e_I5 o (hk_ms rfl ho) i).trans ((e_I2 o (hk_ms rfl ho) i).trans (e o ho i))))
theorem hc_yleast : hk_ct v_C (fun _ => True) (fun as I => as = [.ref 15]) 169 (some (-3, 5)) [15, 19, 20, 22, 23, 24, 25, 26, 27] 220 := by
  intro L xs d Z h as h6 hH hT hB hV hp hd k
  subst hp
  obtain ⟨d, rfl⟩ : ∃ e, d = e + 220 := ⟨d - 220, by omega⟩
  have hC : hk_rc h.2.1 := hV.1.1.2.2.2
  show qm_Ru (some (L, xs)) (d + 220) cd_169 (qm_ent 3 [.ref 15] h) Z
  refine qm_Ru.go 1 (c' := (1, [.ref 15, .float 0, .float 0], [.ref 15], h)) rfl ?_
  have rc_I1 : hk_rc (h.2.1) := by show sf_R (pI (h.2.1) 11) (pI (h.2.1) 12) (pI (h.2.1) 13) (pI (h.2.1) 14); rw [show pI (h.2.1) 11 = pI h.2.1 11 from rfl, show pI (h.2.1) 12 = pI h.2.1 12 from rfl, show pI (h.2.1) 13 = pI h.2.1 13 from rfl, show pI (h.2.1) 14 = pI h.2.1 14 from rfl]; exact hC
  refine hk_inv (o := 15) (r := []) (as := [.ref 15]) rfl rfl (hH.1 15 (15, 8) rfl) rfl rfl rfl rfl (hs_lay (h := h) h6 hH hB rc_I1 (fun v3 I1 J2 b_v3 hB_I1 e_I1 tw_I1 z_I1 => ?_))
  refine qm_Ru.go 3 (c' := (8, [.ref 15, .int v3, .float 0], [.int 6, .int v3], (h.1, I1, J2, h.2.2.2))) rfl ?_
  refine hk_cle (ix := v3.toInt) (iy := 6) rfl rfl rfl (fun z4 => ?_) (fun z4 => ?_)
  · refine qm_Ru.go 2 (c' := (16, [.ref 15, .int v3, .int 0], [], (h.1, I1, J2, h.2.2.2))) rfl ?_
    have hC1 : hk_rc I1 := by show sf_R (pI I1 11) (pI I1 12) (pI I1 13) (pI I1 14); rw [show pI I1 11 = pI h.2.1 11 from ((funext fun i => congrArg Int32.toInt (e_I1 11 rfl i)).trans rfl), show pI I1 12 = pI h.2.1 12 from ((funext fun i => congrArg Int32.toInt (e_I1 12 rfl i)).trans rfl), show pI I1 13 = pI h.2.1 13 from ((funext fun i => congrArg Int32.toInt (e_I1 13 rfl i)).trans rfl), show pI I1 14 = pI h.2.1 14 from ((funext fun i => congrArg Int32.toInt (e_I1 14 rfl i)).trans rfl)]; exact hC
    refine hl_yleast (h := (h.1, I1, J2, h.2.2.2)) h6 hH hB_I1 hC1 (al := v3) (by omega) (fun v I J bv hBI e => ?_) _ I1 (J2) 0 hB_I1 (fun _ _ _ => rfl) (by decide) rfl
    have eF : ∀ o, [20, 22, 23, 24, 25, 26, 27].contains o = false → ∀ i, I o i = h.2.1 o i := fun o ho i => (e o (hk_ms rfl ho) i).trans (e_I1 o (hk_ms rfl ho) i)
    exact k (some (.int v)) I J ⟨_, rfl, bv⟩ hBI (v_C_cg hV eF rfl) (fun o ho i => eF o (hk_ms rfl ho) i)
  · refine qm_Ru.go 1 (c' := (13, [.ref 15, .int v3, .float 0], [.int (-3)], (h.1, I1, J2, h.2.2.2))) rfl ?_
    refine qm_Ru.rt (v := (some (.int (-3)))) (h' := (h.1, I1, J2, h.2.2.2)) rfl ?_
    exact k (some (.int (-3))) (I1) (J2) ⟨_, rfl, ⟨by decide, by decide⟩⟩ hB_I1 (v_C_cg hV e_I1 rfl) (fun o ho i => e_I1 o (hk_ms rfl ho) i)
