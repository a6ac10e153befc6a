/-! contracts of the reference by hand -/
theorem hl_least {L : Nat} {xs : Nat → Int32} {d : Nat} {Z : Option Value → qm_H → Prop} {h : qm_H} (h6 : 6 ≤ L) (hH : hk_H h) (hB : hk_B h.2.1) (hV : v_R h.2.1) (hd : qdis (pI h.2.1 159) (h.2.1 118 61).toInt) (hq : ∀ q : Nat, (q : Int) < (h.2.1 118 61).toInt → pI h.2.1 150 (pI h.2.1 159 q).toNat = 2) (k : ∀ (v : Int32) (I : Nat → Nat → Int32) (J : Nat → Nat → Int64), (-3 : Int) ≤ v.toInt ∧ v.toInt ≤ 5 → hk_B I → (∀ o, [118, 161, 162, 163].contains o = false → ∀ i, I o i = h.2.1 o i) → (∀ i, i < 69 → I 118 i = h.2.1 118 i) → Z (some (.int v)) (h.1, I, J, h.2.2.2)) : ∀ (m : Nat) (I : Nat → Nat → Int32) (J : Nat → Nat → Int64) (mo : Int32), hk_B I → (∀ o, [118, 161, 162, 163].contains o = false → ∀ i, I o i = h.2.1 o i) → (∀ i, i < 69 → I 118 i = h.2.1 118 i) → ((0 : Int) ≤ mo.toInt ∧ mo.toInt ≤ 6) → (6 - mo.toInt).toNat = m → qm_Ru (some (L, xs)) (d + 100) cd_340 (18, [.ref 118, .int mo], [], (h.1, I, J, h.2.2.2)) Z := by
  intro m
  induction m using Nat.strongRecOn with
  | ind m ih =>
    intro I J mo hBI e e8 hmo hm
    refine qm_Ru.go 2 (c' := (21, [.ref 118, .int mo], [.int 6, .int mo], (h.1, I, J, h.2.2.2))) rfl ?_
    refine hk_cge (ix := mo.toInt) (iy := 6) rfl rfl rfl (fun z1 => ?_) (fun z1 => ?_)
    · refine qm_Ru.go 1 (c' := (50, [.ref 118, .int mo], [.int (-2)], (h.1, I, J, h.2.2.2))) rfl ?_
      refine qm_Ru.rt (v := (some (.int (-2)))) (h' := (h.1, I, J, h.2.2.2)) rfl ?_
      exact k ((-2)) (I) (J) (by decide) hBI (fun o ho i => (e o ho i)) (fun i hi => (e8 i hi))
    · refine qm_Ru.go 2 (c' := (26, [.ref 118, .int mo], [.int 0, .ref 118], (h.1, I, J, h.2.2.2))) rfl ?_
      refine hk_puti rfl (hH.1 118 (17, 105) rfl) rfl ?_
      refine qm_Ru.go 2 (c' := (31, [.ref 118, .int mo], [.int mo, .ref 118], (h.1, qm_up I 118 69 0, J, h.2.2.2))) rfl ?_
      have gs : ∀ o, [118, 161, 162, 163].contains o = false → pI (qm_up I 118 69 0) o = pI h.2.1 o := fun o ho => funext fun i => congrArg Int32.toInt ((fun o ho i => ((hk_mod ho rfl).trans (e o ho i))) o ho i)
      have g8 : ∀ i, i < 69 → (qm_up I 118 69 0) 118 i = h.2.1 118 i := (fun i hi => ((hk_neq (by omega)).trans (e8 i hi)))
      have vr : v_R (qm_up I 118 69 0) := v_R_cg2 hV (fun o ho => gs o (by revert o; decide)) (g8 44 (by decide))
      refine hk_inv (o := 118) (r := []) (as := [.ref 118, .int mo]) rfl rfl (hH.1 118 (17, 105) rfl) rfl rfl rfl rfl (hs_isserved (h := (h.1, qm_up I 118 69 0, J, h.2.2.2)) h6 hH (hb_up (o := 118) (k := 69) (x := 0) hBI (qa_in_full _)) (mo := mo) (by omega) (by show qdis (pI (qm_up I 118 69 0) 159) ((qm_up I 118 69 0) 118 61).toInt; rw [gs 159 rfl, g8 61 (by decide)]; exact hd) vr.1 (by show ∀ q : Nat, (q : Int) < ((qm_up I 118 69 0) 118 61).toInt → pI (qm_up I 118 69 0) 150 (pI (qm_up I 118 69 0) 159 q).toNat = 2; rw [gs 159 rfl, gs 150 rfl, g8 61 (by decide)]; exact hq) (fun v4 I2 J3 b_v4 hB_I2 e_I2 e8_I2 p_I2 => ?_))
      have p_I2 : 0 ≤ (I2 118 69).toInt ∧ (I2 118 69).toInt ≤ 5 := p_I2 (by show 0 ≤ ((qm_up I 118 69 0) 118 69).toInt ∧ ((qm_up I 118 69 0) 118 69).toInt ≤ 5; rw [hk_same]; decide)
      have e_I2 : ∀ o, [118, 161, 162, 163].contains o = false → ∀ i, I2 o i = (qm_up I 118 69 0) o i := e_I2
      have e8_I2 : ∀ i, i < 69 → I2 118 i = (qm_up I 118 69 0) 118 i := e8_I2
      refine qm_Ru.go 0 (c' := (34, [.ref 118, .int mo], [.int v4], (h.1, I2, J3, h.2.2.2))) rfl ?_
      refine hk_zeq (ix := v4.toInt) rfl rfl (fun z5 => ?_) (fun z5 => ?_)
      · refine qm_Ru.go 1 (c' := (45, [.ref 118, .int (mo + 1)], [], (h.1, I2, J3, h.2.2.2))) rfl ?_
        obtain ⟨v6, q_v6, e_v6⟩ := hk_add (x := mo) (y := 1) (a := mo.toInt) (b := 1) rfl rfl (by omega) (by omega)
        rw [q_v6]
        refine qm_Ru.go 1 (c' := (18, [.ref 118, .int v6], [], (h.1, I2, J3, h.2.2.2))) rfl ?_
        exact ih _ (by omega) (I2) (J3) v6 hB_I2 (fun o ho i => ((e_I2 o (hk_ms rfl ho) i).trans ((hk_mod ho rfl).trans (e o ho i)))) (fun i hi => ((e8_I2 i hi).trans ((hk_neq (by omega)).trans (e8 i hi)))) (by omega) rfl
      · refine qm_Ru.go 1 (c' := (38, [.ref 118, .int mo], [.ref 118], (h.1, I2, J3, h.2.2.2))) rfl ?_
        obtain ⟨v7, q_v7⟩ : ∃ v, I2 118 69 = v := ⟨_, rfl⟩
        refine hk_geti (v := v7) rfl (hH.1 118 (17, 105) rfl) rfl q_v7 ?_
        refine qm_Ru.go 0 (c' := (41, [.ref 118, .int mo], [.int v7], (h.1, I2, J3, h.2.2.2))) rfl ?_
        rw [q_v7] at p_I2
        refine qm_Ru.rt (v := (some (.int v7))) (h' := (h.1, I2, J3, h.2.2.2)) rfl ?_
        exact k v7 (I2) (J3) (by omega) hB_I2 (fun o ho i => ((e_I2 o (hk_ms rfl ho) i).trans ((hk_mod ho rfl).trans (e o ho i)))) (fun i hi => ((e8_I2 i hi).trans ((hk_neq (by omega)).trans (e8 i hi))))
theorem hc_rleast : hk_ct v_S (fun _ => True) (fun as I => as = [.ref 118]) 340 (some (-3, 5)) [118, 159, 160, 161, 162, 163] 110 := by
  intro L xs d Z h as h6 hH hT hB hV hp hd k
  subst hp
  obtain ⟨d, rfl⟩ : ∃ e, d = e + 110 := ⟨d - 110, by omega⟩
  show qm_Ru (some (L, xs)) (d + 110) cd_340 (qm_ent 2 [.ref 118] h) Z
  refine qm_Ru.go 1 (c' := (1, [.ref 118, .float 0], [.ref 118], h)) rfl ?_
  refine hk_inv (o := 118) (r := []) (as := [.ref 118]) rfl rfl (hH.1 118 (17, 105) rfl) rfl rfl rfl rfl (hs_queues (h := h) h6 hH hB hV.2 (fun I1 J2 hB_I1 e_I1 e8_I1 qs_I1 => ?_))
  obtain ⟨n_I1, qs_I1⟩ := qs_I1
  have hV1 : v_S I1 := v_S_cg hV e_I1 e8_I1 rfl rfl
  refine qm_Ru.go 1 (c' := (5, [.ref 118, .float 0], [.ref 118], (h.1, I1, J2, h.2.2.2))) rfl ?_
  obtain ⟨v3, q_v3⟩ : ∃ v, I1 118 61 = v := ⟨_, rfl⟩
  have b_v3 : (0 : Int) ≤ v3.toInt ∧ v3.toInt ≤ 12 := by rw [← q_v3]; exact hB_I1 118 61
  refine hk_geti (v := v3) rfl (hH.1 118 (17, 105) rfl) rfl q_v3 ?_
  refine qm_Ru.go 1 (c' := (10, [.ref 118, .float 0], [.int 6, .int v3], (h.1, I1, J2, h.2.2.2))) rfl ?_
  refine hk_cle (ix := v3.toInt) (iy := 6) rfl rfl rfl (fun z4 => ?_) (fun z4 => ?_)
  · refine qm_Ru.go 2 (c' := (18, [.ref 118, .int 0], [], (h.1, I1, J2, h.2.2.2))) rfl ?_
    refine hl_least (h := (h.1, I1, J2, h.2.2.2)) h6 hH hB_I1 hV1.1.1 qs_I1.2.2 (fun q hq => ?_) (fun v I J bv hBI e e8 => k (some (.int v)) I J ⟨_, rfl, bv⟩ hBI (v_S_cg (mod := [118, 159, 160, 161, 162, 163]) hV (fun o ho i => (e o (hk_ms rfl ho) i).trans (e_I1 o (hk_ms rfl ho) i)) (fun i hi => (e8 i (by omega)).trans (e8_I1 i hi)) rfl rfl) (fun o ho i => (e o (hk_ms rfl ho) i).trans (e_I1 o (hk_ms rfl ho) i))) _ I1 (J2) 0 hB_I1 (fun _ _ _ => rfl) (fun _ _ => rfl) (by decide) rfl
    show pI I1 150 (pI I1 159 q).toNat = 2
    rw [show pI I1 150 = pI h.2.1 150 from funext fun i => congrArg Int32.toInt (e_I1 150 rfl i)]
    exact (qs_I1.2.1 q hq).1
  · refine qm_Ru.go 1 (c' := (15, [.ref 118, .float 0], [.int (-3)], (h.1, I1, J2, h.2.2.2))) rfl ?_
    refine qm_Ru.rt (v := (some (.int (-3)))) (h' := (h.1, I1, J2, h.2.2.2)) rfl ?_
    exact k (some (.int (-3))) (I1) (J2) ⟨_, rfl, ⟨by decide, by decide⟩⟩ hB_I1 hV1 (fun o ho i => e_I1 o (hk_ms rfl ho) i)
